theorem wd_190 : (Jvm.Cond.code ({ cls := "WornSkin$Year", name := "<init>", desc := "()V" } : Jvm.MethodName) prog_11_method_1_code (1 : Nat) (Option.none : Option Jvm.ClassFile.FieldType)) ∈ wT0 := wT0_in (List.mem_append_right _ (List.mem_of_getElem? (i := 190) (by decide +kernel))) rfl
theorem wd_189 : (Jvm.Cond.instanceMethod ({ cls := "WornSkin$Year", name := "<init>", desc := "()V" } : Jvm.MethodName)) ∈ wT0 := wT0_in (List.mem_append_right _ (List.mem_of_getElem? (i := 189) (by decide +kernel))) rfl
theorem wd_205 : (Jvm.Cond.code ({ cls := "WornSkin$Seen", name := "<init>", desc := "()V" } : Jvm.MethodName) prog_7_method_1_code (1 : Nat) (Option.none : Option Jvm.ClassFile.FieldType)) ∈ wT0 := wT0_in (List.mem_append_right _ (List.mem_of_getElem? (i := 205) (by decide +kernel))) rfl
theorem wd_204 : (Jvm.Cond.instanceMethod ({ cls := "WornSkin$Seen", name := "<init>", desc := "()V" } : Jvm.MethodName)) ∈ wT0 := wT0_in (List.mem_append_right _ (List.mem_of_getElem? (i := 204) (by decide +kernel))) rfl
theorem wd_296 : (Jvm.Cond.methodLink "WornSkin$Bookmark" (25 : Nat) ({ cls := "WornSkin$Shelf", name := "<init>", desc := "(LWornSkin$Library;)V" } : Jvm.MethodName)) ∈ wT0 := wT0_in (List.mem_append_right _ (List.mem_of_getElem? (i := 296) (by decide +kernel))) rfl
theorem wd_160 : (Jvm.Cond.code ({ cls := "WornSkin$Shelf", name := "<init>", desc := "(LWornSkin$Library;)V" } : Jvm.MethodName) prog_8_method_1_code (2 : Nat) (Option.none : Option Jvm.ClassFile.FieldType)) ∈ wT0 := wT0_in (List.mem_append_right _ (List.mem_of_getElem? (i := 160) (by decide +kernel))) rfl
theorem wd_159 : (Jvm.Cond.instanceMethod ({ cls := "WornSkin$Shelf", name := "<init>", desc := "(LWornSkin$Library;)V" } : Jvm.MethodName)) ∈ wT0 := wT0_in (List.mem_append_right _ (List.mem_of_getElem? (i := 159) (by decide +kernel))) rfl
theorem wd_81 : (Jvm.Cond.code ({ cls := "WornSkin$Law", name := "<init>", desc := "()V" } : Jvm.MethodName) prog_4_method_1_code (1 : Nat) (Option.none : Option Jvm.ClassFile.FieldType)) ∈ wT0 := wT0_in (List.mem_append_right _ (List.mem_of_getElem? (i := 81) (by decide +kernel))) rfl
theorem wd_80 : (Jvm.Cond.instanceMethod ({ cls := "WornSkin$Law", name := "<init>", desc := "()V" } : Jvm.MethodName)) ∈ wT0 := wT0_in (List.mem_append_right _ (List.mem_of_getElem? (i := 80) (by decide +kernel))) rfl
theorem wd_232 : (Jvm.Cond.methodLink "WornSkin$Undoing" (15 : Nat) ({ cls := "WornSkin$Shelf", name := "<init>", desc := "(LWornSkin$Library;)V" } : Jvm.MethodName)) ∈ wT0 := wT0_in (List.mem_append_right _ (List.mem_of_getElem? (i := 232) (by decide +kernel))) rfl
theorem wd_37 : (Jvm.Cond.code ({ cls := "WornSkin$Tape", name := "<init>", desc := "()V" } : Jvm.MethodName) prog_9_method_1_code (1 : Nat) (Option.none : Option Jvm.ClassFile.FieldType)) ∈ wT0 := wT0_in (List.mem_append_right _ (List.mem_of_getElem? (i := 37) (by decide +kernel))) rfl
theorem wd_36 : (Jvm.Cond.instanceMethod ({ cls := "WornSkin$Tape", name := "<init>", desc := "()V" } : Jvm.MethodName)) ∈ wT0 := wT0_in (List.mem_append_right _ (List.mem_of_getElem? (i := 36) (by decide +kernel))) rfl
theorem wd_75 : (Jvm.Cond.code ({ cls := "WornSkin$Library", name := "<init>", desc := "()V" } : Jvm.MethodName) prog_6_method_1_code (1 : Nat) (Option.none : Option Jvm.ClassFile.FieldType)) ∈ wT0 := wT0_in (List.mem_append_right _ (List.mem_of_getElem? (i := 75) (by decide +kernel))) rfl
theorem wd_74 : (Jvm.Cond.instanceMethod ({ cls := "WornSkin$Library", name := "<init>", desc := "()V" } : Jvm.MethodName)) ∈ wT0 := wT0_in (List.mem_append_right _ (List.mem_of_getElem? (i := 74) (by decide +kernel))) rfl
theorem wd_158 : (Jvm.Cond.methodLink "WornSkin" (28 : Nat) ({ cls := "WornSkin$Shelf", name := "<init>", desc := "(LWornSkin$Library;)V" } : Jvm.MethodName)) ∈ wT0 := wT0_in (List.mem_append_right _ (List.mem_of_getElem? (i := 158) (by decide +kernel))) rfl
theorem wd_226 : (Jvm.Cond.methodLink "WornSkin" (57 : Nat) ({ cls := "WornSkin$Undoing", name := "<init>", desc := "(LWornSkin$Library;)V" } : Jvm.MethodName)) ∈ wT0 := wT0_in (List.mem_append_right _ (List.mem_of_getElem? (i := 226) (by decide +kernel))) rfl
theorem wd_228 : (Jvm.Cond.code ({ cls := "WornSkin$Undoing", name := "<init>", desc := "(LWornSkin$Library;)V" } : Jvm.MethodName) prog_10_method_1_code (3 : Nat) (Option.none : Option Jvm.ClassFile.FieldType)) ∈ wT0 := wT0_in (List.mem_append_right _ (List.mem_of_getElem? (i := 228) (by decide +kernel))) rfl
theorem wd_227 : (Jvm.Cond.instanceMethod ({ cls := "WornSkin$Undoing", name := "<init>", desc := "(LWornSkin$Library;)V" } : Jvm.MethodName)) ∈ wT0 := wT0_in (List.mem_append_right _ (List.mem_of_getElem? (i := 227) (by decide +kernel))) rfl
theorem wd_246 : (Jvm.Cond.methodLink "WornSkin" (64 : Nat) ({ cls := "WornSkin$Layout", name := "<init>", desc := "(LWornSkin$Library;)V" } : Jvm.MethodName)) ∈ wT0 := wT0_in (List.mem_append_right _ (List.mem_of_getElem? (i := 246) (by decide +kernel))) rfl
theorem wd_248 : (Jvm.Cond.code ({ cls := "WornSkin$Layout", name := "<init>", desc := "(LWornSkin$Library;)V" } : Jvm.MethodName) prog_5_method_1_code (2 : Nat) (Option.none : Option Jvm.ClassFile.FieldType)) ∈ wT0 := wT0_in (List.mem_append_right _ (List.mem_of_getElem? (i := 248) (by decide +kernel))) rfl
theorem wd_247 : (Jvm.Cond.instanceMethod ({ cls := "WornSkin$Layout", name := "<init>", desc := "(LWornSkin$Library;)V" } : Jvm.MethodName)) ∈ wT0 := wT0_in (List.mem_append_right _ (List.mem_of_getElem? (i := 247) (by decide +kernel))) rfl
theorem wd_278 : (Jvm.Cond.code ({ cls := "WornSkin$Draws", name := "<init>", desc := "()V" } : Jvm.MethodName) prog_3_method_1_code (1 : Nat) (Option.none : Option Jvm.ClassFile.FieldType)) ∈ wT0 := wT0_in (List.mem_append_right _ (List.mem_of_getElem? (i := 278) (by decide +kernel))) rfl
theorem wd_277 : (Jvm.Cond.instanceMethod ({ cls := "WornSkin$Draws", name := "<init>", desc := "()V" } : Jvm.MethodName)) ∈ wT0 := wT0_in (List.mem_append_right _ (List.mem_of_getElem? (i := 277) (by decide +kernel))) rfl
theorem wd_287 : (Jvm.Cond.methodLink "WornSkin" (82 : Nat) ({ cls := "WornSkin$Bookmark", name := "<init>", desc := "(LWornSkin$Library;)V" } : Jvm.MethodName)) ∈ wT0 := wT0_in (List.mem_append_right _ (List.mem_of_getElem? (i := 287) (by decide +kernel))) rfl
theorem wd_289 : (Jvm.Cond.code ({ cls := "WornSkin$Bookmark", name := "<init>", desc := "(LWornSkin$Library;)V" } : Jvm.MethodName) prog_2_method_1_code (2 : Nat) (Option.none : Option Jvm.ClassFile.FieldType)) ∈ wT0 := wT0_in (List.mem_append_right _ (List.mem_of_getElem? (i := 289) (by decide +kernel))) rfl
theorem wd_288 : (Jvm.Cond.instanceMethod ({ cls := "WornSkin$Bookmark", name := "<init>", desc := "(LWornSkin$Library;)V" } : Jvm.MethodName)) ∈ wT0 := wT0_in (List.mem_append_right _ (List.mem_of_getElem? (i := 288) (by decide +kernel))) rfl
theorem wd_279 : (Jvm.Cond.methodLink "WornSkin$Draws" (1 : Nat) ({ cls := "java/lang/Object", name := "<init>", desc := "()V" } : Jvm.MethodName)) ∈ wT0 := wT0_in (List.mem_append_right _ (List.mem_of_getElem? (i := 279) (by decide +kernel))) rfl
theorem wd_31 : (Jvm.Cond.instanceMethod ({ cls := "java/lang/Object", name := "<init>", desc := "()V" } : Jvm.MethodName)) ∈ wT0 := wT0_in (List.mem_append_right _ (List.mem_of_getElem? (i := 31) (by decide +kernel))) rfl
theorem wd_32 : (Jvm.Cond.code ({ cls := "java/lang/Object", name := "<init>", desc := "()V" } : Jvm.MethodName) object_method_1_code (1 : Nat) (Option.none : Option Jvm.ClassFile.FieldType)) ∈ wT0 := wT0_in (List.mem_append_right _ (List.mem_of_getElem? (i := 32) (by decide +kernel))) rfl
theorem wd_82 : (Jvm.Cond.methodLink "WornSkin$Law" (1 : Nat) ({ cls := "java/lang/Object", name := "<init>", desc := "()V" } : Jvm.MethodName)) ∈ wT0 := wT0_in (List.mem_append_right _ (List.mem_of_getElem? (i := 82) (by decide +kernel))) rfl
theorem wd_97 : (Jvm.Cond.arrayClass Jvm.ClassFile.FieldType.int) ∈ wT0 := wT0_in (List.mem_append_right _ (List.mem_of_getElem? (i := 97) (by decide +kernel))) rfl
theorem wd_38 : (Jvm.Cond.methodLink "WornSkin$Tape" (1 : Nat) ({ cls := "java/lang/Object", name := "<init>", desc := "()V" } : Jvm.MethodName)) ∈ wT0 := wT0_in (List.mem_append_right _ (List.mem_of_getElem? (i := 38) (by decide +kernel))) rfl
theorem wd_70 : (Jvm.Cond.arrayClass Jvm.ClassFile.FieldType.byte) ∈ wT0 := wT0_in (List.mem_append_right _ (List.mem_of_getElem? (i := 70) (by decide +kernel))) rfl
theorem wd_191 : (Jvm.Cond.methodLink "WornSkin$Year" (3 : Nat) ({ cls := "java/lang/Object", name := "<init>", desc := "()V" } : Jvm.MethodName)) ∈ wT0 := wT0_in (List.mem_append_right _ (List.mem_of_getElem? (i := 191) (by decide +kernel))) rfl
theorem wd_206 : (Jvm.Cond.methodLink "WornSkin$Seen" (1 : Nat) ({ cls := "java/lang/Object", name := "<init>", desc := "()V" } : Jvm.MethodName)) ∈ wT0 := wT0_in (List.mem_append_right _ (List.mem_of_getElem? (i := 206) (by decide +kernel))) rfl
theorem wd_161 : (Jvm.Cond.methodLink "WornSkin$Shelf" (3 : Nat) ({ cls := "java/lang/Object", name := "<init>", desc := "()V" } : Jvm.MethodName)) ∈ wT0 := wT0_in (List.mem_append_right _ (List.mem_of_getElem? (i := 161) (by decide +kernel))) rfl
theorem wd_76 : (Jvm.Cond.methodLink "WornSkin$Library" (3 : Nat) ({ cls := "java/lang/Object", name := "<init>", desc := "()V" } : Jvm.MethodName)) ∈ wT0 := wT0_in (List.mem_append_right _ (List.mem_of_getElem? (i := 76) (by decide +kernel))) rfl
theorem wd_96 : (Jvm.Cond.arrayClass Jvm.ClassFile.FieldType.long) ∈ wT0 := wT0_in (List.mem_append_right _ (List.mem_of_getElem? (i := 96) (by decide +kernel))) rfl
theorem wd_77 : (Jvm.Cond.classLink "WornSkin$Library" (40 : Nat) "WornSkin$Law") ∈ wT0 := wT0_in (List.mem_append_right _ (List.mem_of_getElem? (i := 77) (by decide +kernel))) rfl
theorem wd_78 : (Jvm.Cond.instantiable "WornSkin$Law" (4 : Nat)) ∈ wT0 := wT0_in (List.mem_append_right _ (List.mem_of_getElem? (i := 78) (by decide +kernel))) rfl
theorem wd_290 : (Jvm.Cond.methodLink "WornSkin$Bookmark" (1 : Nat) ({ cls := "java/lang/Object", name := "<init>", desc := "()V" } : Jvm.MethodName)) ∈ wT0 := wT0_in (List.mem_append_right _ (List.mem_of_getElem? (i := 290) (by decide +kernel))) rfl
theorem wd_291 : (Jvm.Cond.classLink "WornSkin$Bookmark" (7 : Nat) "WornSkin$Year") ∈ wT0 := wT0_in (List.mem_append_right _ (List.mem_of_getElem? (i := 291) (by decide +kernel))) rfl
theorem wd_187 : (Jvm.Cond.instantiable "WornSkin$Year" (2 : Nat)) ∈ wT0 := wT0_in (List.mem_append_right _ (List.mem_of_getElem? (i := 187) (by decide +kernel))) rfl
theorem wd_293 : (Jvm.Cond.classLink "WornSkin$Bookmark" (16 : Nat) "WornSkin$Seen") ∈ wT0 := wT0_in (List.mem_append_right _ (List.mem_of_getElem? (i := 293) (by decide +kernel))) rfl
theorem wd_202 : (Jvm.Cond.instantiable "WornSkin$Seen" (5 : Nat)) ∈ wT0 := wT0_in (List.mem_append_right _ (List.mem_of_getElem? (i := 202) (by decide +kernel))) rfl
theorem wd_295 : (Jvm.Cond.classLink "WornSkin$Bookmark" (23 : Nat) "WornSkin$Shelf") ∈ wT0 := wT0_in (List.mem_append_right _ (List.mem_of_getElem? (i := 295) (by decide +kernel))) rfl
theorem wd_157 : (Jvm.Cond.instantiable "WornSkin$Shelf" (6 : Nat)) ∈ wT0 := wT0_in (List.mem_append_right _ (List.mem_of_getElem? (i := 157) (by decide +kernel))) rfl
theorem wd_229 : (Jvm.Cond.methodLink "WornSkin$Undoing" (1 : Nat) ({ cls := "java/lang/Object", name := "<init>", desc := "()V" } : Jvm.MethodName)) ∈ wT0 := wT0_in (List.mem_append_right _ (List.mem_of_getElem? (i := 229) (by decide +kernel))) rfl
theorem wd_230 : (Jvm.Cond.classLink "WornSkin$Undoing" (9 : Nat) "WornSkin$Shelf") ∈ wT0 := wT0_in (List.mem_append_right _ (List.mem_of_getElem? (i := 230) (by decide +kernel))) rfl
theorem wd_249 : (Jvm.Cond.methodLink "WornSkin$Layout" (3 : Nat) ({ cls := "java/lang/Object", name := "<init>", desc := "()V" } : Jvm.MethodName)) ∈ wT0 := wT0_in (List.mem_append_right _ (List.mem_of_getElem? (i := 249) (by decide +kernel))) rfl
theorem wd_30 : (Jvm.Cond.methodLink "WornSkin" (3 : Nat) ({ cls := "java/lang/Object", name := "<init>", desc := "()V" } : Jvm.MethodName)) ∈ wT0 := wT0_in (List.mem_append_right _ (List.mem_of_getElem? (i := 30) (by decide +kernel))) rfl
theorem wd_33 : (Jvm.Cond.classLink "WornSkin" (9 : Nat) "WornSkin$Tape") ∈ wT0 := wT0_in (List.mem_append_right _ (List.mem_of_getElem? (i := 33) (by decide +kernel))) rfl
theorem wd_34 : (Jvm.Cond.instantiable "WornSkin$Tape" (8 : Nat)) ∈ wT0 := wT0_in (List.mem_append_right _ (List.mem_of_getElem? (i := 34) (by decide +kernel))) rfl
theorem wd_71 : (Jvm.Cond.classLink "WornSkin" (16 : Nat) "WornSkin$Library") ∈ wT0 := wT0_in (List.mem_append_right _ (List.mem_of_getElem? (i := 71) (by decide +kernel))) rfl
theorem wd_72 : (Jvm.Cond.instantiable "WornSkin$Library" (13 : Nat)) ∈ wT0 := wT0_in (List.mem_append_right _ (List.mem_of_getElem? (i := 72) (by decide +kernel))) rfl
theorem wd_156 : (Jvm.Cond.classLink "WornSkin" (26 : Nat) "WornSkin$Shelf") ∈ wT0 := wT0_in (List.mem_append_right _ (List.mem_of_getElem? (i := 156) (by decide +kernel))) rfl
theorem wd_186 : (Jvm.Cond.classLink "WornSkin" (38 : Nat) "WornSkin$Year") ∈ wT0 := wT0_in (List.mem_append_right _ (List.mem_of_getElem? (i := 186) (by decide +kernel))) rfl
theorem wd_201 : (Jvm.Cond.classLink "WornSkin" (48 : Nat) "WornSkin$Seen") ∈ wT0 := wT0_in (List.mem_append_right _ (List.mem_of_getElem? (i := 201) (by decide +kernel))) rfl
theorem wd_224 : (Jvm.Cond.classLink "WornSkin" (55 : Nat) "WornSkin$Undoing") ∈ wT0 := wT0_in (List.mem_append_right _ (List.mem_of_getElem? (i := 224) (by decide +kernel))) rfl
theorem wd_225 : (Jvm.Cond.instantiable "WornSkin$Undoing" (3 : Nat)) ∈ wT0 := wT0_in (List.mem_append_right _ (List.mem_of_getElem? (i := 225) (by decide +kernel))) rfl
theorem wd_244 : (Jvm.Cond.classLink "WornSkin" (62 : Nat) "WornSkin$Layout") ∈ wT0 := wT0_in (List.mem_append_right _ (List.mem_of_getElem? (i := 244) (by decide +kernel))) rfl
theorem wd_245 : (Jvm.Cond.instantiable "WornSkin$Layout" (7 : Nat)) ∈ wT0 := wT0_in (List.mem_append_right _ (List.mem_of_getElem? (i := 245) (by decide +kernel))) rfl
theorem wd_274 : (Jvm.Cond.classLink "WornSkin" (69 : Nat) "WornSkin$Draws") ∈ wT0 := wT0_in (List.mem_append_right _ (List.mem_of_getElem? (i := 274) (by decide +kernel))) rfl
theorem wd_275 : (Jvm.Cond.instantiable "WornSkin$Draws" (1 : Nat)) ∈ wT0 := wT0_in (List.mem_append_right _ (List.mem_of_getElem? (i := 275) (by decide +kernel))) rfl
theorem wd_284 : (Jvm.Cond.classLink "WornSkin" (76 : Nat) "WornSkin$Bookmark") ∈ wT0 := wT0_in (List.mem_append_right _ (List.mem_of_getElem? (i := 284) (by decide +kernel))) rfl
theorem wd_286 : (Jvm.Cond.instantiable "WornSkin$Bookmark" (4 : Nat)) ∈ wT0 := wT0_in (List.mem_append_right _ (List.mem_of_getElem? (i := 286) (by decide +kernel))) rfl
theorem wd_1173 : (Jvm.Cond.methodLink "WornSkinModel" (1 : Nat) ({ cls := "java/lang/Object", name := "<init>", desc := "()V" } : Jvm.MethodName)) ∈ wT0 := wT0_in (List.mem_append_right _ (List.mem_of_getElem? (i := 1173) (by decide +kernel))) rfl
theorem wd_1352 : (Jvm.Cond.arrayClass Jvm.ClassFile.FieldType.boolean) ∈ wT0 := wT0_in (List.mem_append_right _ (List.mem_of_getElem? (i := 1352) (by decide +kernel))) rfl
def wap (S : List wSh) (x : wSh) : List wSh := S ++ [x]
def wst (S : List wSh) (k : Nat) (x : wSh) : List wSh := S.set k x
def wrlP (n : Nat) : List (Option Value) → Prop
  | [] => True
  | none :: l => wrlP n l
  | some v :: l => wRf n v ∧ wrlP n l
def wrsP (n : Nat) : List Value → Prop
  | [] => True
  | v :: l => wRf n v ∧ wrsP n l
theorem wrlP_spec {n : Nat} : ∀ (ls : List (Option Value)), wrlP n ls → ∀ (i : Nat) (v : Value), ls[i]? = some (some v) → wRf n v
  | [], _, i, v, h => by simp at h
  | none :: l, hs, 0, v, h => by simp at h
  | none :: l, hs, i + 1, v, h => wrlP_spec l hs i v h
  | some w :: l, hs, 0, v, h => by
    have h : some (some w) = some (some v) := h
    cases h
    exact hs.1
  | some w :: l, hs, i + 1, v, h => wrlP_spec l hs.2 i v h
theorem wrsP_spec {n : Nat} : ∀ (st : List Value), wrsP n st → ∀ v ∈ st, wRf n v
  | [], _, v, h => by cases h
  | w :: l, hs, v, h => by
    rcases List.mem_cons.mp h with rfl | h
    · exact hs.1
    · exact wrsP_spec l hs.2 v h
section WN2
variable {p : Program} {l : Launch} {e : Env} {R : Room} {s : State} {m : MethodId} {args : Array Value} {below : List Frame} {meth : Method} {c : Code} {ck cn : Nat} {Q : State → Prop} {own : String} {cc : ByteArray} {nL : Nat} {D : va_G} {dA : Nat → ClassId} {b0 : Nat} {ad : Nat → Nat} {S : List wSh} {pc q n : Nat} {ls : List (Option Value)} {st : List Value}
theorem w_putR2 (X : wCx p s m args meth c own cc nL D dA b0 ad) {idx ci j k0 z1 N r : Nat} {C : String} {T : u_T} {ty0 : Nat → FieldType} {ty : FieldType} {fs : List (Nat × Nat)} (hd : decode cc pc = .ok (.putfield idx, 3)) (hp : pc + 3 = q) (hc : vwCl[ci]? = some (C, T, N)) (hin : ∀ w ∈ u_ws C T N, w ∈ wT0) (hty : ∀ k, k < N → parseFieldDescriptor (T k).2.2.1 = some (ty0 k)) (hnm : ∀ a, a < N → ∀ b, b < N → a ≠ b → (T a).2.1 ≠ (T b).2.1) (hj : j < N) (hlk : Cond.fieldLink own idx (T j).1 (T j).2.1 (T j).2.2.1 ∈ wT0) (hfin : (T j).2.2.2 = true) (hi : meth.name = "<init>") (hdc : (T j).1 = own) (hpd : parseFieldDescriptor (T j).2.2.1 = some ty) (hnr : ∀ a, narrow ty (.ref a) = .ref a) (hft : ∀ a, fits ty (.ref a) = true) (hS0 : S[k0]? = some (ci + 6, z1, fs)) (hjf : j < fs.length) {fs2 : List (Nat × Nat)} (hq2 : fs.set j (2, r) = fs2)
    (k : wM p l e R s m args below meth c ck cn Q nL D dA b0 ad (S.set k0 (ci + 6, z1, fs2)) q ls st wz) : wM p l e R s m args below meth c ck cn Q nL D dA b0 ad S pc ls (.ref r :: .ref k0 :: st) wz := by
  subst hq2
  exact w_putR X hd hp hc hin hty hnm hj hlk hfin hi hdc hpd hnr hft hS0 hjf k
theorem w_aastq2 (X : wCx p s m args meth c own cc nL D dA b0 ad) {t ci k0 N j r z1 N2 : Nat} {C : String} {T : u_T} {fs fs2 : List (Nat × Nat)} {i : Int32} (hd : decode cc pc = .ok (.aastore, 1)) (hp : pc + 1 = q) (hc : vwCl[ci]? = some (C, T, N2)) (ht : (wTy dA)[t]? = some (dA t, .object C)) (ht2 : 3 < t ∧ t < 6) (hS0 : S[k0]? = some (t, N, fs)) (hr : S[r]? = some (ci + 6, z1, fs2)) (hj : i.toNatClampNeg = j) (hin : vp_in i N) (hjf : j < fs.length) {fs3 : List (Nat × Nat)} (hq2 : fs.set j (2, r) = fs3)
    (k : wM p l e R s m args below meth c ck cn Q nL D dA b0 ad (S.set k0 (t, N, fs3)) q ls st wz) : wM p l e R s m args below meth c ck cn Q nL D dA b0 ad S pc ls (.ref r :: .int i :: .ref k0 :: st) wz := by
  subst hq2
  exact w_aastq X hd hp hc ht ht2 hS0 hr hj hin hjf k
theorem w_newq2 (X : wCx p s m args meth c own cc nL D dA b0 ad) {idx t N : Nat} {C : String} {x : Int32} (ht : (t = 4 ∧ C = "WornSkin$Bookmark") ∨ (t = 5 ∧ C = "WornSkin$Shelf")) (hd : decode cc pc = .ok (.anewarray idx, 3)) (hp : pc + 3 = q) (h1 : Cond.classLink own idx C ∈ wT0) (hx : ¬ x < 0) (hN : x.toNatClampNeg = N) (hby : N * 4 ≤ 536870912) {fs3 : List (Nat × Nat)} (hq2 : List.replicate N (3, 0) = fs3) (hw : wWf S) (hn : S.length = n) (hn9 : n < 99999) (hl : wRl n ls st) (hR : ck + 1 ≤ R.cells ∧ cn + N ≤ R.slots)
    (k : ∀ ad2 : Nat → Nat, (∀ k, (k < n ∨ 99999 ≤ k) → ad2 k = ad k) → wCx p s m args meth c own cc nL D dA b0 ad2 → wM p l e R s m args below meth c (ck + 1) (cn + N) Q nL D dA b0 ad2 (S ++ [(t, N, fs3)]) q ls (.ref n :: st) wz) : wM p l e R s m args below meth c ck cn Q nL D dA b0 ad S pc ls (.int x :: st) wz := by
  subst hq2
  exact w_newq X ht hd hp h1 hx hN hby hw hn hn9 hl hR k
end WN2
theorem wG_set2 {S S2 : List wSh} {n n2 k k2 t N j r : Nat} {fs fs2 : List (Nat × Nat)} (h : wG S S2 n n2 k) (hk : S2[k2]? = some (t, N, fs)) (hr : r < n2) (hk2 : k2 = k ∨ n ≤ k2) (hq2 : fs.set j (2, r) = fs2) : wG S (S2.set k2 (t, N, fs2)) n n2 k := by
  subst hq2
  exact wG_set h hk hr hk2
theorem wRf_r {n k : Nat} (h : k < n) : wRf n (.ref k) := Or.inl h
theorem w_rl {n : Nat} {ls : List (Option Value)} {st : List Value} (h1 : wrlP n ls) (h2 : wrsP n st) : wRl n ls st := ⟨wrlP_spec ls h1, wrsP_spec st h2⟩
theorem il_X0_9 : wIl RX0 9 yX9_init cX9_init 1 0 := ⟨by decide +kernel, wd_190, Or.inr ⟨"WornSkin", by decide +kernel⟩, wd_189, wd_6, rfl⟩
theorem il_X0_18 : wIl RX0 18 yX5_init cX5_init 1 0 := ⟨by decide +kernel, wd_205, Or.inr ⟨"WornSkin", by decide +kernel⟩, wd_204, wd_7, rfl⟩
theorem il_X0_25 : wIl RX0 25 yX6_init cX6_init 2 1 := ⟨by decide +kernel, wd_160, Or.inl wd_296, wd_159, wd_5, rfl⟩
theorem il_X4_42 : wIl RX4 42 yX2_init cX2_init 1 0 := ⟨by decide +kernel, wd_81, Or.inr ⟨"WornSkin", by decide +kernel⟩, wd_80, wd_4, rfl⟩
theorem il_X8_15 : wIl RX8 15 yX6_init cX6_init 2 1 := ⟨by decide +kernel, wd_160, Or.inl wd_232, wd_159, wd_5, rfl⟩
theorem il_X10_11 : wIl RX10 11 yX7_init cX7_init 1 0 := ⟨by decide +kernel, wd_37, Or.inr ⟨"WornSkin", by decide +kernel⟩, wd_36, wd_2, rfl⟩
theorem il_X10_18 : wIl RX10 18 yX4_init cX4_init 1 0 := ⟨by decide +kernel, wd_75, Or.inr ⟨"WornSkin", by decide +kernel⟩, wd_74, wd_3, rfl⟩
theorem il_X10_28 : wIl RX10 28 yX6_init cX6_init 2 1 := ⟨by decide +kernel, wd_160, Or.inl wd_158, wd_159, wd_5, rfl⟩
theorem il_X10_40 : wIl RX10 40 yX9_init cX9_init 1 0 := ⟨by decide +kernel, wd_190, Or.inr ⟨"WornSkin", by decide +kernel⟩, wd_189, wd_6, rfl⟩
theorem il_X10_50 : wIl RX10 50 yX5_init cX5_init 1 0 := ⟨by decide +kernel, wd_205, Or.inr ⟨"WornSkin", by decide +kernel⟩, wd_204, wd_7, rfl⟩
theorem il_X10_57 : wIl RX10 57 yX8_init cX8_init 3 1 := ⟨by decide +kernel, wd_228, Or.inl wd_226, wd_227, wd_8, rfl⟩
theorem il_X10_64 : wIl RX10 64 yX3_init cX3_init 2 1 := ⟨by decide +kernel, wd_248, Or.inl wd_246, wd_247, wd_9, rfl⟩
theorem il_X10_71 : wIl RX10 71 yX1_init cX1_init 1 0 := ⟨by decide +kernel, wd_278, Or.inr ⟨"WornSkin", by decide +kernel⟩, wd_277, wd_10, rfl⟩
theorem il_X10_82 : wIl RX10 82 yX0_init cX0_init 2 1 := ⟨by decide +kernel, wd_289, Or.inl wd_287, wd_288, wd_11, rfl⟩
def sX1 (S : List wSh) (n k : Nat) : List wSh := S
set_option maxRecDepth 20000 in
set_option maxHeartbeats 4000000 in
theorem gqX1 {S : List wSh} {n k : Nat} (hn : S.length = n) (hw : wWf S) (hk : S[k]? = some (7, 0, [(1, 0)])) : wG S (sX1 S n k) n (n + 0) k ∧ (sX1 S n k)[k]? = some (7, 0, [(1, 0)]) := by
  have hkl : k < n := by rw [← hn]; exact (List.getElem?_eq_some_iff.mp hk).1
  have hg : wG S S n n k := wG_rf hn hw
  exact ⟨hg, hk⟩
theorem gX1 {S : List wSh} {n k : Nat} (hn : S.length = n) (hw : wWf S) (hk : S[k]? = some (7, 0, [(1, 0)])) : wG S (sX1 S n k) n (n + 0) k := (gqX1 hn hw hk).1
theorem qX1 {S : List wSh} {n k : Nat} (hn : S.length = n) (hw : wWf S) (hk : S[k]? = some (7, 0, [(1, 0)])) : (sX1 S n k)[k]? = some (7, 0, [(1, 0)]) := (gqX1 hn hw hk).2
set_option maxRecDepth 20000 in
set_option maxHeartbeats 8000000 in
theorem iX1 (l : Launch) {S : List wSh} {n k : Nat} (hn : S.length = n) (hw : wWf S) (hk : S[k]? = some (7, 0, [(1, 0)])) (hn9 : n < 90000) : wCi l yX1_init cX1_init 1 1 0 0 S n [.ref k] (sX1 S n k) := by
  have hkl : k < n := by rw [← hn]; exact (List.getElem?_eq_some_iff.mp hk).1
  refine w_methI 0 (by decide) (Nat.le_of_ble_eq_true rfl) (ls := [some (.ref k)]) rfl ?_
  intro p e s m args below meth c D dA b0 ad X hr hin
  have hg : wG S S n n k := wG_rf hn hw
  have ha : ∀ q, (q < n ∨ 99999 ≤ q) → ad q = ad q := fun _ _ => rfl
  refine w_aload_n X dX1_init_0 rfl rfl rfl ?_
  refine w_obj X dX1_init_1 rfl wd_279 wd_31 wd_32 (Nat.le_of_ble_eq_true rfl) (Nat.le_of_ble_eq_true rfl) ?_
  exact w_vretI X dX1_init_4 hr ha (Nat.le_of_ble_eq_true rfl) (Nat.le_of_ble_eq_true rfl)
def sX2 (S : List wSh) (n k : Nat) : List wSh := (wst (wap (wst (wap S (0, 1000, [])) k (8, 0, [(2, n), (0, 0), (0, 0), (3, 0)])) (0, 32, [])) k (8, 0, [(2, n), (0, 0), (0, 0), (2, (n + 1))]))
set_option maxRecDepth 20000 in
set_option maxHeartbeats 4000000 in
theorem gqX2 {S : List wSh} {n k : Nat} (hn : S.length = n) (hw : wWf S) (hk : S[k]? = some (8, 0, [(3, 0), (0, 0), (0, 0), (3, 0)])) : wG S (sX2 S n k) n (n + 2) k ∧ (sX2 S n k)[k]? = some (8, 0, [(2, n), (0, 0), (0, 0), (2, (n + 1))]) := by
  have hkl : k < n := by rw [← hn]; exact (List.getElem?_eq_some_iff.mp hk).1
  have hg : wG S S n n k := wG_rf hn hw
  have hk := w_apk (x := (0, 1000, [])) hk
  have hg : wG S (S ++ [(0, 1000, [])]) n (n + 1) k := wG_app (t := 0) (N := 1000) (fs := []) hg (by simp)
  generalize hs1 : S ++ [(0, 1000, [])] = S1 at hk hg
  have hg : wG S (S1.set k (8, 0, [(2, n), (0, 0), (0, 0), (3, 0)])) n (n + 1) k := wG_set2 (j := 0) (r := n) hg hk (by omega) (Or.inl rfl) rfl
  have hk := w_stk (x := (8, 0, [(2, n), (0, 0), (0, 0), (3, 0)])) hk
  generalize hs2 : S1.set k (8, 0, [(2, n), (0, 0), (0, 0), (3, 0)]) = S2 at hk hg
  have hk := w_apk (x := (0, 32, [])) hk
  have hg : wG S (S2 ++ [(0, 32, [])]) n (n + 2) k := wG_app (t := 0) (N := 32) (fs := []) hg (by simp)
  generalize hs3 : S2 ++ [(0, 32, [])] = S3 at hk hg
  have hg : wG S (S3.set k (8, 0, [(2, n), (0, 0), (0, 0), (2, (n + 1))])) n (n + 2) k := wG_set2 (j := 3) (r := (n + 1)) hg hk (by omega) (Or.inl rfl) rfl
  have hk := w_stk (x := (8, 0, [(2, n), (0, 0), (0, 0), (2, (n + 1))])) hk
  generalize hs4 : S3.set k (8, 0, [(2, n), (0, 0), (0, 0), (2, (n + 1))]) = S4 at hk hg
  subst hs1
  subst hs2
  subst hs3
  subst hs4
  exact ⟨hg, hk⟩
theorem gX2 {S : List wSh} {n k : Nat} (hn : S.length = n) (hw : wWf S) (hk : S[k]? = some (8, 0, [(3, 0), (0, 0), (0, 0), (3, 0)])) : wG S (sX2 S n k) n (n + 2) k := (gqX2 hn hw hk).1
theorem qX2 {S : List wSh} {n k : Nat} (hn : S.length = n) (hw : wWf S) (hk : S[k]? = some (8, 0, [(3, 0), (0, 0), (0, 0), (3, 0)])) : (sX2 S n k)[k]? = some (8, 0, [(2, n), (0, 0), (0, 0), (2, (n + 1))]) := (gqX2 hn hw hk).2
set_option maxRecDepth 20000 in
set_option maxHeartbeats 8000000 in
theorem iX2 (l : Launch) {S : List wSh} {n k : Nat} (hn : S.length = n) (hw : wWf S) (hk : S[k]? = some (8, 0, [(3, 0), (0, 0), (0, 0), (3, 0)])) (hn9 : n < 90000) : wCi l yX2_init cX2_init 1 1 2 1032 S n [.ref k] (sX2 S n k) := by
  have hkl : k < n := by rw [← hn]; exact (List.getElem?_eq_some_iff.mp hk).1
  refine w_methI 0 (by decide) (Nat.le_of_ble_eq_true rfl) (ls := [some (.ref k)]) rfl ?_
  intro p e s m args below meth c D dA b0 ad X hr hin
  have hg : wG S S n n k := wG_rf hn hw
  have ha : ∀ q, (q < n ∨ 99999 ≤ q) → ad q = ad q := fun _ _ => rfl
  refine w_aload_n X dX2_init_0 rfl rfl rfl ?_
  refine w_obj X dX2_init_1 rfl wd_82 wd_31 wd_32 (Nat.le_of_ble_eq_true rfl) (Nat.le_of_ble_eq_true rfl) ?_
  refine w_aload_n X dX2_init_4 rfl rfl rfl ?_
  refine w_sipush X dX2_init_5 rfl cs_1000 ?_
  refine w_newaI X dX2_init_8 rfl wd_97 (by decide) (N := 1000) (by decide) (by decide) hg.2.2.1 hg.1 (by omega) (w_rl ⟨wRf_r (by omega), trivial⟩ ⟨wRf_r (by omega), trivial⟩) ⟨Nat.le_of_ble_eq_true rfl, Nat.le_of_ble_eq_true rfl⟩ (fun ad1 ha1 X => ?_)
  have ha : ∀ q, (q < n ∨ 99999 ≤ q) → ad1 q = ad q := fun q hq => (ha1 q (by omega)).trans (ha q hq)
  have hk := w_apk (x := (0, 1000, [])) hk
  have hg : wG S (S ++ [(0, 1000, [])]) n (n + 1) k := wG_app (t := 0) (N := 1000) (fs := []) hg (by simp)
  generalize hs1 : S ++ [(0, 1000, [])] = S1 at hk hg ⊢
  refine w_putR2 X dX2_init_10 rfl (ci := 2) (C := RX2) (T := TX2) (N := 4) (ty0 := tyX2) (ty := tyX2 0) (j := 0) rfl wcl_2 tyX2_ok nmX2 (by decide) wd_83 rfl hin rfl (by decide +kernel) (fun _ => rfl) (fun _ => rfl) hk (Nat.le_of_ble_eq_true rfl) (fs2 := [(2, n), (0, 0), (0, 0), (3, 0)]) rfl ?_
  have hg : wG S (S1.set k (8, 0, [(2, n), (0, 0), (0, 0), (3, 0)])) n (n + 1) k := wG_set2 (j := 0) (r := n) hg hk (by omega) (Or.inl rfl) rfl
  have hk := w_stk (x := (8, 0, [(2, n), (0, 0), (0, 0), (3, 0)])) hk
  generalize hs2 : S1.set k (8, 0, [(2, n), (0, 0), (0, 0), (3, 0)]) = S2 at hk hg ⊢
  refine w_aload_n X dX2_init_13 rfl rfl rfl ?_
  refine w_bipush X dX2_init_14 rfl cb_32 ?_
  refine w_newaI X dX2_init_16 rfl wd_97 (by decide) (N := 32) (by decide) (by decide) hg.2.2.1 hg.1 (by omega) (w_rl ⟨wRf_r (by omega), trivial⟩ ⟨wRf_r (by omega), trivial⟩) ⟨Nat.le_of_ble_eq_true rfl, Nat.le_of_ble_eq_true rfl⟩ (fun ad2 ha2 X => ?_)
  have ha : ∀ q, (q < n ∨ 99999 ≤ q) → ad2 q = ad q := fun q hq => (ha2 q (by omega)).trans (ha q hq)
  have hk := w_apk (x := (0, 32, [])) hk
  have hg : wG S (S2 ++ [(0, 32, [])]) n (n + 2) k := wG_app (t := 0) (N := 32) (fs := []) hg (by simp)
  generalize hs3 : S2 ++ [(0, 32, [])] = S3 at hk hg ⊢
  refine w_putR2 X dX2_init_18 rfl (ci := 2) (C := RX2) (T := TX2) (N := 4) (ty0 := tyX2) (ty := tyX2 3) (j := 3) rfl wcl_2 tyX2_ok nmX2 (by decide) wd_86 rfl hin rfl (by decide +kernel) (fun _ => rfl) (fun _ => rfl) hk (Nat.le_of_ble_eq_true rfl) (fs2 := [(2, n), (0, 0), (0, 0), (2, (n + 1))]) rfl ?_
  have hg : wG S (S3.set k (8, 0, [(2, n), (0, 0), (0, 0), (2, (n + 1))])) n (n + 2) k := wG_set2 (j := 3) (r := (n + 1)) hg hk (by omega) (Or.inl rfl) rfl
  have hk := w_stk (x := (8, 0, [(2, n), (0, 0), (0, 0), (2, (n + 1))])) hk
  generalize hs4 : S3.set k (8, 0, [(2, n), (0, 0), (0, 0), (2, (n + 1))]) = S4 at hk hg ⊢
  subst hs1
  subst hs2
  subst hs3
  subst hs4
  exact w_vretI X dX2_init_21 hr ha (Nat.le_of_ble_eq_true rfl) (Nat.le_of_ble_eq_true rfl)
def sX7 (S : List wSh) (n k : Nat) : List wSh := (wst (wap S (1, 1000, [])) k (13, 0, [(2, n), (0, 0), (0, 0), (0, 0), (0, 0), (0, 0), (1, 0), (0, 0)]))
set_option maxRecDepth 20000 in
set_option maxHeartbeats 4000000 in
theorem gqX7 {S : List wSh} {n k : Nat} (hn : S.length = n) (hw : wWf S) (hk : S[k]? = some (13, 0, [(3, 0), (0, 0), (0, 0), (0, 0), (0, 0), (0, 0), (1, 0), (0, 0)])) : wG S (sX7 S n k) n (n + 1) k ∧ (sX7 S n k)[k]? = some (13, 0, [(2, n), (0, 0), (0, 0), (0, 0), (0, 0), (0, 0), (1, 0), (0, 0)]) := by
  have hkl : k < n := by rw [← hn]; exact (List.getElem?_eq_some_iff.mp hk).1
  have hg : wG S S n n k := wG_rf hn hw
  have hk := w_apk (x := (1, 1000, [])) hk
  have hg : wG S (S ++ [(1, 1000, [])]) n (n + 1) k := wG_app (t := 1) (N := 1000) (fs := []) hg (by simp)
  generalize hs1 : S ++ [(1, 1000, [])] = S1 at hk hg
  have hg : wG S (S1.set k (13, 0, [(2, n), (0, 0), (0, 0), (0, 0), (0, 0), (0, 0), (1, 0), (0, 0)])) n (n + 1) k := wG_set2 (j := 0) (r := n) hg hk (by omega) (Or.inl rfl) rfl
  have hk := w_stk (x := (13, 0, [(2, n), (0, 0), (0, 0), (0, 0), (0, 0), (0, 0), (1, 0), (0, 0)])) hk
  generalize hs2 : S1.set k (13, 0, [(2, n), (0, 0), (0, 0), (0, 0), (0, 0), (0, 0), (1, 0), (0, 0)]) = S2 at hk hg
  subst hs1
  subst hs2
  exact ⟨hg, hk⟩
theorem gX7 {S : List wSh} {n k : Nat} (hn : S.length = n) (hw : wWf S) (hk : S[k]? = some (13, 0, [(3, 0), (0, 0), (0, 0), (0, 0), (0, 0), (0, 0), (1, 0), (0, 0)])) : wG S (sX7 S n k) n (n + 1) k := (gqX7 hn hw hk).1
theorem qX7 {S : List wSh} {n k : Nat} (hn : S.length = n) (hw : wWf S) (hk : S[k]? = some (13, 0, [(3, 0), (0, 0), (0, 0), (0, 0), (0, 0), (0, 0), (1, 0), (0, 0)])) : (sX7 S n k)[k]? = some (13, 0, [(2, n), (0, 0), (0, 0), (0, 0), (0, 0), (0, 0), (1, 0), (0, 0)]) := (gqX7 hn hw hk).2
set_option maxRecDepth 20000 in
set_option maxHeartbeats 8000000 in
theorem iX7 (l : Launch) {S : List wSh} {n k : Nat} (hn : S.length = n) (hw : wWf S) (hk : S[k]? = some (13, 0, [(3, 0), (0, 0), (0, 0), (0, 0), (0, 0), (0, 0), (1, 0), (0, 0)])) (hn9 : n < 90000) : wCi l yX7_init cX7_init 1 1 1 1000 S n [.ref k] (sX7 S n k) := by
  have hkl : k < n := by rw [← hn]; exact (List.getElem?_eq_some_iff.mp hk).1
  refine w_methI 0 (by decide) (Nat.le_of_ble_eq_true rfl) (ls := [some (.ref k)]) rfl ?_
  intro p e s m args below meth c D dA b0 ad X hr hin
  have hg : wG S S n n k := wG_rf hn hw
  have ha : ∀ q, (q < n ∨ 99999 ≤ q) → ad q = ad q := fun _ _ => rfl
  refine w_aload_n X dX7_init_0 rfl rfl rfl ?_
  refine w_obj X dX7_init_1 rfl wd_38 wd_31 wd_32 (Nat.le_of_ble_eq_true rfl) (Nat.le_of_ble_eq_true rfl) ?_
  refine w_aload_n X dX7_init_4 rfl rfl rfl ?_
  refine w_sipush X dX7_init_5 rfl cs_1000 ?_
  refine w_newaB X dX7_init_8 rfl wd_70 (by decide) (N := 1000) (by decide) (by decide) hg.2.2.1 hg.1 (by omega) (w_rl ⟨wRf_r (by omega), trivial⟩ ⟨wRf_r (by omega), trivial⟩) ⟨Nat.le_of_ble_eq_true rfl, Nat.le_of_ble_eq_true rfl⟩ (fun ad1 ha1 X => ?_)
  have ha : ∀ q, (q < n ∨ 99999 ≤ q) → ad1 q = ad q := fun q hq => (ha1 q (by omega)).trans (ha q hq)
  have hk := w_apk (x := (1, 1000, [])) hk
  have hg : wG S (S ++ [(1, 1000, [])]) n (n + 1) k := wG_app (t := 1) (N := 1000) (fs := []) hg (by simp)
  generalize hs1 : S ++ [(1, 1000, [])] = S1 at hk hg ⊢
  refine w_putR2 X dX7_init_10 rfl (ci := 7) (C := RX7) (T := TX7) (N := 8) (ty0 := tyX7) (ty := tyX7 0) (j := 0) rfl wcl_7 tyX7_ok nmX7 (by decide) wd_39 rfl hin rfl (by decide +kernel) (fun _ => rfl) (fun _ => rfl) hk (Nat.le_of_ble_eq_true rfl) (fs2 := [(2, n), (0, 0), (0, 0), (0, 0), (0, 0), (0, 0), (1, 0), (0, 0)]) rfl ?_
  have hg : wG S (S1.set k (13, 0, [(2, n), (0, 0), (0, 0), (0, 0), (0, 0), (0, 0), (1, 0), (0, 0)])) n (n + 1) k := wG_set2 (j := 0) (r := n) hg hk (by omega) (Or.inl rfl) rfl
  have hk := w_stk (x := (13, 0, [(2, n), (0, 0), (0, 0), (0, 0), (0, 0), (0, 0), (1, 0), (0, 0)])) hk
  generalize hs2 : S1.set k (13, 0, [(2, n), (0, 0), (0, 0), (0, 0), (0, 0), (0, 0), (1, 0), (0, 0)]) = S2 at hk hg ⊢
  subst hs1
  subst hs2
  exact w_vretI X dX7_init_13 hr ha (Nat.le_of_ble_eq_true rfl) (Nat.le_of_ble_eq_true rfl)
def sX9 (S : List wSh) (n k : Nat) : List wSh := (wst (wap S (0, 40, [])) k (15, 0, [(0, 0), (2, n)]))
set_option maxRecDepth 20000 in
set_option maxHeartbeats 4000000 in
theorem gqX9 {S : List wSh} {n k : Nat} (hn : S.length = n) (hw : wWf S) (hk : S[k]? = some (15, 0, [(0, 0), (3, 0)])) : wG S (sX9 S n k) n (n + 1) k ∧ (sX9 S n k)[k]? = some (15, 0, [(0, 0), (2, n)]) := by
  have hkl : k < n := by rw [← hn]; exact (List.getElem?_eq_some_iff.mp hk).1
  have hg : wG S S n n k := wG_rf hn hw
  have hk := w_apk (x := (0, 40, [])) hk
  have hg : wG S (S ++ [(0, 40, [])]) n (n + 1) k := wG_app (t := 0) (N := 40) (fs := []) hg (by simp)
  generalize hs1 : S ++ [(0, 40, [])] = S1 at hk hg
  have hg : wG S (S1.set k (15, 0, [(0, 0), (2, n)])) n (n + 1) k := wG_set2 (j := 1) (r := n) hg hk (by omega) (Or.inl rfl) rfl
  have hk := w_stk (x := (15, 0, [(0, 0), (2, n)])) hk
  generalize hs2 : S1.set k (15, 0, [(0, 0), (2, n)]) = S2 at hk hg
  subst hs1
  subst hs2
  exact ⟨hg, hk⟩
theorem gX9 {S : List wSh} {n k : Nat} (hn : S.length = n) (hw : wWf S) (hk : S[k]? = some (15, 0, [(0, 0), (3, 0)])) : wG S (sX9 S n k) n (n + 1) k := (gqX9 hn hw hk).1
theorem qX9 {S : List wSh} {n k : Nat} (hn : S.length = n) (hw : wWf S) (hk : S[k]? = some (15, 0, [(0, 0), (3, 0)])) : (sX9 S n k)[k]? = some (15, 0, [(0, 0), (2, n)]) := (gqX9 hn hw hk).2
set_option maxRecDepth 20000 in
set_option maxHeartbeats 8000000 in
theorem iX9 (l : Launch) {S : List wSh} {n k : Nat} (hn : S.length = n) (hw : wWf S) (hk : S[k]? = some (15, 0, [(0, 0), (3, 0)])) (hn9 : n < 90000) : wCi l yX9_init cX9_init 1 1 1 40 S n [.ref k] (sX9 S n k) := by
  have hkl : k < n := by rw [← hn]; exact (List.getElem?_eq_some_iff.mp hk).1
  refine w_methI 0 (by decide) (Nat.le_of_ble_eq_true rfl) (ls := [some (.ref k)]) rfl ?_
  intro p e s m args below meth c D dA b0 ad X hr hin
  have hg : wG S S n n k := wG_rf hn hw
  have ha : ∀ q, (q < n ∨ 99999 ≤ q) → ad q = ad q := fun _ _ => rfl
  refine w_aload_n X dX9_init_0 rfl rfl rfl ?_
  refine w_obj X dX9_init_1 rfl wd_191 wd_31 wd_32 (Nat.le_of_ble_eq_true rfl) (Nat.le_of_ble_eq_true rfl) ?_
  refine w_aload_n X dX9_init_4 rfl rfl rfl ?_
  refine w_bipush X dX9_init_5 rfl cb_40 ?_
  refine w_newaI X dX9_init_7 rfl wd_97 (by decide) (N := 40) (by decide) (by decide) hg.2.2.1 hg.1 (by omega) (w_rl ⟨wRf_r (by omega), trivial⟩ ⟨wRf_r (by omega), trivial⟩) ⟨Nat.le_of_ble_eq_true rfl, Nat.le_of_ble_eq_true rfl⟩ (fun ad1 ha1 X => ?_)
  have ha : ∀ q, (q < n ∨ 99999 ≤ q) → ad1 q = ad q := fun q hq => (ha1 q (by omega)).trans (ha q hq)
  have hk := w_apk (x := (0, 40, [])) hk
  have hg : wG S (S ++ [(0, 40, [])]) n (n + 1) k := wG_app (t := 0) (N := 40) (fs := []) hg (by simp)
  generalize hs1 : S ++ [(0, 40, [])] = S1 at hk hg ⊢
  refine w_putR2 X dX9_init_9 rfl (ci := 9) (C := RX9) (T := TX9) (N := 2) (ty0 := tyX9) (ty := tyX9 1) (j := 1) rfl wcl_9 tyX9_ok nmX9 (by decide) wd_194 rfl hin rfl (by decide +kernel) (fun _ => rfl) (fun _ => rfl) hk (Nat.le_of_ble_eq_true rfl) (fs2 := [(0, 0), (2, n)]) rfl ?_
  have hg : wG S (S1.set k (15, 0, [(0, 0), (2, n)])) n (n + 1) k := wG_set2 (j := 1) (r := n) hg hk (by omega) (Or.inl rfl) rfl
  have hk := w_stk (x := (15, 0, [(0, 0), (2, n)])) hk
  generalize hs2 : S1.set k (15, 0, [(0, 0), (2, n)]) = S2 at hk hg ⊢
  subst hs1
  subst hs2
  exact w_vretI X dX9_init_12 hr ha (Nat.le_of_ble_eq_true rfl) (Nat.le_of_ble_eq_true rfl)
def sX5 (S : List wSh) (n k : Nat) : List wSh := (wst (wap (wst (wap (wst (wap (wst (wap S (0, 8, [])) k (11, 0, [(0, 0), (2, n), (3, 0), (3, 0), (3, 0)])) (0, 8, [])) k (11, 0, [(0, 0), (2, n), (2, (n + 1)), (3, 0), (3, 0)])) (0, 8, [])) k (11, 0, [(0, 0), (2, n), (2, (n + 1)), (2, (n + 2)), (3, 0)])) (0, 8, [])) k (11, 0, [(0, 0), (2, n), (2, (n + 1)), (2, (n + 2)), (2, (n + 3))]))
set_option maxRecDepth 20000 in
set_option maxHeartbeats 4000000 in
theorem gqX5 {S : List wSh} {n k : Nat} (hn : S.length = n) (hw : wWf S) (hk : S[k]? = some (11, 0, [(0, 0), (3, 0), (3, 0), (3, 0), (3, 0)])) : wG S (sX5 S n k) n (n + 4) k ∧ (sX5 S n k)[k]? = some (11, 0, [(0, 0), (2, n), (2, (n + 1)), (2, (n + 2)), (2, (n + 3))]) := by
  have hkl : k < n := by rw [← hn]; exact (List.getElem?_eq_some_iff.mp hk).1
  have hg : wG S S n n k := wG_rf hn hw
  have hk := w_apk (x := (0, 8, [])) hk
  have hg : wG S (S ++ [(0, 8, [])]) n (n + 1) k := wG_app (t := 0) (N := 8) (fs := []) hg (by simp)
  generalize hs1 : S ++ [(0, 8, [])] = S1 at hk hg
  have hg : wG S (S1.set k (11, 0, [(0, 0), (2, n), (3, 0), (3, 0), (3, 0)])) n (n + 1) k := wG_set2 (j := 1) (r := n) hg hk (by omega) (Or.inl rfl) rfl
  have hk := w_stk (x := (11, 0, [(0, 0), (2, n), (3, 0), (3, 0), (3, 0)])) hk
  generalize hs2 : S1.set k (11, 0, [(0, 0), (2, n), (3, 0), (3, 0), (3, 0)]) = S2 at hk hg
  have hk := w_apk (x := (0, 8, [])) hk
  have hg : wG S (S2 ++ [(0, 8, [])]) n (n + 2) k := wG_app (t := 0) (N := 8) (fs := []) hg (by simp)
  generalize hs3 : S2 ++ [(0, 8, [])] = S3 at hk hg
  have hg : wG S (S3.set k (11, 0, [(0, 0), (2, n), (2, (n + 1)), (3, 0), (3, 0)])) n (n + 2) k := wG_set2 (j := 2) (r := (n + 1)) hg hk (by omega) (Or.inl rfl) rfl
  have hk := w_stk (x := (11, 0, [(0, 0), (2, n), (2, (n + 1)), (3, 0), (3, 0)])) hk
  generalize hs4 : S3.set k (11, 0, [(0, 0), (2, n), (2, (n + 1)), (3, 0), (3, 0)]) = S4 at hk hg
  have hk := w_apk (x := (0, 8, [])) hk
  have hg : wG S (S4 ++ [(0, 8, [])]) n (n + 3) k := wG_app (t := 0) (N := 8) (fs := []) hg (by simp)
  generalize hs5 : S4 ++ [(0, 8, [])] = S5 at hk hg
  have hg : wG S (S5.set k (11, 0, [(0, 0), (2, n), (2, (n + 1)), (2, (n + 2)), (3, 0)])) n (n + 3) k := wG_set2 (j := 3) (r := (n + 2)) hg hk (by omega) (Or.inl rfl) rfl
  have hk := w_stk (x := (11, 0, [(0, 0), (2, n), (2, (n + 1)), (2, (n + 2)), (3, 0)])) hk
  generalize hs6 : S5.set k (11, 0, [(0, 0), (2, n), (2, (n + 1)), (2, (n + 2)), (3, 0)]) = S6 at hk hg
  have hk := w_apk (x := (0, 8, [])) hk
  have hg : wG S (S6 ++ [(0, 8, [])]) n (n + 4) k := wG_app (t := 0) (N := 8) (fs := []) hg (by simp)
  generalize hs7 : S6 ++ [(0, 8, [])] = S7 at hk hg
  have hg : wG S (S7.set k (11, 0, [(0, 0), (2, n), (2, (n + 1)), (2, (n + 2)), (2, (n + 3))])) n (n + 4) k := wG_set2 (j := 4) (r := (n + 3)) hg hk (by omega) (Or.inl rfl) rfl
  have hk := w_stk (x := (11, 0, [(0, 0), (2, n), (2, (n + 1)), (2, (n + 2)), (2, (n + 3))])) hk
  generalize hs8 : S7.set k (11, 0, [(0, 0), (2, n), (2, (n + 1)), (2, (n + 2)), (2, (n + 3))]) = S8 at hk hg
  subst hs1
  subst hs2
  subst hs3
  subst hs4
  subst hs5
  subst hs6
  subst hs7
  subst hs8
  exact ⟨hg, hk⟩
theorem gX5 {S : List wSh} {n k : Nat} (hn : S.length = n) (hw : wWf S) (hk : S[k]? = some (11, 0, [(0, 0), (3, 0), (3, 0), (3, 0), (3, 0)])) : wG S (sX5 S n k) n (n + 4) k := (gqX5 hn hw hk).1
theorem qX5 {S : List wSh} {n k : Nat} (hn : S.length = n) (hw : wWf S) (hk : S[k]? = some (11, 0, [(0, 0), (3, 0), (3, 0), (3, 0), (3, 0)])) : (sX5 S n k)[k]? = some (11, 0, [(0, 0), (2, n), (2, (n + 1)), (2, (n + 2)), (2, (n + 3))]) := (gqX5 hn hw hk).2
set_option maxRecDepth 20000 in
set_option maxHeartbeats 8000000 in
theorem iX5 (l : Launch) {S : List wSh} {n k : Nat} (hn : S.length = n) (hw : wWf S) (hk : S[k]? = some (11, 0, [(0, 0), (3, 0), (3, 0), (3, 0), (3, 0)])) (hn9 : n < 90000) : wCi l yX5_init cX5_init 1 1 4 32 S n [.ref k] (sX5 S n k) := by
  have hkl : k < n := by rw [← hn]; exact (List.getElem?_eq_some_iff.mp hk).1
  refine w_methI 0 (by decide) (Nat.le_of_ble_eq_true rfl) (ls := [some (.ref k)]) rfl ?_
  intro p e s m args below meth c D dA b0 ad X hr hin
  have hg : wG S S n n k := wG_rf hn hw
  have ha : ∀ q, (q < n ∨ 99999 ≤ q) → ad q = ad q := fun _ _ => rfl
  refine w_aload_n X dX5_init_0 rfl rfl rfl ?_
  refine w_obj X dX5_init_1 rfl wd_206 wd_31 wd_32 (Nat.le_of_ble_eq_true rfl) (Nat.le_of_ble_eq_true rfl) ?_
  refine w_aload_n X dX5_init_4 rfl rfl rfl ?_
  refine w_bipush X dX5_init_5 rfl cb_8 ?_
  refine w_newaI X dX5_init_7 rfl wd_97 (by decide) (N := 8) (by decide) (by decide) hg.2.2.1 hg.1 (by omega) (w_rl ⟨wRf_r (by omega), trivial⟩ ⟨wRf_r (by omega), trivial⟩) ⟨Nat.le_of_ble_eq_true rfl, Nat.le_of_ble_eq_true rfl⟩ (fun ad1 ha1 X => ?_)
  have ha : ∀ q, (q < n ∨ 99999 ≤ q) → ad1 q = ad q := fun q hq => (ha1 q (by omega)).trans (ha q hq)
  have hk := w_apk (x := (0, 8, [])) hk
  have hg : wG S (S ++ [(0, 8, [])]) n (n + 1) k := wG_app (t := 0) (N := 8) (fs := []) hg (by simp)
  generalize hs1 : S ++ [(0, 8, [])] = S1 at hk hg ⊢
  refine w_putR2 X dX5_init_9 rfl (ci := 5) (C := RX5) (T := TX5) (N := 5) (ty0 := tyX5) (ty := tyX5 1) (j := 1) rfl wcl_5 tyX5_ok nmX5 (by decide) wd_209 rfl hin rfl (by decide +kernel) (fun _ => rfl) (fun _ => rfl) hk (Nat.le_of_ble_eq_true rfl) (fs2 := [(0, 0), (2, n), (3, 0), (3, 0), (3, 0)]) rfl ?_
  have hg : wG S (S1.set k (11, 0, [(0, 0), (2, n), (3, 0), (3, 0), (3, 0)])) n (n + 1) k := wG_set2 (j := 1) (r := n) hg hk (by omega) (Or.inl rfl) rfl
  have hk := w_stk (x := (11, 0, [(0, 0), (2, n), (3, 0), (3, 0), (3, 0)])) hk
  generalize hs2 : S1.set k (11, 0, [(0, 0), (2, n), (3, 0), (3, 0), (3, 0)]) = S2 at hk hg ⊢
  refine w_aload_n X dX5_init_12 rfl rfl rfl ?_
  refine w_bipush X dX5_init_13 rfl cb_8 ?_
  refine w_newaI X dX5_init_15 rfl wd_97 (by decide) (N := 8) (by decide) (by decide) hg.2.2.1 hg.1 (by omega) (w_rl ⟨wRf_r (by omega), trivial⟩ ⟨wRf_r (by omega), trivial⟩) ⟨Nat.le_of_ble_eq_true rfl, Nat.le_of_ble_eq_true rfl⟩ (fun ad2 ha2 X => ?_)
  have ha : ∀ q, (q < n ∨ 99999 ≤ q) → ad2 q = ad q := fun q hq => (ha2 q (by omega)).trans (ha q hq)
  have hk := w_apk (x := (0, 8, [])) hk
  have hg : wG S (S2 ++ [(0, 8, [])]) n (n + 2) k := wG_app (t := 0) (N := 8) (fs := []) hg (by simp)
  generalize hs3 : S2 ++ [(0, 8, [])] = S3 at hk hg ⊢
  refine w_putR2 X dX5_init_17 rfl (ci := 5) (C := RX5) (T := TX5) (N := 5) (ty0 := tyX5) (ty := tyX5 2) (j := 2) rfl wcl_5 tyX5_ok nmX5 (by decide) wd_210 rfl hin rfl (by decide +kernel) (fun _ => rfl) (fun _ => rfl) hk (Nat.le_of_ble_eq_true rfl) (fs2 := [(0, 0), (2, n), (2, (n + 1)), (3, 0), (3, 0)]) rfl ?_
  have hg : wG S (S3.set k (11, 0, [(0, 0), (2, n), (2, (n + 1)), (3, 0), (3, 0)])) n (n + 2) k := wG_set2 (j := 2) (r := (n + 1)) hg hk (by omega) (Or.inl rfl) rfl
  have hk := w_stk (x := (11, 0, [(0, 0), (2, n), (2, (n + 1)), (3, 0), (3, 0)])) hk
  generalize hs4 : S3.set k (11, 0, [(0, 0), (2, n), (2, (n + 1)), (3, 0), (3, 0)]) = S4 at hk hg ⊢
  refine w_aload_n X dX5_init_20 rfl rfl rfl ?_
  refine w_bipush X dX5_init_21 rfl cb_8 ?_
  refine w_newaI X dX5_init_23 rfl wd_97 (by decide) (N := 8) (by decide) (by decide) hg.2.2.1 hg.1 (by omega) (w_rl ⟨wRf_r (by omega), trivial⟩ ⟨wRf_r (by omega), trivial⟩) ⟨Nat.le_of_ble_eq_true rfl, Nat.le_of_ble_eq_true rfl⟩ (fun ad3 ha3 X => ?_)
  have ha : ∀ q, (q < n ∨ 99999 ≤ q) → ad3 q = ad q := fun q hq => (ha3 q (by omega)).trans (ha q hq)
  have hk := w_apk (x := (0, 8, [])) hk
  have hg : wG S (S4 ++ [(0, 8, [])]) n (n + 3) k := wG_app (t := 0) (N := 8) (fs := []) hg (by simp)
  generalize hs5 : S4 ++ [(0, 8, [])] = S5 at hk hg ⊢
  refine w_putR2 X dX5_init_25 rfl (ci := 5) (C := RX5) (T := TX5) (N := 5) (ty0 := tyX5) (ty := tyX5 3) (j := 3) rfl wcl_5 tyX5_ok nmX5 (by decide) wd_211 rfl hin rfl (by decide +kernel) (fun _ => rfl) (fun _ => rfl) hk (Nat.le_of_ble_eq_true rfl) (fs2 := [(0, 0), (2, n), (2, (n + 1)), (2, (n + 2)), (3, 0)]) rfl ?_
  have hg : wG S (S5.set k (11, 0, [(0, 0), (2, n), (2, (n + 1)), (2, (n + 2)), (3, 0)])) n (n + 3) k := wG_set2 (j := 3) (r := (n + 2)) hg hk (by omega) (Or.inl rfl) rfl
  have hk := w_stk (x := (11, 0, [(0, 0), (2, n), (2, (n + 1)), (2, (n + 2)), (3, 0)])) hk
  generalize hs6 : S5.set k (11, 0, [(0, 0), (2, n), (2, (n + 1)), (2, (n + 2)), (3, 0)]) = S6 at hk hg ⊢
  refine w_aload_n X dX5_init_28 rfl rfl rfl ?_
  refine w_bipush X dX5_init_29 rfl cb_8 ?_
  refine w_newaI X dX5_init_31 rfl wd_97 (by decide) (N := 8) (by decide) (by decide) hg.2.2.1 hg.1 (by omega) (w_rl ⟨wRf_r (by omega), trivial⟩ ⟨wRf_r (by omega), trivial⟩) ⟨Nat.le_of_ble_eq_true rfl, Nat.le_of_ble_eq_true rfl⟩ (fun ad4 ha4 X => ?_)
  have ha : ∀ q, (q < n ∨ 99999 ≤ q) → ad4 q = ad q := fun q hq => (ha4 q (by omega)).trans (ha q hq)
  have hk := w_apk (x := (0, 8, [])) hk
  have hg : wG S (S6 ++ [(0, 8, [])]) n (n + 4) k := wG_app (t := 0) (N := 8) (fs := []) hg (by simp)
  generalize hs7 : S6 ++ [(0, 8, [])] = S7 at hk hg ⊢
  refine w_putR2 X dX5_init_33 rfl (ci := 5) (C := RX5) (T := TX5) (N := 5) (ty0 := tyX5) (ty := tyX5 4) (j := 4) rfl wcl_5 tyX5_ok nmX5 (by decide) wd_212 rfl hin rfl (by decide +kernel) (fun _ => rfl) (fun _ => rfl) hk (Nat.le_of_ble_eq_true rfl) (fs2 := [(0, 0), (2, n), (2, (n + 1)), (2, (n + 2)), (2, (n + 3))]) rfl ?_
  have hg : wG S (S7.set k (11, 0, [(0, 0), (2, n), (2, (n + 1)), (2, (n + 2)), (2, (n + 3))])) n (n + 4) k := wG_set2 (j := 4) (r := (n + 3)) hg hk (by omega) (Or.inl rfl) rfl
  have hk := w_stk (x := (11, 0, [(0, 0), (2, n), (2, (n + 1)), (2, (n + 2)), (2, (n + 3))])) hk
  generalize hs8 : S7.set k (11, 0, [(0, 0), (2, n), (2, (n + 1)), (2, (n + 2)), (2, (n + 3))]) = S8 at hk hg ⊢
  subst hs1
  subst hs2
  subst hs3
  subst hs4
  subst hs5
  subst hs6
  subst hs7
  subst hs8
  exact w_vretI X dX5_init_36 hr ha (Nat.le_of_ble_eq_true rfl) (Nat.le_of_ble_eq_true rfl)
def sX6 (S : List wSh) (n k : Nat) (t : Nat) : List wSh := (wst (wst (wap (wst (wap (wst (wap (wst (wap S (0, 3, [])) k (12, 0, [(3, 0), (0, 0), (2, n), (3, 0), (3, 0), (3, 0)])) (0, 3, [])) k (12, 0, [(3, 0), (0, 0), (2, n), (2, (n + 1)), (3, 0), (3, 0)])) (0, 18, [])) k (12, 0, [(3, 0), (0, 0), (2, n), (2, (n + 1)), (2, (n + 2)), (3, 0)])) (0, 18, [])) k (12, 0, [(3, 0), (0, 0), (2, n), (2, (n + 1)), (2, (n + 2)), (2, (n + 3))])) k (12, 0, [(2, t), (0, 0), (2, n), (2, (n + 1)), (2, (n + 2)), (2, (n + 3))]))
set_option maxRecDepth 20000 in
set_option maxHeartbeats 4000000 in
theorem gqX6 {S : List wSh} {n k t : Nat} (hn : S.length = n) (hw : wWf S) (hk : S[k]? = some (12, 0, [(3, 0), (0, 0), (3, 0), (3, 0), (3, 0), (3, 0)])) (ht : t < n) : wG S (sX6 S n k t) n (n + 4) k ∧ (sX6 S n k t)[k]? = some (12, 0, [(2, t), (0, 0), (2, n), (2, (n + 1)), (2, (n + 2)), (2, (n + 3))]) := by
  have hkl : k < n := by rw [← hn]; exact (List.getElem?_eq_some_iff.mp hk).1
  have hg : wG S S n n k := wG_rf hn hw
  have hk := w_apk (x := (0, 3, [])) hk
  have hg : wG S (S ++ [(0, 3, [])]) n (n + 1) k := wG_app (t := 0) (N := 3) (fs := []) hg (by simp)
  generalize hs1 : S ++ [(0, 3, [])] = S1 at hk hg
  have hg : wG S (S1.set k (12, 0, [(3, 0), (0, 0), (2, n), (3, 0), (3, 0), (3, 0)])) n (n + 1) k := wG_set2 (j := 2) (r := n) hg hk (by omega) (Or.inl rfl) rfl
  have hk := w_stk (x := (12, 0, [(3, 0), (0, 0), (2, n), (3, 0), (3, 0), (3, 0)])) hk
  generalize hs2 : S1.set k (12, 0, [(3, 0), (0, 0), (2, n), (3, 0), (3, 0), (3, 0)]) = S2 at hk hg
  have hk := w_apk (x := (0, 3, [])) hk
  have hg : wG S (S2 ++ [(0, 3, [])]) n (n + 2) k := wG_app (t := 0) (N := 3) (fs := []) hg (by simp)
  generalize hs3 : S2 ++ [(0, 3, [])] = S3 at hk hg
  have hg : wG S (S3.set k (12, 0, [(3, 0), (0, 0), (2, n), (2, (n + 1)), (3, 0), (3, 0)])) n (n + 2) k := wG_set2 (j := 3) (r := (n + 1)) hg hk (by omega) (Or.inl rfl) rfl
  have hk := w_stk (x := (12, 0, [(3, 0), (0, 0), (2, n), (2, (n + 1)), (3, 0), (3, 0)])) hk
  generalize hs4 : S3.set k (12, 0, [(3, 0), (0, 0), (2, n), (2, (n + 1)), (3, 0), (3, 0)]) = S4 at hk hg
  have hk := w_apk (x := (0, 18, [])) hk
  have hg : wG S (S4 ++ [(0, 18, [])]) n (n + 3) k := wG_app (t := 0) (N := 18) (fs := []) hg (by simp)
  generalize hs5 : S4 ++ [(0, 18, [])] = S5 at hk hg
  have hg : wG S (S5.set k (12, 0, [(3, 0), (0, 0), (2, n), (2, (n + 1)), (2, (n + 2)), (3, 0)])) n (n + 3) k := wG_set2 (j := 4) (r := (n + 2)) hg hk (by omega) (Or.inl rfl) rfl
  have hk := w_stk (x := (12, 0, [(3, 0), (0, 0), (2, n), (2, (n + 1)), (2, (n + 2)), (3, 0)])) hk
  generalize hs6 : S5.set k (12, 0, [(3, 0), (0, 0), (2, n), (2, (n + 1)), (2, (n + 2)), (3, 0)]) = S6 at hk hg
  have hk := w_apk (x := (0, 18, [])) hk
  have hg : wG S (S6 ++ [(0, 18, [])]) n (n + 4) k := wG_app (t := 0) (N := 18) (fs := []) hg (by simp)
  generalize hs7 : S6 ++ [(0, 18, [])] = S7 at hk hg
  have hg : wG S (S7.set k (12, 0, [(3, 0), (0, 0), (2, n), (2, (n + 1)), (2, (n + 2)), (2, (n + 3))])) n (n + 4) k := wG_set2 (j := 5) (r := (n + 3)) hg hk (by omega) (Or.inl rfl) rfl
  have hk := w_stk (x := (12, 0, [(3, 0), (0, 0), (2, n), (2, (n + 1)), (2, (n + 2)), (2, (n + 3))])) hk
  generalize hs8 : S7.set k (12, 0, [(3, 0), (0, 0), (2, n), (2, (n + 1)), (2, (n + 2)), (2, (n + 3))]) = S8 at hk hg
  have hg : wG S (S8.set k (12, 0, [(2, t), (0, 0), (2, n), (2, (n + 1)), (2, (n + 2)), (2, (n + 3))])) n (n + 4) k := wG_set2 (j := 0) (r := t) hg hk (by omega) (Or.inl rfl) rfl
  have hk := w_stk (x := (12, 0, [(2, t), (0, 0), (2, n), (2, (n + 1)), (2, (n + 2)), (2, (n + 3))])) hk
  generalize hs9 : S8.set k (12, 0, [(2, t), (0, 0), (2, n), (2, (n + 1)), (2, (n + 2)), (2, (n + 3))]) = S9 at hk hg
  subst hs1
  subst hs2
  subst hs3
  subst hs4
  subst hs5
  subst hs6
  subst hs7
  subst hs8
  subst hs9
  exact ⟨hg, hk⟩
theorem gX6 {S : List wSh} {n k t : Nat} (hn : S.length = n) (hw : wWf S) (hk : S[k]? = some (12, 0, [(3, 0), (0, 0), (3, 0), (3, 0), (3, 0), (3, 0)])) (ht : t < n) : wG S (sX6 S n k t) n (n + 4) k := (gqX6 hn hw hk ht).1
theorem qX6 {S : List wSh} {n k t : Nat} (hn : S.length = n) (hw : wWf S) (hk : S[k]? = some (12, 0, [(3, 0), (0, 0), (3, 0), (3, 0), (3, 0), (3, 0)])) (ht : t < n) : (sX6 S n k t)[k]? = some (12, 0, [(2, t), (0, 0), (2, n), (2, (n + 1)), (2, (n + 2)), (2, (n + 3))]) := (gqX6 hn hw hk ht).2
set_option maxRecDepth 20000 in
set_option maxHeartbeats 8000000 in
theorem iX6 (l : Launch) {S : List wSh} {n k t : Nat} (hn : S.length = n) (hw : wWf S) (hk : S[k]? = some (12, 0, [(3, 0), (0, 0), (3, 0), (3, 0), (3, 0), (3, 0)])) (hn9 : n < 90000) (ht : t < n) : wCi l yX6_init cX6_init 2 1 4 42 S n [.ref k, .ref t] (sX6 S n k t) := by
  have hkl : k < n := by rw [← hn]; exact (List.getElem?_eq_some_iff.mp hk).1
  refine w_methI 0 (by decide) (Nat.le_of_ble_eq_true rfl) (ls := [some (.ref k), some (.ref t)]) rfl ?_
  intro p e s m args below meth c D dA b0 ad X hr hin
  have hg : wG S S n n k := wG_rf hn hw
  have ha : ∀ q, (q < n ∨ 99999 ≤ q) → ad q = ad q := fun _ _ => rfl
  refine w_aload_n X dX6_init_0 rfl rfl rfl ?_
  refine w_obj X dX6_init_1 rfl wd_161 wd_31 wd_32 (Nat.le_of_ble_eq_true rfl) (Nat.le_of_ble_eq_true rfl) ?_
  refine w_aload_n X dX6_init_4 rfl rfl rfl ?_
  refine w_iconst X dX6_init_5 rfl ci_3 ?_
  refine w_newaI X dX6_init_6 rfl wd_97 (by decide) (N := 3) (by decide) (by decide) hg.2.2.1 hg.1 (by omega) (w_rl ⟨wRf_r (by omega), wRf_r (by omega), trivial⟩ ⟨wRf_r (by omega), trivial⟩) ⟨Nat.le_of_ble_eq_true rfl, Nat.le_of_ble_eq_true rfl⟩ (fun ad1 ha1 X => ?_)
  have ha : ∀ q, (q < n ∨ 99999 ≤ q) → ad1 q = ad q := fun q hq => (ha1 q (by omega)).trans (ha q hq)
  have hk := w_apk (x := (0, 3, [])) hk
  have hg : wG S (S ++ [(0, 3, [])]) n (n + 1) k := wG_app (t := 0) (N := 3) (fs := []) hg (by simp)
  generalize hs1 : S ++ [(0, 3, [])] = S1 at hk hg ⊢
  refine w_putR2 X dX6_init_8 rfl (ci := 6) (C := RX6) (T := TX6) (N := 6) (ty0 := tyX6) (ty := tyX6 2) (j := 2) rfl wcl_6 tyX6_ok nmX6 (by decide) wd_165 rfl hin rfl (by decide +kernel) (fun _ => rfl) (fun _ => rfl) hk (Nat.le_of_ble_eq_true rfl) (fs2 := [(3, 0), (0, 0), (2, n), (3, 0), (3, 0), (3, 0)]) rfl ?_
  have hg : wG S (S1.set k (12, 0, [(3, 0), (0, 0), (2, n), (3, 0), (3, 0), (3, 0)])) n (n + 1) k := wG_set2 (j := 2) (r := n) hg hk (by omega) (Or.inl rfl) rfl
  have hk := w_stk (x := (12, 0, [(3, 0), (0, 0), (2, n), (3, 0), (3, 0), (3, 0)])) hk
  generalize hs2 : S1.set k (12, 0, [(3, 0), (0, 0), (2, n), (3, 0), (3, 0), (3, 0)]) = S2 at hk hg ⊢
  refine w_aload_n X dX6_init_11 rfl rfl rfl ?_
  refine w_iconst X dX6_init_12 rfl ci_3 ?_
  refine w_newaI X dX6_init_13 rfl wd_97 (by decide) (N := 3) (by decide) (by decide) hg.2.2.1 hg.1 (by omega) (w_rl ⟨wRf_r (by omega), wRf_r (by omega), trivial⟩ ⟨wRf_r (by omega), trivial⟩) ⟨Nat.le_of_ble_eq_true rfl, Nat.le_of_ble_eq_true rfl⟩ (fun ad2 ha2 X => ?_)
  have ha : ∀ q, (q < n ∨ 99999 ≤ q) → ad2 q = ad q := fun q hq => (ha2 q (by omega)).trans (ha q hq)
  have hk := w_apk (x := (0, 3, [])) hk
  have hg : wG S (S2 ++ [(0, 3, [])]) n (n + 2) k := wG_app (t := 0) (N := 3) (fs := []) hg (by simp)
  generalize hs3 : S2 ++ [(0, 3, [])] = S3 at hk hg ⊢
  refine w_putR2 X dX6_init_15 rfl (ci := 6) (C := RX6) (T := TX6) (N := 6) (ty0 := tyX6) (ty := tyX6 3) (j := 3) rfl wcl_6 tyX6_ok nmX6 (by decide) wd_168 rfl hin rfl (by decide +kernel) (fun _ => rfl) (fun _ => rfl) hk (Nat.le_of_ble_eq_true rfl) (fs2 := [(3, 0), (0, 0), (2, n), (2, (n + 1)), (3, 0), (3, 0)]) rfl ?_
  have hg : wG S (S3.set k (12, 0, [(3, 0), (0, 0), (2, n), (2, (n + 1)), (3, 0), (3, 0)])) n (n + 2) k := wG_set2 (j := 3) (r := (n + 1)) hg hk (by omega) (Or.inl rfl) rfl
  have hk := w_stk (x := (12, 0, [(3, 0), (0, 0), (2, n), (2, (n + 1)), (3, 0), (3, 0)])) hk
  generalize hs4 : S3.set k (12, 0, [(3, 0), (0, 0), (2, n), (2, (n + 1)), (3, 0), (3, 0)]) = S4 at hk hg ⊢
  refine w_aload_n X dX6_init_18 rfl rfl rfl ?_
  refine w_bipush X dX6_init_19 rfl cb_18 ?_
  refine w_newaI X dX6_init_21 rfl wd_97 (by decide) (N := 18) (by decide) (by decide) hg.2.2.1 hg.1 (by omega) (w_rl ⟨wRf_r (by omega), wRf_r (by omega), trivial⟩ ⟨wRf_r (by omega), trivial⟩) ⟨Nat.le_of_ble_eq_true rfl, Nat.le_of_ble_eq_true rfl⟩ (fun ad3 ha3 X => ?_)
  have ha : ∀ q, (q < n ∨ 99999 ≤ q) → ad3 q = ad q := fun q hq => (ha3 q (by omega)).trans (ha q hq)
  have hk := w_apk (x := (0, 18, [])) hk
  have hg : wG S (S4 ++ [(0, 18, [])]) n (n + 3) k := wG_app (t := 0) (N := 18) (fs := []) hg (by simp)
  generalize hs5 : S4 ++ [(0, 18, [])] = S5 at hk hg ⊢
  refine w_putR2 X dX6_init_23 rfl (ci := 6) (C := RX6) (T := TX6) (N := 6) (ty0 := tyX6) (ty := tyX6 4) (j := 4) rfl wcl_6 tyX6_ok nmX6 (by decide) wd_170 rfl hin rfl (by decide +kernel) (fun _ => rfl) (fun _ => rfl) hk (Nat.le_of_ble_eq_true rfl) (fs2 := [(3, 0), (0, 0), (2, n), (2, (n + 1)), (2, (n + 2)), (3, 0)]) rfl ?_
  have hg : wG S (S5.set k (12, 0, [(3, 0), (0, 0), (2, n), (2, (n + 1)), (2, (n + 2)), (3, 0)])) n (n + 3) k := wG_set2 (j := 4) (r := (n + 2)) hg hk (by omega) (Or.inl rfl) rfl
  have hk := w_stk (x := (12, 0, [(3, 0), (0, 0), (2, n), (2, (n + 1)), (2, (n + 2)), (3, 0)])) hk
  generalize hs6 : S5.set k (12, 0, [(3, 0), (0, 0), (2, n), (2, (n + 1)), (2, (n + 2)), (3, 0)]) = S6 at hk hg ⊢
  refine w_aload_n X dX6_init_26 rfl rfl rfl ?_
  refine w_bipush X dX6_init_27 rfl cb_18 ?_
  refine w_newaI X dX6_init_29 rfl wd_97 (by decide) (N := 18) (by decide) (by decide) hg.2.2.1 hg.1 (by omega) (w_rl ⟨wRf_r (by omega), wRf_r (by omega), trivial⟩ ⟨wRf_r (by omega), trivial⟩) ⟨Nat.le_of_ble_eq_true rfl, Nat.le_of_ble_eq_true rfl⟩ (fun ad4 ha4 X => ?_)
  have ha : ∀ q, (q < n ∨ 99999 ≤ q) → ad4 q = ad q := fun q hq => (ha4 q (by omega)).trans (ha q hq)
  have hk := w_apk (x := (0, 18, [])) hk
  have hg : wG S (S6 ++ [(0, 18, [])]) n (n + 4) k := wG_app (t := 0) (N := 18) (fs := []) hg (by simp)
  generalize hs7 : S6 ++ [(0, 18, [])] = S7 at hk hg ⊢
  refine w_putR2 X dX6_init_31 rfl (ci := 6) (C := RX6) (T := TX6) (N := 6) (ty0 := tyX6) (ty := tyX6 5) (j := 5) rfl wcl_6 tyX6_ok nmX6 (by decide) wd_172 rfl hin rfl (by decide +kernel) (fun _ => rfl) (fun _ => rfl) hk (Nat.le_of_ble_eq_true rfl) (fs2 := [(3, 0), (0, 0), (2, n), (2, (n + 1)), (2, (n + 2)), (2, (n + 3))]) rfl ?_
  have hg : wG S (S7.set k (12, 0, [(3, 0), (0, 0), (2, n), (2, (n + 1)), (2, (n + 2)), (2, (n + 3))])) n (n + 4) k := wG_set2 (j := 5) (r := (n + 3)) hg hk (by omega) (Or.inl rfl) rfl
  have hk := w_stk (x := (12, 0, [(3, 0), (0, 0), (2, n), (2, (n + 1)), (2, (n + 2)), (2, (n + 3))])) hk
  generalize hs8 : S7.set k (12, 0, [(3, 0), (0, 0), (2, n), (2, (n + 1)), (2, (n + 2)), (2, (n + 3))]) = S8 at hk hg ⊢
  refine w_aload_n X dX6_init_34 rfl rfl rfl ?_
  refine w_aload_n X dX6_init_35 rfl rfl rfl ?_
  refine w_putR2 X dX6_init_36 rfl (ci := 6) (C := RX6) (T := TX6) (N := 6) (ty0 := tyX6) (ty := tyX6 0) (j := 0) rfl wcl_6 tyX6_ok nmX6 (by decide) wd_162 rfl hin rfl (by decide +kernel) (fun _ => rfl) (fun _ => rfl) hk (Nat.le_of_ble_eq_true rfl) (fs2 := [(2, t), (0, 0), (2, n), (2, (n + 1)), (2, (n + 2)), (2, (n + 3))]) rfl ?_
  have hg : wG S (S8.set k (12, 0, [(2, t), (0, 0), (2, n), (2, (n + 1)), (2, (n + 2)), (2, (n + 3))])) n (n + 4) k := wG_set2 (j := 0) (r := t) hg hk (by omega) (Or.inl rfl) rfl
  have hk := w_stk (x := (12, 0, [(2, t), (0, 0), (2, n), (2, (n + 1)), (2, (n + 2)), (2, (n + 3))])) hk
  generalize hs9 : S8.set k (12, 0, [(2, t), (0, 0), (2, n), (2, (n + 1)), (2, (n + 2)), (2, (n + 3))]) = S9 at hk hg ⊢
  subst hs1
  subst hs2
  subst hs3
  subst hs4
  subst hs5
  subst hs6
  subst hs7
  subst hs8
  subst hs9
  exact w_vretI X dX6_init_39 hr ha (Nat.le_of_ble_eq_true rfl) (Nat.le_of_ble_eq_true rfl)
def sX4 (S : List wSh) (n k : Nat) : List wSh := (wst (sX2 (wap (wst (wap (wst (wap (wst (wap (wst (wap (wst (wap (wst (wap (wst (wap (wst (wap (wst (wap S (3, 3, [])) k (10, 0, [(0, 0), (2, n), (3, 0), (3, 0), (3, 0), (0, 0), (3, 0), (3, 0), (3, 0), (3, 0), (0, 0), (3, 0), (3, 0)])) (0, 3, [])) k (10, 0, [(0, 0), (2, n), (2, (n + 1)), (3, 0), (3, 0), (0, 0), (3, 0), (3, 0), (3, 0), (3, 0), (0, 0), (3, 0), (3, 0)])) (0, 3, [])) k (10, 0, [(0, 0), (2, n), (2, (n + 1)), (2, (n + 2)), (3, 0), (0, 0), (3, 0), (3, 0), (3, 0), (3, 0), (0, 0), (3, 0), (3, 0)])) (0, 3, [])) k (10, 0, [(0, 0), (2, n), (2, (n + 1)), (2, (n + 2)), (2, (n + 3)), (0, 0), (3, 0), (3, 0), (3, 0), (3, 0), (0, 0), (3, 0), (3, 0)])) (3, 6, [])) k (10, 0, [(0, 0), (2, n), (2, (n + 1)), (2, (n + 2)), (2, (n + 3)), (0, 0), (2, (n + 4)), (3, 0), (3, 0), (3, 0), (0, 0), (3, 0), (3, 0)])) (0, 6, [])) k (10, 0, [(0, 0), (2, n), (2, (n + 1)), (2, (n + 2)), (2, (n + 3)), (0, 0), (2, (n + 4)), (2, (n + 5)), (3, 0), (3, 0), (0, 0), (3, 0), (3, 0)])) (0, 6, [])) k (10, 0, [(0, 0), (2, n), (2, (n + 1)), (2, (n + 2)), (2, (n + 3)), (0, 0), (2, (n + 4)), (2, (n + 5)), (2, (n + 6)), (3, 0), (0, 0), (3, 0), (3, 0)])) (0, 6, [])) k (10, 0, [(0, 0), (2, n), (2, (n + 1)), (2, (n + 2)), (2, (n + 3)), (0, 0), (2, (n + 4)), (2, (n + 5)), (2, (n + 6)), (2, (n + 7)), (0, 0), (3, 0), (3, 0)])) (0, 12, [])) k (10, 0, [(0, 0), (2, n), (2, (n + 1)), (2, (n + 2)), (2, (n + 3)), (0, 0), (2, (n + 4)), (2, (n + 5)), (2, (n + 6)), (2, (n + 7)), (0, 0), (2, (n + 8)), (3, 0)])) (8, 0, [(3, 0), (0, 0), (0, 0), (3, 0)])) (n + 10) (n + 9) ) k (10, 0, [(0, 0), (2, n), (2, (n + 1)), (2, (n + 2)), (2, (n + 3)), (0, 0), (2, (n + 4)), (2, (n + 5)), (2, (n + 6)), (2, (n + 7)), (0, 0), (2, (n + 8)), (2, (n + 9))]))
set_option maxRecDepth 20000 in
set_option maxHeartbeats 4000000 in
theorem gqX4 {S : List wSh} {n k : Nat} (hn : S.length = n) (hw : wWf S) (hk : S[k]? = some (10, 0, [(0, 0), (3, 0), (3, 0), (3, 0), (3, 0), (0, 0), (3, 0), (3, 0), (3, 0), (3, 0), (0, 0), (3, 0), (3, 0)])) : wG S (sX4 S n k) n (n + 12) k ∧ (sX4 S n k)[k]? = some (10, 0, [(0, 0), (2, n), (2, (n + 1)), (2, (n + 2)), (2, (n + 3)), (0, 0), (2, (n + 4)), (2, (n + 5)), (2, (n + 6)), (2, (n + 7)), (0, 0), (2, (n + 8)), (2, (n + 9))]) := by
  have hkl : k < n := by rw [← hn]; exact (List.getElem?_eq_some_iff.mp hk).1
  have hg : wG S S n n k := wG_rf hn hw
  have hk := w_apk (x := (3, 3, [])) hk
  have hg : wG S (S ++ [(3, 3, [])]) n (n + 1) k := wG_app (t := 3) (N := 3) (fs := []) hg (by simp)
  generalize hs1 : S ++ [(3, 3, [])] = S1 at hk hg
  have hg : wG S (S1.set k (10, 0, [(0, 0), (2, n), (3, 0), (3, 0), (3, 0), (0, 0), (3, 0), (3, 0), (3, 0), (3, 0), (0, 0), (3, 0), (3, 0)])) n (n + 1) k := wG_set2 (j := 1) (r := n) hg hk (by omega) (Or.inl rfl) rfl
  have hk := w_stk (x := (10, 0, [(0, 0), (2, n), (3, 0), (3, 0), (3, 0), (0, 0), (3, 0), (3, 0), (3, 0), (3, 0), (0, 0), (3, 0), (3, 0)])) hk
  generalize hs2 : S1.set k (10, 0, [(0, 0), (2, n), (3, 0), (3, 0), (3, 0), (0, 0), (3, 0), (3, 0), (3, 0), (3, 0), (0, 0), (3, 0), (3, 0)]) = S2 at hk hg
  have hk := w_apk (x := (0, 3, [])) hk
  have hg : wG S (S2 ++ [(0, 3, [])]) n (n + 2) k := wG_app (t := 0) (N := 3) (fs := []) hg (by simp)
  generalize hs3 : S2 ++ [(0, 3, [])] = S3 at hk hg
  have hg : wG S (S3.set k (10, 0, [(0, 0), (2, n), (2, (n + 1)), (3, 0), (3, 0), (0, 0), (3, 0), (3, 0), (3, 0), (3, 0), (0, 0), (3, 0), (3, 0)])) n (n + 2) k := wG_set2 (j := 2) (r := (n + 1)) hg hk (by omega) (Or.inl rfl) rfl
  have hk := w_stk (x := (10, 0, [(0, 0), (2, n), (2, (n + 1)), (3, 0), (3, 0), (0, 0), (3, 0), (3, 0), (3, 0), (3, 0), (0, 0), (3, 0), (3, 0)])) hk
  generalize hs4 : S3.set k (10, 0, [(0, 0), (2, n), (2, (n + 1)), (3, 0), (3, 0), (0, 0), (3, 0), (3, 0), (3, 0), (3, 0), (0, 0), (3, 0), (3, 0)]) = S4 at hk hg
  have hk := w_apk (x := (0, 3, [])) hk
  have hg : wG S (S4 ++ [(0, 3, [])]) n (n + 3) k := wG_app (t := 0) (N := 3) (fs := []) hg (by simp)
  generalize hs5 : S4 ++ [(0, 3, [])] = S5 at hk hg
  have hg : wG S (S5.set k (10, 0, [(0, 0), (2, n), (2, (n + 1)), (2, (n + 2)), (3, 0), (0, 0), (3, 0), (3, 0), (3, 0), (3, 0), (0, 0), (3, 0), (3, 0)])) n (n + 3) k := wG_set2 (j := 3) (r := (n + 2)) hg hk (by omega) (Or.inl rfl) rfl
  have hk := w_stk (x := (10, 0, [(0, 0), (2, n), (2, (n + 1)), (2, (n + 2)), (3, 0), (0, 0), (3, 0), (3, 0), (3, 0), (3, 0), (0, 0), (3, 0), (3, 0)])) hk
  generalize hs6 : S5.set k (10, 0, [(0, 0), (2, n), (2, (n + 1)), (2, (n + 2)), (3, 0), (0, 0), (3, 0), (3, 0), (3, 0), (3, 0), (0, 0), (3, 0), (3, 0)]) = S6 at hk hg
  have hk := w_apk (x := (0, 3, [])) hk
  have hg : wG S (S6 ++ [(0, 3, [])]) n (n + 4) k := wG_app (t := 0) (N := 3) (fs := []) hg (by simp)
  generalize hs7 : S6 ++ [(0, 3, [])] = S7 at hk hg
  have hg : wG S (S7.set k (10, 0, [(0, 0), (2, n), (2, (n + 1)), (2, (n + 2)), (2, (n + 3)), (0, 0), (3, 0), (3, 0), (3, 0), (3, 0), (0, 0), (3, 0), (3, 0)])) n (n + 4) k := wG_set2 (j := 4) (r := (n + 3)) hg hk (by omega) (Or.inl rfl) rfl
  have hk := w_stk (x := (10, 0, [(0, 0), (2, n), (2, (n + 1)), (2, (n + 2)), (2, (n + 3)), (0, 0), (3, 0), (3, 0), (3, 0), (3, 0), (0, 0), (3, 0), (3, 0)])) hk
  generalize hs8 : S7.set k (10, 0, [(0, 0), (2, n), (2, (n + 1)), (2, (n + 2)), (2, (n + 3)), (0, 0), (3, 0), (3, 0), (3, 0), (3, 0), (0, 0), (3, 0), (3, 0)]) = S8 at hk hg
  have hk := w_apk (x := (3, 6, [])) hk
  have hg : wG S (S8 ++ [(3, 6, [])]) n (n + 5) k := wG_app (t := 3) (N := 6) (fs := []) hg (by simp)
  generalize hs9 : S8 ++ [(3, 6, [])] = S9 at hk hg
  have hg : wG S (S9.set k (10, 0, [(0, 0), (2, n), (2, (n + 1)), (2, (n + 2)), (2, (n + 3)), (0, 0), (2, (n + 4)), (3, 0), (3, 0), (3, 0), (0, 0), (3, 0), (3, 0)])) n (n + 5) k := wG_set2 (j := 6) (r := (n + 4)) hg hk (by omega) (Or.inl rfl) rfl
  have hk := w_stk (x := (10, 0, [(0, 0), (2, n), (2, (n + 1)), (2, (n + 2)), (2, (n + 3)), (0, 0), (2, (n + 4)), (3, 0), (3, 0), (3, 0), (0, 0), (3, 0), (3, 0)])) hk
  generalize hs10 : S9.set k (10, 0, [(0, 0), (2, n), (2, (n + 1)), (2, (n + 2)), (2, (n + 3)), (0, 0), (2, (n + 4)), (3, 0), (3, 0), (3, 0), (0, 0), (3, 0), (3, 0)]) = S10 at hk hg
  have hk := w_apk (x := (0, 6, [])) hk
  have hg : wG S (S10 ++ [(0, 6, [])]) n (n + 6) k := wG_app (t := 0) (N := 6) (fs := []) hg (by simp)
  generalize hs11 : S10 ++ [(0, 6, [])] = S11 at hk hg
  have hg : wG S (S11.set k (10, 0, [(0, 0), (2, n), (2, (n + 1)), (2, (n + 2)), (2, (n + 3)), (0, 0), (2, (n + 4)), (2, (n + 5)), (3, 0), (3, 0), (0, 0), (3, 0), (3, 0)])) n (n + 6) k := wG_set2 (j := 7) (r := (n + 5)) hg hk (by omega) (Or.inl rfl) rfl
  have hk := w_stk (x := (10, 0, [(0, 0), (2, n), (2, (n + 1)), (2, (n + 2)), (2, (n + 3)), (0, 0), (2, (n + 4)), (2, (n + 5)), (3, 0), (3, 0), (0, 0), (3, 0), (3, 0)])) hk
  generalize hs12 : S11.set k (10, 0, [(0, 0), (2, n), (2, (n + 1)), (2, (n + 2)), (2, (n + 3)), (0, 0), (2, (n + 4)), (2, (n + 5)), (3, 0), (3, 0), (0, 0), (3, 0), (3, 0)]) = S12 at hk hg
  have hk := w_apk (x := (0, 6, [])) hk
  have hg : wG S (S12 ++ [(0, 6, [])]) n (n + 7) k := wG_app (t := 0) (N := 6) (fs := []) hg (by simp)
  generalize hs13 : S12 ++ [(0, 6, [])] = S13 at hk hg
  have hg : wG S (S13.set k (10, 0, [(0, 0), (2, n), (2, (n + 1)), (2, (n + 2)), (2, (n + 3)), (0, 0), (2, (n + 4)), (2, (n + 5)), (2, (n + 6)), (3, 0), (0, 0), (3, 0), (3, 0)])) n (n + 7) k := wG_set2 (j := 8) (r := (n + 6)) hg hk (by omega) (Or.inl rfl) rfl
  have hk := w_stk (x := (10, 0, [(0, 0), (2, n), (2, (n + 1)), (2, (n + 2)), (2, (n + 3)), (0, 0), (2, (n + 4)), (2, (n + 5)), (2, (n + 6)), (3, 0), (0, 0), (3, 0), (3, 0)])) hk
  generalize hs14 : S13.set k (10, 0, [(0, 0), (2, n), (2, (n + 1)), (2, (n + 2)), (2, (n + 3)), (0, 0), (2, (n + 4)), (2, (n + 5)), (2, (n + 6)), (3, 0), (0, 0), (3, 0), (3, 0)]) = S14 at hk hg
  have hk := w_apk (x := (0, 6, [])) hk
  have hg : wG S (S14 ++ [(0, 6, [])]) n (n + 8) k := wG_app (t := 0) (N := 6) (fs := []) hg (by simp)
  generalize hs15 : S14 ++ [(0, 6, [])] = S15 at hk hg
  have hg : wG S (S15.set k (10, 0, [(0, 0), (2, n), (2, (n + 1)), (2, (n + 2)), (2, (n + 3)), (0, 0), (2, (n + 4)), (2, (n + 5)), (2, (n + 6)), (2, (n + 7)), (0, 0), (3, 0), (3, 0)])) n (n + 8) k := wG_set2 (j := 9) (r := (n + 7)) hg hk (by omega) (Or.inl rfl) rfl
  have hk := w_stk (x := (10, 0, [(0, 0), (2, n), (2, (n + 1)), (2, (n + 2)), (2, (n + 3)), (0, 0), (2, (n + 4)), (2, (n + 5)), (2, (n + 6)), (2, (n + 7)), (0, 0), (3, 0), (3, 0)])) hk
  generalize hs16 : S15.set k (10, 0, [(0, 0), (2, n), (2, (n + 1)), (2, (n + 2)), (2, (n + 3)), (0, 0), (2, (n + 4)), (2, (n + 5)), (2, (n + 6)), (2, (n + 7)), (0, 0), (3, 0), (3, 0)]) = S16 at hk hg
  have hk := w_apk (x := (0, 12, [])) hk
  have hg : wG S (S16 ++ [(0, 12, [])]) n (n + 9) k := wG_app (t := 0) (N := 12) (fs := []) hg (by simp)
  generalize hs17 : S16 ++ [(0, 12, [])] = S17 at hk hg
  have hg : wG S (S17.set k (10, 0, [(0, 0), (2, n), (2, (n + 1)), (2, (n + 2)), (2, (n + 3)), (0, 0), (2, (n + 4)), (2, (n + 5)), (2, (n + 6)), (2, (n + 7)), (0, 0), (2, (n + 8)), (3, 0)])) n (n + 9) k := wG_set2 (j := 11) (r := (n + 8)) hg hk (by omega) (Or.inl rfl) rfl
  have hk := w_stk (x := (10, 0, [(0, 0), (2, n), (2, (n + 1)), (2, (n + 2)), (2, (n + 3)), (0, 0), (2, (n + 4)), (2, (n + 5)), (2, (n + 6)), (2, (n + 7)), (0, 0), (2, (n + 8)), (3, 0)])) hk
  generalize hs18 : S17.set k (10, 0, [(0, 0), (2, n), (2, (n + 1)), (2, (n + 2)), (2, (n + 3)), (0, 0), (2, (n + 4)), (2, (n + 5)), (2, (n + 6)), (2, (n + 7)), (0, 0), (2, (n + 8)), (3, 0)]) = S18 at hk hg
  have hnew := w_apn (x := (8, 0, [(3, 0), (0, 0), (0, 0), (3, 0)])) hg.1
  have hk := w_apk (x := (8, 0, [(3, 0), (0, 0), (0, 0), (3, 0)])) hk
  have hg : wG S (S18 ++ [(8, 0, [(3, 0), (0, 0), (0, 0), (3, 0)])]) n (n + 10) k := wG_app (t := 8) (N := 0) (fs := [(3, 0), (0, 0), (0, 0), (3, 0)]) hg (by decide)
  generalize hs19 : S18 ++ [(8, 0, [(3, 0), (0, 0), (0, 0), (3, 0)])] = S19 at hk hg hnew
  have hg2 : wG S19 (sX2 S19 (n + 10) (n + 9) ) (n + 10) ((n + 10) + 2) (n + 9) := gX2 hg.1 hg.2.2.1 hnew 
  have hk := (hg2.2.2.2 k (by omega) (by omega)).trans hk
  have hnew : (sX2 S19 (n + 10) (n + 9) )[(n + 9)]? = some (8, 0, [(2, (n + 10)), (0, 0), (0, 0), (2, ((n + 10) + 1))]) := qX2 hg.1 hg.2.2.1 hnew 
  have hg : wG S (sX2 S19 (n + 10) (n + 9) ) n (n + 12) k := wG_call hg hg2 (by omega)
  generalize hs20 : sX2 S19 (n + 10) (n + 9) = S20 at hk hg hnew
  have hg : wG S (S20.set k (10, 0, [(0, 0), (2, n), (2, (n + 1)), (2, (n + 2)), (2, (n + 3)), (0, 0), (2, (n + 4)), (2, (n + 5)), (2, (n + 6)), (2, (n + 7)), (0, 0), (2, (n + 8)), (2, (n + 9))])) n (n + 12) k := wG_set2 (j := 12) (r := (n + 9)) hg hk (by omega) (Or.inl rfl) rfl
  have hk := w_stk (x := (10, 0, [(0, 0), (2, n), (2, (n + 1)), (2, (n + 2)), (2, (n + 3)), (0, 0), (2, (n + 4)), (2, (n + 5)), (2, (n + 6)), (2, (n + 7)), (0, 0), (2, (n + 8)), (2, (n + 9))])) hk
  have hnew := w_sto (k2 := k) (x := (10, 0, [(0, 0), (2, n), (2, (n + 1)), (2, (n + 2)), (2, (n + 3)), (0, 0), (2, (n + 4)), (2, (n + 5)), (2, (n + 6)), (2, (n + 7)), (0, 0), (2, (n + 8)), (2, (n + 9))])) (by omega) hnew
  generalize hs21 : S20.set k (10, 0, [(0, 0), (2, n), (2, (n + 1)), (2, (n + 2)), (2, (n + 3)), (0, 0), (2, (n + 4)), (2, (n + 5)), (2, (n + 6)), (2, (n + 7)), (0, 0), (2, (n + 8)), (2, (n + 9))]) = S21 at hk hg hnew
  subst hs1
  subst hs2
  subst hs3
  subst hs4
  subst hs5
  subst hs6
  subst hs7
  subst hs8
  subst hs9
  subst hs10
  subst hs11
  subst hs12
  subst hs13
  subst hs14
  subst hs15
  subst hs16
  subst hs17
  subst hs18
  subst hs19
  subst hs20
  subst hs21
  exact ⟨hg, hk⟩
theorem gX4 {S : List wSh} {n k : Nat} (hn : S.length = n) (hw : wWf S) (hk : S[k]? = some (10, 0, [(0, 0), (3, 0), (3, 0), (3, 0), (3, 0), (0, 0), (3, 0), (3, 0), (3, 0), (3, 0), (0, 0), (3, 0), (3, 0)])) : wG S (sX4 S n k) n (n + 12) k := (gqX4 hn hw hk).1
theorem qX4 {S : List wSh} {n k : Nat} (hn : S.length = n) (hw : wWf S) (hk : S[k]? = some (10, 0, [(0, 0), (3, 0), (3, 0), (3, 0), (3, 0), (0, 0), (3, 0), (3, 0), (3, 0), (3, 0), (0, 0), (3, 0), (3, 0)])) : (sX4 S n k)[k]? = some (10, 0, [(0, 0), (2, n), (2, (n + 1)), (2, (n + 2)), (2, (n + 3)), (0, 0), (2, (n + 4)), (2, (n + 5)), (2, (n + 6)), (2, (n + 7)), (0, 0), (2, (n + 8)), (2, (n + 9))]) := (gqX4 hn hw hk).2
set_option maxRecDepth 20000 in
set_option maxHeartbeats 8000000 in
theorem iX4 (l : Launch) {S : List wSh} {n k : Nat} (hn : S.length = n) (hw : wWf S) (hk : S[k]? = some (10, 0, [(0, 0), (3, 0), (3, 0), (3, 0), (3, 0), (0, 0), (3, 0), (3, 0), (3, 0), (3, 0), (0, 0), (3, 0), (3, 0)])) (hn9 : n < 80000) : wCi l yX4_init cX4_init 1 2 12 1084 S n [.ref k] (sX4 S n k) := by
  have hkl : k < n := by rw [← hn]; exact (List.getElem?_eq_some_iff.mp hk).1
  refine w_methI 0 (by decide) (Nat.le_of_ble_eq_true rfl) (ls := [some (.ref k)]) rfl ?_
  intro p e s m args below meth c D dA b0 ad X hr hin
  have hg : wG S S n n k := wG_rf hn hw
  have ha : ∀ q, (q < n ∨ 99999 ≤ q) → ad q = ad q := fun _ _ => rfl
  refine w_aload_n X dX4_init_0 rfl rfl rfl ?_
  refine w_obj X dX4_init_1 rfl wd_76 wd_31 wd_32 (Nat.le_of_ble_eq_true rfl) (Nat.le_of_ble_eq_true rfl) ?_
  refine w_aload_n X dX4_init_4 rfl rfl rfl ?_
  refine w_iconst X dX4_init_5 rfl ci_3 ?_
  refine w_newaJ X dX4_init_6 rfl wd_96 (by decide) (N := 3) (by decide) (by decide) hg.2.2.1 hg.1 (by omega) (w_rl ⟨wRf_r (by omega), trivial⟩ ⟨wRf_r (by omega), trivial⟩) ⟨Nat.le_of_ble_eq_true rfl, Nat.le_of_ble_eq_true rfl⟩ (fun ad1 ha1 X => ?_)
  have ha : ∀ q, (q < n ∨ 99999 ≤ q) → ad1 q = ad q := fun q hq => (ha1 q (by omega)).trans (ha q hq)
  have hk := w_apk (x := (3, 3, [])) hk
  have hg : wG S (S ++ [(3, 3, [])]) n (n + 1) k := wG_app (t := 3) (N := 3) (fs := []) hg (by simp)
  generalize hs1 : S ++ [(3, 3, [])] = S1 at hk hg ⊢
  refine w_putR2 X dX4_init_8 rfl (ci := 4) (C := RX4) (T := TX4) (N := 13) (ty0 := tyX4) (ty := tyX4 1) (j := 1) rfl wcl_4 tyX4_ok nmX4 (by decide) wd_101 rfl hin rfl (by decide +kernel) (fun _ => rfl) (fun _ => rfl) hk (Nat.le_of_ble_eq_true rfl) (fs2 := [(0, 0), (2, n), (3, 0), (3, 0), (3, 0), (0, 0), (3, 0), (3, 0), (3, 0), (3, 0), (0, 0), (3, 0), (3, 0)]) rfl ?_
  have hg : wG S (S1.set k (10, 0, [(0, 0), (2, n), (3, 0), (3, 0), (3, 0), (0, 0), (3, 0), (3, 0), (3, 0), (3, 0), (0, 0), (3, 0), (3, 0)])) n (n + 1) k := wG_set2 (j := 1) (r := n) hg hk (by omega) (Or.inl rfl) rfl
  have hk := w_stk (x := (10, 0, [(0, 0), (2, n), (3, 0), (3, 0), (3, 0), (0, 0), (3, 0), (3, 0), (3, 0), (3, 0), (0, 0), (3, 0), (3, 0)])) hk
  generalize hs2 : S1.set k (10, 0, [(0, 0), (2, n), (3, 0), (3, 0), (3, 0), (0, 0), (3, 0), (3, 0), (3, 0), (3, 0), (0, 0), (3, 0), (3, 0)]) = S2 at hk hg ⊢
  refine w_aload_n X dX4_init_11 rfl rfl rfl ?_
  refine w_iconst X dX4_init_12 rfl ci_3 ?_
  refine w_newaI X dX4_init_13 rfl wd_97 (by decide) (N := 3) (by decide) (by decide) hg.2.2.1 hg.1 (by omega) (w_rl ⟨wRf_r (by omega), trivial⟩ ⟨wRf_r (by omega), trivial⟩) ⟨Nat.le_of_ble_eq_true rfl, Nat.le_of_ble_eq_true rfl⟩ (fun ad2 ha2 X => ?_)
  have ha : ∀ q, (q < n ∨ 99999 ≤ q) → ad2 q = ad q := fun q hq => (ha2 q (by omega)).trans (ha q hq)
  have hk := w_apk (x := (0, 3, [])) hk
  have hg : wG S (S2 ++ [(0, 3, [])]) n (n + 2) k := wG_app (t := 0) (N := 3) (fs := []) hg (by simp)
  generalize hs3 : S2 ++ [(0, 3, [])] = S3 at hk hg ⊢
  refine w_putR2 X dX4_init_15 rfl (ci := 4) (C := RX4) (T := TX4) (N := 13) (ty0 := tyX4) (ty := tyX4 2) (j := 2) rfl wcl_4 tyX4_ok nmX4 (by decide) wd_102 rfl hin rfl (by decide +kernel) (fun _ => rfl) (fun _ => rfl) hk (Nat.le_of_ble_eq_true rfl) (fs2 := [(0, 0), (2, n), (2, (n + 1)), (3, 0), (3, 0), (0, 0), (3, 0), (3, 0), (3, 0), (3, 0), (0, 0), (3, 0), (3, 0)]) rfl ?_
  have hg : wG S (S3.set k (10, 0, [(0, 0), (2, n), (2, (n + 1)), (3, 0), (3, 0), (0, 0), (3, 0), (3, 0), (3, 0), (3, 0), (0, 0), (3, 0), (3, 0)])) n (n + 2) k := wG_set2 (j := 2) (r := (n + 1)) hg hk (by omega) (Or.inl rfl) rfl
  have hk := w_stk (x := (10, 0, [(0, 0), (2, n), (2, (n + 1)), (3, 0), (3, 0), (0, 0), (3, 0), (3, 0), (3, 0), (3, 0), (0, 0), (3, 0), (3, 0)])) hk
  generalize hs4 : S3.set k (10, 0, [(0, 0), (2, n), (2, (n + 1)), (3, 0), (3, 0), (0, 0), (3, 0), (3, 0), (3, 0), (3, 0), (0, 0), (3, 0), (3, 0)]) = S4 at hk hg ⊢
  refine w_aload_n X dX4_init_18 rfl rfl rfl ?_
  refine w_iconst X dX4_init_19 rfl ci_3 ?_
  refine w_newaI X dX4_init_20 rfl wd_97 (by decide) (N := 3) (by decide) (by decide) hg.2.2.1 hg.1 (by omega) (w_rl ⟨wRf_r (by omega), trivial⟩ ⟨wRf_r (by omega), trivial⟩) ⟨Nat.le_of_ble_eq_true rfl, Nat.le_of_ble_eq_true rfl⟩ (fun ad3 ha3 X => ?_)
  have ha : ∀ q, (q < n ∨ 99999 ≤ q) → ad3 q = ad q := fun q hq => (ha3 q (by omega)).trans (ha q hq)
  have hk := w_apk (x := (0, 3, [])) hk
  have hg : wG S (S4 ++ [(0, 3, [])]) n (n + 3) k := wG_app (t := 0) (N := 3) (fs := []) hg (by simp)
  generalize hs5 : S4 ++ [(0, 3, [])] = S5 at hk hg ⊢
  refine w_putR2 X dX4_init_22 rfl (ci := 4) (C := RX4) (T := TX4) (N := 13) (ty0 := tyX4) (ty := tyX4 3) (j := 3) rfl wcl_4 tyX4_ok nmX4 (by decide) wd_105 rfl hin rfl (by decide +kernel) (fun _ => rfl) (fun _ => rfl) hk (Nat.le_of_ble_eq_true rfl) (fs2 := [(0, 0), (2, n), (2, (n + 1)), (2, (n + 2)), (3, 0), (0, 0), (3, 0), (3, 0), (3, 0), (3, 0), (0, 0), (3, 0), (3, 0)]) rfl ?_
  have hg : wG S (S5.set k (10, 0, [(0, 0), (2, n), (2, (n + 1)), (2, (n + 2)), (3, 0), (0, 0), (3, 0), (3, 0), (3, 0), (3, 0), (0, 0), (3, 0), (3, 0)])) n (n + 3) k := wG_set2 (j := 3) (r := (n + 2)) hg hk (by omega) (Or.inl rfl) rfl
  have hk := w_stk (x := (10, 0, [(0, 0), (2, n), (2, (n + 1)), (2, (n + 2)), (3, 0), (0, 0), (3, 0), (3, 0), (3, 0), (3, 0), (0, 0), (3, 0), (3, 0)])) hk
  generalize hs6 : S5.set k (10, 0, [(0, 0), (2, n), (2, (n + 1)), (2, (n + 2)), (3, 0), (0, 0), (3, 0), (3, 0), (3, 0), (3, 0), (0, 0), (3, 0), (3, 0)]) = S6 at hk hg ⊢
  refine w_aload_n X dX4_init_25 rfl rfl rfl ?_
  refine w_iconst X dX4_init_26 rfl ci_3 ?_
  refine w_newaI X dX4_init_27 rfl wd_97 (by decide) (N := 3) (by decide) (by decide) hg.2.2.1 hg.1 (by omega) (w_rl ⟨wRf_r (by omega), trivial⟩ ⟨wRf_r (by omega), trivial⟩) ⟨Nat.le_of_ble_eq_true rfl, Nat.le_of_ble_eq_true rfl⟩ (fun ad4 ha4 X => ?_)
  have ha : ∀ q, (q < n ∨ 99999 ≤ q) → ad4 q = ad q := fun q hq => (ha4 q (by omega)).trans (ha q hq)
  have hk := w_apk (x := (0, 3, [])) hk
  have hg : wG S (S6 ++ [(0, 3, [])]) n (n + 4) k := wG_app (t := 0) (N := 3) (fs := []) hg (by simp)
  generalize hs7 : S6 ++ [(0, 3, [])] = S7 at hk hg ⊢
  refine w_putR2 X dX4_init_29 rfl (ci := 4) (C := RX4) (T := TX4) (N := 13) (ty0 := tyX4) (ty := tyX4 4) (j := 4) rfl wcl_4 tyX4_ok nmX4 (by decide) wd_107 rfl hin rfl (by decide +kernel) (fun _ => rfl) (fun _ => rfl) hk (Nat.le_of_ble_eq_true rfl) (fs2 := [(0, 0), (2, n), (2, (n + 1)), (2, (n + 2)), (2, (n + 3)), (0, 0), (3, 0), (3, 0), (3, 0), (3, 0), (0, 0), (3, 0), (3, 0)]) rfl ?_
  have hg : wG S (S7.set k (10, 0, [(0, 0), (2, n), (2, (n + 1)), (2, (n + 2)), (2, (n + 3)), (0, 0), (3, 0), (3, 0), (3, 0), (3, 0), (0, 0), (3, 0), (3, 0)])) n (n + 4) k := wG_set2 (j := 4) (r := (n + 3)) hg hk (by omega) (Or.inl rfl) rfl
  have hk := w_stk (x := (10, 0, [(0, 0), (2, n), (2, (n + 1)), (2, (n + 2)), (2, (n + 3)), (0, 0), (3, 0), (3, 0), (3, 0), (3, 0), (0, 0), (3, 0), (3, 0)])) hk
  generalize hs8 : S7.set k (10, 0, [(0, 0), (2, n), (2, (n + 1)), (2, (n + 2)), (2, (n + 3)), (0, 0), (3, 0), (3, 0), (3, 0), (3, 0), (0, 0), (3, 0), (3, 0)]) = S8 at hk hg ⊢
  refine w_aload_n X dX4_init_32 rfl rfl rfl ?_
  refine w_bipush X dX4_init_33 rfl cb_6 ?_
  refine w_newaJ X dX4_init_35 rfl wd_96 (by decide) (N := 6) (by decide) (by decide) hg.2.2.1 hg.1 (by omega) (w_rl ⟨wRf_r (by omega), trivial⟩ ⟨wRf_r (by omega), trivial⟩) ⟨Nat.le_of_ble_eq_true rfl, Nat.le_of_ble_eq_true rfl⟩ (fun ad5 ha5 X => ?_)
  have ha : ∀ q, (q < n ∨ 99999 ≤ q) → ad5 q = ad q := fun q hq => (ha5 q (by omega)).trans (ha q hq)
  have hk := w_apk (x := (3, 6, [])) hk
  have hg : wG S (S8 ++ [(3, 6, [])]) n (n + 5) k := wG_app (t := 3) (N := 6) (fs := []) hg (by simp)
  generalize hs9 : S8 ++ [(3, 6, [])] = S9 at hk hg ⊢
  refine w_putR2 X dX4_init_37 rfl (ci := 4) (C := RX4) (T := TX4) (N := 13) (ty0 := tyX4) (ty := tyX4 6) (j := 6) rfl wcl_4 tyX4_ok nmX4 (by decide) wd_114 rfl hin rfl (by decide +kernel) (fun _ => rfl) (fun _ => rfl) hk (Nat.le_of_ble_eq_true rfl) (fs2 := [(0, 0), (2, n), (2, (n + 1)), (2, (n + 2)), (2, (n + 3)), (0, 0), (2, (n + 4)), (3, 0), (3, 0), (3, 0), (0, 0), (3, 0), (3, 0)]) rfl ?_
  have hg : wG S (S9.set k (10, 0, [(0, 0), (2, n), (2, (n + 1)), (2, (n + 2)), (2, (n + 3)), (0, 0), (2, (n + 4)), (3, 0), (3, 0), (3, 0), (0, 0), (3, 0), (3, 0)])) n (n + 5) k := wG_set2 (j := 6) (r := (n + 4)) hg hk (by omega) (Or.inl rfl) rfl
  have hk := w_stk (x := (10, 0, [(0, 0), (2, n), (2, (n + 1)), (2, (n + 2)), (2, (n + 3)), (0, 0), (2, (n + 4)), (3, 0), (3, 0), (3, 0), (0, 0), (3, 0), (3, 0)])) hk
  generalize hs10 : S9.set k (10, 0, [(0, 0), (2, n), (2, (n + 1)), (2, (n + 2)), (2, (n + 3)), (0, 0), (2, (n + 4)), (3, 0), (3, 0), (3, 0), (0, 0), (3, 0), (3, 0)]) = S10 at hk hg ⊢
  refine w_aload_n X dX4_init_40 rfl rfl rfl ?_
  refine w_bipush X dX4_init_41 rfl cb_6 ?_
  refine w_newaI X dX4_init_43 rfl wd_97 (by decide) (N := 6) (by decide) (by decide) hg.2.2.1 hg.1 (by omega) (w_rl ⟨wRf_r (by omega), trivial⟩ ⟨wRf_r (by omega), trivial⟩) ⟨Nat.le_of_ble_eq_true rfl, Nat.le_of_ble_eq_true rfl⟩ (fun ad6 ha6 X => ?_)
  have ha : ∀ q, (q < n ∨ 99999 ≤ q) → ad6 q = ad q := fun q hq => (ha6 q (by omega)).trans (ha q hq)
  have hk := w_apk (x := (0, 6, [])) hk
  have hg : wG S (S10 ++ [(0, 6, [])]) n (n + 6) k := wG_app (t := 0) (N := 6) (fs := []) hg (by simp)
  generalize hs11 : S10 ++ [(0, 6, [])] = S11 at hk hg ⊢
  refine w_putR2 X dX4_init_45 rfl (ci := 4) (C := RX4) (T := TX4) (N := 13) (ty0 := tyX4) (ty := tyX4 7) (j := 7) rfl wcl_4 tyX4_ok nmX4 (by decide) wd_115 rfl hin rfl (by decide +kernel) (fun _ => rfl) (fun _ => rfl) hk (Nat.le_of_ble_eq_true rfl) (fs2 := [(0, 0), (2, n), (2, (n + 1)), (2, (n + 2)), (2, (n + 3)), (0, 0), (2, (n + 4)), (2, (n + 5)), (3, 0), (3, 0), (0, 0), (3, 0), (3, 0)]) rfl ?_
  have hg : wG S (S11.set k (10, 0, [(0, 0), (2, n), (2, (n + 1)), (2, (n + 2)), (2, (n + 3)), (0, 0), (2, (n + 4)), (2, (n + 5)), (3, 0), (3, 0), (0, 0), (3, 0), (3, 0)])) n (n + 6) k := wG_set2 (j := 7) (r := (n + 5)) hg hk (by omega) (Or.inl rfl) rfl
  have hk := w_stk (x := (10, 0, [(0, 0), (2, n), (2, (n + 1)), (2, (n + 2)), (2, (n + 3)), (0, 0), (2, (n + 4)), (2, (n + 5)), (3, 0), (3, 0), (0, 0), (3, 0), (3, 0)])) hk
  generalize hs12 : S11.set k (10, 0, [(0, 0), (2, n), (2, (n + 1)), (2, (n + 2)), (2, (n + 3)), (0, 0), (2, (n + 4)), (2, (n + 5)), (3, 0), (3, 0), (0, 0), (3, 0), (3, 0)]) = S12 at hk hg ⊢
  refine w_aload_n X dX4_init_48 rfl rfl rfl ?_
  refine w_bipush X dX4_init_49 rfl cb_6 ?_
  refine w_newaI X dX4_init_51 rfl wd_97 (by decide) (N := 6) (by decide) (by decide) hg.2.2.1 hg.1 (by omega) (w_rl ⟨wRf_r (by omega), trivial⟩ ⟨wRf_r (by omega), trivial⟩) ⟨Nat.le_of_ble_eq_true rfl, Nat.le_of_ble_eq_true rfl⟩ (fun ad7 ha7 X => ?_)
  have ha : ∀ q, (q < n ∨ 99999 ≤ q) → ad7 q = ad q := fun q hq => (ha7 q (by omega)).trans (ha q hq)
  have hk := w_apk (x := (0, 6, [])) hk
  have hg : wG S (S12 ++ [(0, 6, [])]) n (n + 7) k := wG_app (t := 0) (N := 6) (fs := []) hg (by simp)
  generalize hs13 : S12 ++ [(0, 6, [])] = S13 at hk hg ⊢
  refine w_putR2 X dX4_init_53 rfl (ci := 4) (C := RX4) (T := TX4) (N := 13) (ty0 := tyX4) (ty := tyX4 8) (j := 8) rfl wcl_4 tyX4_ok nmX4 (by decide) wd_118 rfl hin rfl (by decide +kernel) (fun _ => rfl) (fun _ => rfl) hk (Nat.le_of_ble_eq_true rfl) (fs2 := [(0, 0), (2, n), (2, (n + 1)), (2, (n + 2)), (2, (n + 3)), (0, 0), (2, (n + 4)), (2, (n + 5)), (2, (n + 6)), (3, 0), (0, 0), (3, 0), (3, 0)]) rfl ?_
  have hg : wG S (S13.set k (10, 0, [(0, 0), (2, n), (2, (n + 1)), (2, (n + 2)), (2, (n + 3)), (0, 0), (2, (n + 4)), (2, (n + 5)), (2, (n + 6)), (3, 0), (0, 0), (3, 0), (3, 0)])) n (n + 7) k := wG_set2 (j := 8) (r := (n + 6)) hg hk (by omega) (Or.inl rfl) rfl
  have hk := w_stk (x := (10, 0, [(0, 0), (2, n), (2, (n + 1)), (2, (n + 2)), (2, (n + 3)), (0, 0), (2, (n + 4)), (2, (n + 5)), (2, (n + 6)), (3, 0), (0, 0), (3, 0), (3, 0)])) hk
  generalize hs14 : S13.set k (10, 0, [(0, 0), (2, n), (2, (n + 1)), (2, (n + 2)), (2, (n + 3)), (0, 0), (2, (n + 4)), (2, (n + 5)), (2, (n + 6)), (3, 0), (0, 0), (3, 0), (3, 0)]) = S14 at hk hg ⊢
  refine w_aload_n X dX4_init_56 rfl rfl rfl ?_
  refine w_bipush X dX4_init_57 rfl cb_6 ?_
  refine w_newaI X dX4_init_59 rfl wd_97 (by decide) (N := 6) (by decide) (by decide) hg.2.2.1 hg.1 (by omega) (w_rl ⟨wRf_r (by omega), trivial⟩ ⟨wRf_r (by omega), trivial⟩) ⟨Nat.le_of_ble_eq_true rfl, Nat.le_of_ble_eq_true rfl⟩ (fun ad8 ha8 X => ?_)
  have ha : ∀ q, (q < n ∨ 99999 ≤ q) → ad8 q = ad q := fun q hq => (ha8 q (by omega)).trans (ha q hq)
  have hk := w_apk (x := (0, 6, [])) hk
  have hg : wG S (S14 ++ [(0, 6, [])]) n (n + 8) k := wG_app (t := 0) (N := 6) (fs := []) hg (by simp)
  generalize hs15 : S14 ++ [(0, 6, [])] = S15 at hk hg ⊢
  refine w_putR2 X dX4_init_61 rfl (ci := 4) (C := RX4) (T := TX4) (N := 13) (ty0 := tyX4) (ty := tyX4 9) (j := 9) rfl wcl_4 tyX4_ok nmX4 (by decide) wd_121 rfl hin rfl (by decide +kernel) (fun _ => rfl) (fun _ => rfl) hk (Nat.le_of_ble_eq_true rfl) (fs2 := [(0, 0), (2, n), (2, (n + 1)), (2, (n + 2)), (2, (n + 3)), (0, 0), (2, (n + 4)), (2, (n + 5)), (2, (n + 6)), (2, (n + 7)), (0, 0), (3, 0), (3, 0)]) rfl ?_
  have hg : wG S (S15.set k (10, 0, [(0, 0), (2, n), (2, (n + 1)), (2, (n + 2)), (2, (n + 3)), (0, 0), (2, (n + 4)), (2, (n + 5)), (2, (n + 6)), (2, (n + 7)), (0, 0), (3, 0), (3, 0)])) n (n + 8) k := wG_set2 (j := 9) (r := (n + 7)) hg hk (by omega) (Or.inl rfl) rfl
  have hk := w_stk (x := (10, 0, [(0, 0), (2, n), (2, (n + 1)), (2, (n + 2)), (2, (n + 3)), (0, 0), (2, (n + 4)), (2, (n + 5)), (2, (n + 6)), (2, (n + 7)), (0, 0), (3, 0), (3, 0)])) hk
  generalize hs16 : S15.set k (10, 0, [(0, 0), (2, n), (2, (n + 1)), (2, (n + 2)), (2, (n + 3)), (0, 0), (2, (n + 4)), (2, (n + 5)), (2, (n + 6)), (2, (n + 7)), (0, 0), (3, 0), (3, 0)]) = S16 at hk hg ⊢
  refine w_aload_n X dX4_init_64 rfl rfl rfl ?_
  refine w_bipush X dX4_init_65 rfl cb_12 ?_
  refine w_newaI X dX4_init_67 rfl wd_97 (by decide) (N := 12) (by decide) (by decide) hg.2.2.1 hg.1 (by omega) (w_rl ⟨wRf_r (by omega), trivial⟩ ⟨wRf_r (by omega), trivial⟩) ⟨Nat.le_of_ble_eq_true rfl, Nat.le_of_ble_eq_true rfl⟩ (fun ad9 ha9 X => ?_)
  have ha : ∀ q, (q < n ∨ 99999 ≤ q) → ad9 q = ad q := fun q hq => (ha9 q (by omega)).trans (ha q hq)
  have hk := w_apk (x := (0, 12, [])) hk
  have hg : wG S (S16 ++ [(0, 12, [])]) n (n + 9) k := wG_app (t := 0) (N := 12) (fs := []) hg (by simp)
  generalize hs17 : S16 ++ [(0, 12, [])] = S17 at hk hg ⊢
  refine w_putR2 X dX4_init_69 rfl (ci := 4) (C := RX4) (T := TX4) (N := 13) (ty0 := tyX4) (ty := tyX4 11) (j := 11) rfl wcl_4 tyX4_ok nmX4 (by decide) wd_127 rfl hin rfl (by decide +kernel) (fun _ => rfl) (fun _ => rfl) hk (Nat.le_of_ble_eq_true rfl) (fs2 := [(0, 0), (2, n), (2, (n + 1)), (2, (n + 2)), (2, (n + 3)), (0, 0), (2, (n + 4)), (2, (n + 5)), (2, (n + 6)), (2, (n + 7)), (0, 0), (2, (n + 8)), (3, 0)]) rfl ?_
  have hg : wG S (S17.set k (10, 0, [(0, 0), (2, n), (2, (n + 1)), (2, (n + 2)), (2, (n + 3)), (0, 0), (2, (n + 4)), (2, (n + 5)), (2, (n + 6)), (2, (n + 7)), (0, 0), (2, (n + 8)), (3, 0)])) n (n + 9) k := wG_set2 (j := 11) (r := (n + 8)) hg hk (by omega) (Or.inl rfl) rfl
  have hk := w_stk (x := (10, 0, [(0, 0), (2, n), (2, (n + 1)), (2, (n + 2)), (2, (n + 3)), (0, 0), (2, (n + 4)), (2, (n + 5)), (2, (n + 6)), (2, (n + 7)), (0, 0), (2, (n + 8)), (3, 0)])) hk
  generalize hs18 : S17.set k (10, 0, [(0, 0), (2, n), (2, (n + 1)), (2, (n + 2)), (2, (n + 3)), (0, 0), (2, (n + 4)), (2, (n + 5)), (2, (n + 6)), (2, (n + 7)), (0, 0), (2, (n + 8)), (3, 0)]) = S18 at hk hg ⊢
  refine w_aload_n X dX4_init_72 rfl rfl rfl ?_
  refine w_newo X (ci := 2) (N := 4) (C := RX2) (T := TX2) (ty := tyX2) (fs := [(3, 0), (0, 0), (0, 0), (3, 0)]) dX4_init_73 rfl rfl wcl_2 tyX2_ok wd_77 wd_78 wd_4 (by decide +kernel) (by decide +kernel) hg.2.2.1 hg.1 (by omega) (w_rl ⟨wRf_r (by omega), trivial⟩ ⟨wRf_r (by omega), trivial⟩) ⟨Nat.le_of_ble_eq_true rfl, Nat.le_of_ble_eq_true rfl⟩ (fun ad10 ha10 X => ?_)
  have ha : ∀ q, (q < n ∨ 99999 ≤ q) → ad10 q = ad q := fun q hq => (ha10 q (by omega)).trans (ha q hq)
  have hnew := w_apn (x := (8, 0, [(3, 0), (0, 0), (0, 0), (3, 0)])) hg.1
  have hk := w_apk (x := (8, 0, [(3, 0), (0, 0), (0, 0), (3, 0)])) hk
  have hg : wG S (S18 ++ [(8, 0, [(3, 0), (0, 0), (0, 0), (3, 0)])]) n (n + 10) k := wG_app (t := 8) (N := 0) (fs := [(3, 0), (0, 0), (0, 0), (3, 0)]) hg (by decide)
  generalize hs19 : S18 ++ [(8, 0, [(3, 0), (0, 0), (0, 0), (3, 0)])] = S19 at hk hg hnew ⊢
  refine w_dup X dX4_init_76 rfl rfl ?_
  refine w_callI X dX4_init_77 rfl il_X4_42 (iX2 l hg.1 hg.2.2.1 hnew (by omega) ) (As := []) (st := [.ref (n + 9), .ref k]) rfl rfl (w_rl ⟨wRf_r (by omega), trivial⟩ ⟨wRf_r (by omega), wRf_r (by omega), trivial⟩) (Nat.le_of_ble_eq_true rfl) ⟨Nat.le_of_ble_eq_true rfl, Nat.le_of_ble_eq_true rfl⟩ ⟨Nat.le_of_ble_eq_true rfl, Nat.le_of_ble_eq_true rfl⟩ (fun ad11 ha11 X => ?_)
  have ha : ∀ q, (q < n ∨ 99999 ≤ q) → ad11 q = ad q := fun q hq => (ha11 q (by omega)).trans (ha q hq)
  have hg2 : wG S19 (sX2 S19 (n + 10) (n + 9) ) (n + 10) ((n + 10) + 2) (n + 9) := gX2 hg.1 hg.2.2.1 hnew 
  have hk := (hg2.2.2.2 k (by omega) (by omega)).trans hk
  have hnew : (sX2 S19 (n + 10) (n + 9) )[(n + 9)]? = some (8, 0, [(2, (n + 10)), (0, 0), (0, 0), (2, ((n + 10) + 1))]) := qX2 hg.1 hg.2.2.1 hnew 
  have hg : wG S (sX2 S19 (n + 10) (n + 9) ) n (n + 12) k := wG_call hg hg2 (by omega)
  generalize hs20 : sX2 S19 (n + 10) (n + 9) = S20 at hk hg hnew ⊢
  refine w_putR2 X dX4_init_80 rfl (ci := 4) (C := RX4) (T := TX4) (N := 13) (ty0 := tyX4) (ty := tyX4 12) (j := 12) rfl wcl_4 tyX4_ok nmX4 (by decide) wd_128 rfl hin rfl (by decide +kernel) (fun _ => rfl) (fun _ => rfl) hk (Nat.le_of_ble_eq_true rfl) (fs2 := [(0, 0), (2, n), (2, (n + 1)), (2, (n + 2)), (2, (n + 3)), (0, 0), (2, (n + 4)), (2, (n + 5)), (2, (n + 6)), (2, (n + 7)), (0, 0), (2, (n + 8)), (2, (n + 9))]) rfl ?_
  have hg : wG S (S20.set k (10, 0, [(0, 0), (2, n), (2, (n + 1)), (2, (n + 2)), (2, (n + 3)), (0, 0), (2, (n + 4)), (2, (n + 5)), (2, (n + 6)), (2, (n + 7)), (0, 0), (2, (n + 8)), (2, (n + 9))])) n (n + 12) k := wG_set2 (j := 12) (r := (n + 9)) hg hk (by omega) (Or.inl rfl) rfl
  have hk := w_stk (x := (10, 0, [(0, 0), (2, n), (2, (n + 1)), (2, (n + 2)), (2, (n + 3)), (0, 0), (2, (n + 4)), (2, (n + 5)), (2, (n + 6)), (2, (n + 7)), (0, 0), (2, (n + 8)), (2, (n + 9))])) hk
  have hnew := w_sto (k2 := k) (x := (10, 0, [(0, 0), (2, n), (2, (n + 1)), (2, (n + 2)), (2, (n + 3)), (0, 0), (2, (n + 4)), (2, (n + 5)), (2, (n + 6)), (2, (n + 7)), (0, 0), (2, (n + 8)), (2, (n + 9))])) (by omega) hnew
  generalize hs21 : S20.set k (10, 0, [(0, 0), (2, n), (2, (n + 1)), (2, (n + 2)), (2, (n + 3)), (0, 0), (2, (n + 4)), (2, (n + 5)), (2, (n + 6)), (2, (n + 7)), (0, 0), (2, (n + 8)), (2, (n + 9))]) = S21 at hk hg hnew ⊢
  subst hs1
  subst hs2
  subst hs3
  subst hs4
  subst hs5
  subst hs6
  subst hs7
  subst hs8
  subst hs9
  subst hs10
  subst hs11
  subst hs12
  subst hs13
  subst hs14
  subst hs15
  subst hs16
  subst hs17
  subst hs18
  subst hs19
  subst hs20
  subst hs21
  exact w_vretI X dX4_init_83 hr ha (Nat.le_of_ble_eq_true rfl) (Nat.le_of_ble_eq_true rfl)
def sX0 (S : List wSh) (n k : Nat) (t : Nat) : List wSh := (wst (sX6 (wap (wst (sX5 (wap (wst (sX9 (wap S (15, 0, [(0, 0), (3, 0)])) (n + 1) n ) k (6, 0, [(0, 0), (3, 0), (2, n), (3, 0)])) (11, 0, [(0, 0), (3, 0), (3, 0), (3, 0), (3, 0)])) (n + 3) (n + 2) ) k (6, 0, [(0, 0), (3, 0), (2, n), (2, (n + 2))])) (12, 0, [(3, 0), (0, 0), (3, 0), (3, 0), (3, 0), (3, 0)])) (n + 8) (n + 7) t) k (6, 0, [(0, 0), (2, (n + 7)), (2, n), (2, (n + 2))]))
set_option maxRecDepth 20000 in
set_option maxHeartbeats 4000000 in
theorem gqX0 {S : List wSh} {n k t : Nat} (hn : S.length = n) (hw : wWf S) (hk : S[k]? = some (6, 0, [(0, 0), (3, 0), (3, 0), (3, 0)])) (ht : t < n) : wG S (sX0 S n k t) n (n + 12) k ∧ (sX0 S n k t)[k]? = some (6, 0, [(0, 0), (2, (n + 7)), (2, n), (2, (n + 2))]) := by
  have hkl : k < n := by rw [← hn]; exact (List.getElem?_eq_some_iff.mp hk).1
  have hg : wG S S n n k := wG_rf hn hw
  have hnew := w_apn (x := (15, 0, [(0, 0), (3, 0)])) hg.1
  have hk := w_apk (x := (15, 0, [(0, 0), (3, 0)])) hk
  have hg : wG S (S ++ [(15, 0, [(0, 0), (3, 0)])]) n (n + 1) k := wG_app (t := 15) (N := 0) (fs := [(0, 0), (3, 0)]) hg (by decide)
  generalize hs1 : S ++ [(15, 0, [(0, 0), (3, 0)])] = S1 at hk hg hnew
  have hg2 : wG S1 (sX9 S1 (n + 1) n ) (n + 1) ((n + 1) + 1) n := gX9 hg.1 hg.2.2.1 hnew 
  have hk := (hg2.2.2.2 k (by omega) (by omega)).trans hk
  have hnew : (sX9 S1 (n + 1) n )[n]? = some (15, 0, [(0, 0), (2, (n + 1))]) := qX9 hg.1 hg.2.2.1 hnew 
  have hg : wG S (sX9 S1 (n + 1) n ) n (n + 2) k := wG_call hg hg2 (by omega)
  generalize hs2 : sX9 S1 (n + 1) n = S2 at hk hg hnew
  have hg : wG S (S2.set k (6, 0, [(0, 0), (3, 0), (2, n), (3, 0)])) n (n + 2) k := wG_set2 (j := 2) (r := n) hg hk (by omega) (Or.inl rfl) rfl
  have hk := w_stk (x := (6, 0, [(0, 0), (3, 0), (2, n), (3, 0)])) hk
  have hnew := w_sto (k2 := k) (x := (6, 0, [(0, 0), (3, 0), (2, n), (3, 0)])) (by omega) hnew
  generalize hs3 : S2.set k (6, 0, [(0, 0), (3, 0), (2, n), (3, 0)]) = S3 at hk hg hnew
  have hnew := w_apn (x := (11, 0, [(0, 0), (3, 0), (3, 0), (3, 0), (3, 0)])) hg.1
  have hk := w_apk (x := (11, 0, [(0, 0), (3, 0), (3, 0), (3, 0), (3, 0)])) hk
  have hg : wG S (S3 ++ [(11, 0, [(0, 0), (3, 0), (3, 0), (3, 0), (3, 0)])]) n (n + 3) k := wG_app (t := 11) (N := 0) (fs := [(0, 0), (3, 0), (3, 0), (3, 0), (3, 0)]) hg (by decide)
  generalize hs4 : S3 ++ [(11, 0, [(0, 0), (3, 0), (3, 0), (3, 0), (3, 0)])] = S4 at hk hg hnew
  have hg2 : wG S4 (sX5 S4 (n + 3) (n + 2) ) (n + 3) ((n + 3) + 4) (n + 2) := gX5 hg.1 hg.2.2.1 hnew 
  have hk := (hg2.2.2.2 k (by omega) (by omega)).trans hk
  have hnew : (sX5 S4 (n + 3) (n + 2) )[(n + 2)]? = some (11, 0, [(0, 0), (2, (n + 3)), (2, ((n + 3) + 1)), (2, ((n + 3) + 2)), (2, ((n + 3) + 3))]) := qX5 hg.1 hg.2.2.1 hnew 
  have hg : wG S (sX5 S4 (n + 3) (n + 2) ) n (n + 7) k := wG_call hg hg2 (by omega)
  generalize hs5 : sX5 S4 (n + 3) (n + 2) = S5 at hk hg hnew
  have hg : wG S (S5.set k (6, 0, [(0, 0), (3, 0), (2, n), (2, (n + 2))])) n (n + 7) k := wG_set2 (j := 3) (r := (n + 2)) hg hk (by omega) (Or.inl rfl) rfl
  have hk := w_stk (x := (6, 0, [(0, 0), (3, 0), (2, n), (2, (n + 2))])) hk
  have hnew := w_sto (k2 := k) (x := (6, 0, [(0, 0), (3, 0), (2, n), (2, (n + 2))])) (by omega) hnew
  generalize hs6 : S5.set k (6, 0, [(0, 0), (3, 0), (2, n), (2, (n + 2))]) = S6 at hk hg hnew
  have hnew := w_apn (x := (12, 0, [(3, 0), (0, 0), (3, 0), (3, 0), (3, 0), (3, 0)])) hg.1
  have hk := w_apk (x := (12, 0, [(3, 0), (0, 0), (3, 0), (3, 0), (3, 0), (3, 0)])) hk
  have hg : wG S (S6 ++ [(12, 0, [(3, 0), (0, 0), (3, 0), (3, 0), (3, 0), (3, 0)])]) n (n + 8) k := wG_app (t := 12) (N := 0) (fs := [(3, 0), (0, 0), (3, 0), (3, 0), (3, 0), (3, 0)]) hg (by decide)
  generalize hs7 : S6 ++ [(12, 0, [(3, 0), (0, 0), (3, 0), (3, 0), (3, 0), (3, 0)])] = S7 at hk hg hnew
  have hg2 : wG S7 (sX6 S7 (n + 8) (n + 7) t) (n + 8) ((n + 8) + 4) (n + 7) := gX6 hg.1 hg.2.2.1 hnew (by omega)
  have hk := (hg2.2.2.2 k (by omega) (by omega)).trans hk
  have hnew : (sX6 S7 (n + 8) (n + 7) t)[(n + 7)]? = some (12, 0, [(2, t), (0, 0), (2, (n + 8)), (2, ((n + 8) + 1)), (2, ((n + 8) + 2)), (2, ((n + 8) + 3))]) := qX6 hg.1 hg.2.2.1 hnew (by omega)
  have hg : wG S (sX6 S7 (n + 8) (n + 7) t) n (n + 12) k := wG_call hg hg2 (by omega)
  generalize hs8 : sX6 S7 (n + 8) (n + 7) t = S8 at hk hg hnew
  have hg : wG S (S8.set k (6, 0, [(0, 0), (2, (n + 7)), (2, n), (2, (n + 2))])) n (n + 12) k := wG_set2 (j := 1) (r := (n + 7)) hg hk (by omega) (Or.inl rfl) rfl
  have hk := w_stk (x := (6, 0, [(0, 0), (2, (n + 7)), (2, n), (2, (n + 2))])) hk
  have hnew := w_sto (k2 := k) (x := (6, 0, [(0, 0), (2, (n + 7)), (2, n), (2, (n + 2))])) (by omega) hnew
  generalize hs9 : S8.set k (6, 0, [(0, 0), (2, (n + 7)), (2, n), (2, (n + 2))]) = S9 at hk hg hnew
  subst hs1
  subst hs2
  subst hs3
  subst hs4
  subst hs5
  subst hs6
  subst hs7
  subst hs8
  subst hs9
  exact ⟨hg, hk⟩
theorem gX0 {S : List wSh} {n k t : Nat} (hn : S.length = n) (hw : wWf S) (hk : S[k]? = some (6, 0, [(0, 0), (3, 0), (3, 0), (3, 0)])) (ht : t < n) : wG S (sX0 S n k t) n (n + 12) k := (gqX0 hn hw hk ht).1
theorem qX0 {S : List wSh} {n k t : Nat} (hn : S.length = n) (hw : wWf S) (hk : S[k]? = some (6, 0, [(0, 0), (3, 0), (3, 0), (3, 0)])) (ht : t < n) : (sX0 S n k t)[k]? = some (6, 0, [(0, 0), (2, (n + 7)), (2, n), (2, (n + 2))]) := (gqX0 hn hw hk ht).2
set_option maxRecDepth 20000 in
set_option maxHeartbeats 8000000 in
theorem iX0 (l : Launch) {S : List wSh} {n k t : Nat} (hn : S.length = n) (hw : wWf S) (hk : S[k]? = some (6, 0, [(0, 0), (3, 0), (3, 0), (3, 0)])) (hn9 : n < 80000) (ht : t < n) : wCi l yX0_init cX0_init 2 2 12 127 S n [.ref k, .ref t] (sX0 S n k t) := by
  have hkl : k < n := by rw [← hn]; exact (List.getElem?_eq_some_iff.mp hk).1
  refine w_methI 0 (by decide) (Nat.le_of_ble_eq_true rfl) (ls := [some (.ref k), some (.ref t)]) rfl ?_
  intro p e s m args below meth c D dA b0 ad X hr hin
  have hg : wG S S n n k := wG_rf hn hw
  have ha : ∀ q, (q < n ∨ 99999 ≤ q) → ad q = ad q := fun _ _ => rfl
  refine w_aload_n X dX0_init_0 rfl rfl rfl ?_
  refine w_obj X dX0_init_1 rfl wd_290 wd_31 wd_32 (Nat.le_of_ble_eq_true rfl) (Nat.le_of_ble_eq_true rfl) ?_
  refine w_aload_n X dX0_init_4 rfl rfl rfl ?_
  refine w_newo X (ci := 9) (N := 2) (C := RX9) (T := TX9) (ty := tyX9) (fs := [(0, 0), (3, 0)]) dX0_init_5 rfl rfl wcl_9 tyX9_ok wd_291 wd_187 wd_6 (by decide +kernel) (by decide +kernel) hg.2.2.1 hg.1 (by omega) (w_rl ⟨wRf_r (by omega), wRf_r (by omega), trivial⟩ ⟨wRf_r (by omega), trivial⟩) ⟨Nat.le_of_ble_eq_true rfl, Nat.le_of_ble_eq_true rfl⟩ (fun ad1 ha1 X => ?_)
  have ha : ∀ q, (q < n ∨ 99999 ≤ q) → ad1 q = ad q := fun q hq => (ha1 q (by omega)).trans (ha q hq)
  have hnew := w_apn (x := (15, 0, [(0, 0), (3, 0)])) hg.1
  have hk := w_apk (x := (15, 0, [(0, 0), (3, 0)])) hk
  have hg : wG S (S ++ [(15, 0, [(0, 0), (3, 0)])]) n (n + 1) k := wG_app (t := 15) (N := 0) (fs := [(0, 0), (3, 0)]) hg (by decide)
  generalize hs1 : S ++ [(15, 0, [(0, 0), (3, 0)])] = S1 at hk hg hnew ⊢
  refine w_dup X dX0_init_8 rfl rfl ?_
  refine w_callI X dX0_init_9 rfl il_X0_9 (iX9 l hg.1 hg.2.2.1 hnew (by omega) ) (As := []) (st := [.ref n, .ref k]) rfl rfl (w_rl ⟨wRf_r (by omega), wRf_r (by omega), trivial⟩ ⟨wRf_r (by omega), wRf_r (by omega), trivial⟩) (Nat.le_of_ble_eq_true rfl) ⟨Nat.le_of_ble_eq_true rfl, Nat.le_of_ble_eq_true rfl⟩ ⟨Nat.le_of_ble_eq_true rfl, Nat.le_of_ble_eq_true rfl⟩ (fun ad2 ha2 X => ?_)
  have ha : ∀ q, (q < n ∨ 99999 ≤ q) → ad2 q = ad q := fun q hq => (ha2 q (by omega)).trans (ha q hq)
  have hg2 : wG S1 (sX9 S1 (n + 1) n ) (n + 1) ((n + 1) + 1) n := gX9 hg.1 hg.2.2.1 hnew 
  have hk := (hg2.2.2.2 k (by omega) (by omega)).trans hk
  have hnew : (sX9 S1 (n + 1) n )[n]? = some (15, 0, [(0, 0), (2, (n + 1))]) := qX9 hg.1 hg.2.2.1 hnew 
  have hg : wG S (sX9 S1 (n + 1) n ) n (n + 2) k := wG_call hg hg2 (by omega)
  generalize hs2 : sX9 S1 (n + 1) n = S2 at hk hg hnew ⊢
  refine w_putR2 X dX0_init_12 rfl (ci := 0) (C := RX0) (T := TX0) (N := 4) (ty0 := tyX0) (ty := tyX0 2) (j := 2) rfl wcl_0 tyX0_ok nmX0 (by decide) wd_301 rfl hin rfl (by decide +kernel) (fun _ => rfl) (fun _ => rfl) hk (Nat.le_of_ble_eq_true rfl) (fs2 := [(0, 0), (3, 0), (2, n), (3, 0)]) rfl ?_
  have hg : wG S (S2.set k (6, 0, [(0, 0), (3, 0), (2, n), (3, 0)])) n (n + 2) k := wG_set2 (j := 2) (r := n) hg hk (by omega) (Or.inl rfl) rfl
  have hk := w_stk (x := (6, 0, [(0, 0), (3, 0), (2, n), (3, 0)])) hk
  have hnew := w_sto (k2 := k) (x := (6, 0, [(0, 0), (3, 0), (2, n), (3, 0)])) (by omega) hnew
  generalize hs3 : S2.set k (6, 0, [(0, 0), (3, 0), (2, n), (3, 0)]) = S3 at hk hg hnew ⊢
  refine w_aload_n X dX0_init_15 rfl rfl rfl ?_
  refine w_newo X (ci := 5) (N := 5) (C := RX5) (T := TX5) (ty := tyX5) (fs := [(0, 0), (3, 0), (3, 0), (3, 0), (3, 0)]) dX0_init_16 rfl rfl wcl_5 tyX5_ok wd_293 wd_202 wd_7 (by decide +kernel) (by decide +kernel) hg.2.2.1 hg.1 (by omega) (w_rl ⟨wRf_r (by omega), wRf_r (by omega), trivial⟩ ⟨wRf_r (by omega), trivial⟩) ⟨Nat.le_of_ble_eq_true rfl, Nat.le_of_ble_eq_true rfl⟩ (fun ad3 ha3 X => ?_)
  have ha : ∀ q, (q < n ∨ 99999 ≤ q) → ad3 q = ad q := fun q hq => (ha3 q (by omega)).trans (ha q hq)
  have hnew := w_apn (x := (11, 0, [(0, 0), (3, 0), (3, 0), (3, 0), (3, 0)])) hg.1
  have hk := w_apk (x := (11, 0, [(0, 0), (3, 0), (3, 0), (3, 0), (3, 0)])) hk
  have hg : wG S (S3 ++ [(11, 0, [(0, 0), (3, 0), (3, 0), (3, 0), (3, 0)])]) n (n + 3) k := wG_app (t := 11) (N := 0) (fs := [(0, 0), (3, 0), (3, 0), (3, 0), (3, 0)]) hg (by decide)
  generalize hs4 : S3 ++ [(11, 0, [(0, 0), (3, 0), (3, 0), (3, 0), (3, 0)])] = S4 at hk hg hnew ⊢
  refine w_dup X dX0_init_19 rfl rfl ?_
  refine w_callI X dX0_init_20 rfl il_X0_18 (iX5 l hg.1 hg.2.2.1 hnew (by omega) ) (As := []) (st := [.ref (n + 2), .ref k]) rfl rfl (w_rl ⟨wRf_r (by omega), wRf_r (by omega), trivial⟩ ⟨wRf_r (by omega), wRf_r (by omega), trivial⟩) (Nat.le_of_ble_eq_true rfl) ⟨Nat.le_of_ble_eq_true rfl, Nat.le_of_ble_eq_true rfl⟩ ⟨Nat.le_of_ble_eq_true rfl, Nat.le_of_ble_eq_true rfl⟩ (fun ad4 ha4 X => ?_)
  have ha : ∀ q, (q < n ∨ 99999 ≤ q) → ad4 q = ad q := fun q hq => (ha4 q (by omega)).trans (ha q hq)
  have hg2 : wG S4 (sX5 S4 (n + 3) (n + 2) ) (n + 3) ((n + 3) + 4) (n + 2) := gX5 hg.1 hg.2.2.1 hnew 
  have hk := (hg2.2.2.2 k (by omega) (by omega)).trans hk
  have hnew : (sX5 S4 (n + 3) (n + 2) )[(n + 2)]? = some (11, 0, [(0, 0), (2, (n + 3)), (2, ((n + 3) + 1)), (2, ((n + 3) + 2)), (2, ((n + 3) + 3))]) := qX5 hg.1 hg.2.2.1 hnew 
  have hg : wG S (sX5 S4 (n + 3) (n + 2) ) n (n + 7) k := wG_call hg hg2 (by omega)
  generalize hs5 : sX5 S4 (n + 3) (n + 2) = S5 at hk hg hnew ⊢
  refine w_putR2 X dX0_init_23 rfl (ci := 0) (C := RX0) (T := TX0) (N := 4) (ty0 := tyX0) (ty := tyX0 3) (j := 3) rfl wcl_0 tyX0_ok nmX0 (by decide) wd_303 rfl hin rfl (by decide +kernel) (fun _ => rfl) (fun _ => rfl) hk (Nat.le_of_ble_eq_true rfl) (fs2 := [(0, 0), (3, 0), (2, n), (2, (n + 2))]) rfl ?_
  have hg : wG S (S5.set k (6, 0, [(0, 0), (3, 0), (2, n), (2, (n + 2))])) n (n + 7) k := wG_set2 (j := 3) (r := (n + 2)) hg hk (by omega) (Or.inl rfl) rfl
  have hk := w_stk (x := (6, 0, [(0, 0), (3, 0), (2, n), (2, (n + 2))])) hk
  have hnew := w_sto (k2 := k) (x := (6, 0, [(0, 0), (3, 0), (2, n), (2, (n + 2))])) (by omega) hnew
  generalize hs6 : S5.set k (6, 0, [(0, 0), (3, 0), (2, n), (2, (n + 2))]) = S6 at hk hg hnew ⊢
  refine w_aload_n X dX0_init_26 rfl rfl rfl ?_
  refine w_newo X (ci := 6) (N := 6) (C := RX6) (T := TX6) (ty := tyX6) (fs := [(3, 0), (0, 0), (3, 0), (3, 0), (3, 0), (3, 0)]) dX0_init_27 rfl rfl wcl_6 tyX6_ok wd_295 wd_157 wd_5 (by decide +kernel) (by decide +kernel) hg.2.2.1 hg.1 (by omega) (w_rl ⟨wRf_r (by omega), wRf_r (by omega), trivial⟩ ⟨wRf_r (by omega), trivial⟩) ⟨Nat.le_of_ble_eq_true rfl, Nat.le_of_ble_eq_true rfl⟩ (fun ad5 ha5 X => ?_)
  have ha : ∀ q, (q < n ∨ 99999 ≤ q) → ad5 q = ad q := fun q hq => (ha5 q (by omega)).trans (ha q hq)
  have hnew := w_apn (x := (12, 0, [(3, 0), (0, 0), (3, 0), (3, 0), (3, 0), (3, 0)])) hg.1
  have hk := w_apk (x := (12, 0, [(3, 0), (0, 0), (3, 0), (3, 0), (3, 0), (3, 0)])) hk
  have hg : wG S (S6 ++ [(12, 0, [(3, 0), (0, 0), (3, 0), (3, 0), (3, 0), (3, 0)])]) n (n + 8) k := wG_app (t := 12) (N := 0) (fs := [(3, 0), (0, 0), (3, 0), (3, 0), (3, 0), (3, 0)]) hg (by decide)
  generalize hs7 : S6 ++ [(12, 0, [(3, 0), (0, 0), (3, 0), (3, 0), (3, 0), (3, 0)])] = S7 at hk hg hnew ⊢
  refine w_dup X dX0_init_30 rfl rfl ?_
  refine w_aload_n X dX0_init_31 rfl rfl rfl ?_
  refine w_callI X dX0_init_32 rfl il_X0_25 (iX6 l hg.1 hg.2.2.1 hnew (by omega) (by omega)) (As := [.ref t]) (st := [.ref (n + 7), .ref k]) rfl rfl (w_rl ⟨wRf_r (by omega), wRf_r (by omega), trivial⟩ ⟨wRf_r (by omega), wRf_r (by omega), trivial⟩) (Nat.le_of_ble_eq_true rfl) ⟨Nat.le_of_ble_eq_true rfl, Nat.le_of_ble_eq_true rfl⟩ ⟨Nat.le_of_ble_eq_true rfl, Nat.le_of_ble_eq_true rfl⟩ (fun ad6 ha6 X => ?_)
  have ha : ∀ q, (q < n ∨ 99999 ≤ q) → ad6 q = ad q := fun q hq => (ha6 q (by omega)).trans (ha q hq)
  have hg2 : wG S7 (sX6 S7 (n + 8) (n + 7) t) (n + 8) ((n + 8) + 4) (n + 7) := gX6 hg.1 hg.2.2.1 hnew (by omega)
  have hk := (hg2.2.2.2 k (by omega) (by omega)).trans hk
  have hnew : (sX6 S7 (n + 8) (n + 7) t)[(n + 7)]? = some (12, 0, [(2, t), (0, 0), (2, (n + 8)), (2, ((n + 8) + 1)), (2, ((n + 8) + 2)), (2, ((n + 8) + 3))]) := qX6 hg.1 hg.2.2.1 hnew (by omega)
  have hg : wG S (sX6 S7 (n + 8) (n + 7) t) n (n + 12) k := wG_call hg hg2 (by omega)
  generalize hs8 : sX6 S7 (n + 8) (n + 7) t = S8 at hk hg hnew ⊢
  refine w_putR2 X dX0_init_35 rfl (ci := 0) (C := RX0) (T := TX0) (N := 4) (ty0 := tyX0) (ty := tyX0 1) (j := 1) rfl wcl_0 tyX0_ok nmX0 (by decide) wd_299 rfl hin rfl (by decide +kernel) (fun _ => rfl) (fun _ => rfl) hk (Nat.le_of_ble_eq_true rfl) (fs2 := [(0, 0), (2, (n + 7)), (2, n), (2, (n + 2))]) rfl ?_
  have hg : wG S (S8.set k (6, 0, [(0, 0), (2, (n + 7)), (2, n), (2, (n + 2))])) n (n + 12) k := wG_set2 (j := 1) (r := (n + 7)) hg hk (by omega) (Or.inl rfl) rfl
  have hk := w_stk (x := (6, 0, [(0, 0), (2, (n + 7)), (2, n), (2, (n + 2))])) hk
  have hnew := w_sto (k2 := k) (x := (6, 0, [(0, 0), (2, (n + 7)), (2, n), (2, (n + 2))])) (by omega) hnew
  generalize hs9 : S8.set k (6, 0, [(0, 0), (2, (n + 7)), (2, n), (2, (n + 2))]) = S9 at hk hg hnew ⊢
  subst hs1
  subst hs2
  subst hs3
  subst hs4
  subst hs5
  subst hs6
  subst hs7
  subst hs8
  subst hs9
  exact w_vretI X dX0_init_38 hr ha (Nat.le_of_ble_eq_true rfl) (Nat.le_of_ble_eq_true rfl)
def sX8 (S : List wSh) (n k : Nat) (t : Nat) : List wSh := (wst (sX6 (wap (wst (sX6 (wap (wst (sX6 (wap (wst (sX6 (wap (wst (sX6 (wap (wst (sX6 (wap (wst (sX6 (wap (wst (sX6 (wap (wst (sX6 (wap (wst (sX6 (wap (wst (sX6 (wap (wst (sX6 (wap (wst (sX6 (wap (wst (sX6 (wap (wst (sX6 (wap (wst (sX6 (wap (wst (wap S (5, 16, [(3, 0), (3, 0), (3, 0), (3, 0), (3, 0), (3, 0), (3, 0), (3, 0), (3, 0), (3, 0), (3, 0), (3, 0), (3, 0), (3, 0), (3, 0), (3, 0)])) k (14, 0, [(0, 0), (0, 0), (2, n)])) (12, 0, [(3, 0), (0, 0), (3, 0), (3, 0), (3, 0), (3, 0)])) (n + 2) (n + 1) t) n (5, 16, [(2, (n + 1)), (3, 0), (3, 0), (3, 0), (3, 0), (3, 0), (3, 0), (3, 0), (3, 0), (3, 0), (3, 0), (3, 0), (3, 0), (3, 0), (3, 0), (3, 0)])) (12, 0, [(3, 0), (0, 0), (3, 0), (3, 0), (3, 0), (3, 0)])) (n + 7) (n + 6) t) n (5, 16, [(2, (n + 1)), (2, (n + 6)), (3, 0), (3, 0), (3, 0), (3, 0), (3, 0), (3, 0), (3, 0), (3, 0), (3, 0), (3, 0), (3, 0), (3, 0), (3, 0), (3, 0)])) (12, 0, [(3, 0), (0, 0), (3, 0), (3, 0), (3, 0), (3, 0)])) (n + 12) (n + 11) t) n (5, 16, [(2, (n + 1)), (2, (n + 6)), (2, (n + 11)), (3, 0), (3, 0), (3, 0), (3, 0), (3, 0), (3, 0), (3, 0), (3, 0), (3, 0), (3, 0), (3, 0), (3, 0), (3, 0)])) (12, 0, [(3, 0), (0, 0), (3, 0), (3, 0), (3, 0), (3, 0)])) (n + 17) (n + 16) t) n (5, 16, [(2, (n + 1)), (2, (n + 6)), (2, (n + 11)), (2, (n + 16)), (3, 0), (3, 0), (3, 0), (3, 0), (3, 0), (3, 0), (3, 0), (3, 0), (3, 0), (3, 0), (3, 0), (3, 0)])) (12, 0, [(3, 0), (0, 0), (3, 0), (3, 0), (3, 0), (3, 0)])) (n + 22) (n + 21) t) n (5, 16, [(2, (n + 1)), (2, (n + 6)), (2, (n + 11)), (2, (n + 16)), (2, (n + 21)), (3, 0), (3, 0), (3, 0), (3, 0), (3, 0), (3, 0), (3, 0), (3, 0), (3, 0), (3, 0), (3, 0)])) (12, 0, [(3, 0), (0, 0), (3, 0), (3, 0), (3, 0), (3, 0)])) (n + 27) (n + 26) t) n (5, 16, [(2, (n + 1)), (2, (n + 6)), (2, (n + 11)), (2, (n + 16)), (2, (n + 21)), (2, (n + 26)), (3, 0), (3, 0), (3, 0), (3, 0), (3, 0), (3, 0), (3, 0), (3, 0), (3, 0), (3, 0)])) (12, 0, [(3, 0), (0, 0), (3, 0), (3, 0), (3, 0), (3, 0)])) (n + 32) (n + 31) t) n (5, 16, [(2, (n + 1)), (2, (n + 6)), (2, (n + 11)), (2, (n + 16)), (2, (n + 21)), (2, (n + 26)), (2, (n + 31)), (3, 0), (3, 0), (3, 0), (3, 0), (3, 0), (3, 0), (3, 0), (3, 0), (3, 0)])) (12, 0, [(3, 0), (0, 0), (3, 0), (3, 0), (3, 0), (3, 0)])) (n + 37) (n + 36) t) n (5, 16, [(2, (n + 1)), (2, (n + 6)), (2, (n + 11)), (2, (n + 16)), (2, (n + 21)), (2, (n + 26)), (2, (n + 31)), (2, (n + 36)), (3, 0), (3, 0), (3, 0), (3, 0), (3, 0), (3, 0), (3, 0), (3, 0)])) (12, 0, [(3, 0), (0, 0), (3, 0), (3, 0), (3, 0), (3, 0)])) (n + 42) (n + 41) t) n (5, 16, [(2, (n + 1)), (2, (n + 6)), (2, (n + 11)), (2, (n + 16)), (2, (n + 21)), (2, (n + 26)), (2, (n + 31)), (2, (n + 36)), (2, (n + 41)), (3, 0), (3, 0), (3, 0), (3, 0), (3, 0), (3, 0), (3, 0)])) (12, 0, [(3, 0), (0, 0), (3, 0), (3, 0), (3, 0), (3, 0)])) (n + 47) (n + 46) t) n (5, 16, [(2, (n + 1)), (2, (n + 6)), (2, (n + 11)), (2, (n + 16)), (2, (n + 21)), (2, (n + 26)), (2, (n + 31)), (2, (n + 36)), (2, (n + 41)), (2, (n + 46)), (3, 0), (3, 0), (3, 0), (3, 0), (3, 0), (3, 0)])) (12, 0, [(3, 0), (0, 0), (3, 0), (3, 0), (3, 0), (3, 0)])) (n + 52) (n + 51) t) n (5, 16, [(2, (n + 1)), (2, (n + 6)), (2, (n + 11)), (2, (n + 16)), (2, (n + 21)), (2, (n + 26)), (2, (n + 31)), (2, (n + 36)), (2, (n + 41)), (2, (n + 46)), (2, (n + 51)), (3, 0), (3, 0), (3, 0), (3, 0), (3, 0)])) (12, 0, [(3, 0), (0, 0), (3, 0), (3, 0), (3, 0), (3, 0)])) (n + 57) (n + 56) t) n (5, 16, [(2, (n + 1)), (2, (n + 6)), (2, (n + 11)), (2, (n + 16)), (2, (n + 21)), (2, (n + 26)), (2, (n + 31)), (2, (n + 36)), (2, (n + 41)), (2, (n + 46)), (2, (n + 51)), (2, (n + 56)), (3, 0), (3, 0), (3, 0), (3, 0)])) (12, 0, [(3, 0), (0, 0), (3, 0), (3, 0), (3, 0), (3, 0)])) (n + 62) (n + 61) t) n (5, 16, [(2, (n + 1)), (2, (n + 6)), (2, (n + 11)), (2, (n + 16)), (2, (n + 21)), (2, (n + 26)), (2, (n + 31)), (2, (n + 36)), (2, (n + 41)), (2, (n + 46)), (2, (n + 51)), (2, (n + 56)), (2, (n + 61)), (3, 0), (3, 0), (3, 0)])) (12, 0, [(3, 0), (0, 0), (3, 0), (3, 0), (3, 0), (3, 0)])) (n + 67) (n + 66) t) n (5, 16, [(2, (n + 1)), (2, (n + 6)), (2, (n + 11)), (2, (n + 16)), (2, (n + 21)), (2, (n + 26)), (2, (n + 31)), (2, (n + 36)), (2, (n + 41)), (2, (n + 46)), (2, (n + 51)), (2, (n + 56)), (2, (n + 61)), (2, (n + 66)), (3, 0), (3, 0)])) (12, 0, [(3, 0), (0, 0), (3, 0), (3, 0), (3, 0), (3, 0)])) (n + 72) (n + 71) t) n (5, 16, [(2, (n + 1)), (2, (n + 6)), (2, (n + 11)), (2, (n + 16)), (2, (n + 21)), (2, (n + 26)), (2, (n + 31)), (2, (n + 36)), (2, (n + 41)), (2, (n + 46)), (2, (n + 51)), (2, (n + 56)), (2, (n + 61)), (2, (n + 66)), (2, (n + 71)), (3, 0)])) (12, 0, [(3, 0), (0, 0), (3, 0), (3, 0), (3, 0), (3, 0)])) (n + 77) (n + 76) t) n (5, 16, [(2, (n + 1)), (2, (n + 6)), (2, (n + 11)), (2, (n + 16)), (2, (n + 21)), (2, (n + 26)), (2, (n + 31)), (2, (n + 36)), (2, (n + 41)), (2, (n + 46)), (2, (n + 51)), (2, (n + 56)), (2, (n + 61)), (2, (n + 66)), (2, (n + 71)), (2, (n + 76))]))
set_option maxRecDepth 20000 in
set_option maxHeartbeats 4000000 in
theorem gqX8 {S : List wSh} {n k t : Nat} (hn : S.length = n) (hw : wWf S) (hk : S[k]? = some (14, 0, [(0, 0), (0, 0), (3, 0)])) (ht : t < n) : wG S (sX8 S n k t) n (n + 81) k ∧ (sX8 S n k t)[k]? = some (14, 0, [(0, 0), (0, 0), (2, n)]) := by
  have hkl : k < n := by rw [← hn]; exact (List.getElem?_eq_some_iff.mp hk).1
  have hg : wG S S n n k := wG_rf hn hw
  have harr := w_apn (x := (5, 16, [(3, 0), (3, 0), (3, 0), (3, 0), (3, 0), (3, 0), (3, 0), (3, 0), (3, 0), (3, 0), (3, 0), (3, 0), (3, 0), (3, 0), (3, 0), (3, 0)])) hg.1
  have hk := w_apk (x := (5, 16, [(3, 0), (3, 0), (3, 0), (3, 0), (3, 0), (3, 0), (3, 0), (3, 0), (3, 0), (3, 0), (3, 0), (3, 0), (3, 0), (3, 0), (3, 0), (3, 0)])) hk
  have hg : wG S (S ++ [(5, 16, [(3, 0), (3, 0), (3, 0), (3, 0), (3, 0), (3, 0), (3, 0), (3, 0), (3, 0), (3, 0), (3, 0), (3, 0), (3, 0), (3, 0), (3, 0), (3, 0)])]) n (n + 1) k := wG_app (t := 5) (N := 16) (fs := [(3, 0), (3, 0), (3, 0), (3, 0), (3, 0), (3, 0), (3, 0), (3, 0), (3, 0), (3, 0), (3, 0), (3, 0), (3, 0), (3, 0), (3, 0), (3, 0)]) hg (by decide)
  generalize hs1 : S ++ [(5, 16, [(3, 0), (3, 0), (3, 0), (3, 0), (3, 0), (3, 0), (3, 0), (3, 0), (3, 0), (3, 0), (3, 0), (3, 0), (3, 0), (3, 0), (3, 0), (3, 0)])] = S1 at hk hg harr
  have hg : wG S (S1.set k (14, 0, [(0, 0), (0, 0), (2, n)])) n (n + 1) k := wG_set2 (j := 2) (r := n) hg hk (by omega) (Or.inl rfl) rfl
  have harr := w_sto (k2 := k) (x := (14, 0, [(0, 0), (0, 0), (2, n)])) (by omega) harr
  have hk := w_stk (x := (14, 0, [(0, 0), (0, 0), (2, n)])) hk
  generalize hs2 : S1.set k (14, 0, [(0, 0), (0, 0), (2, n)]) = S2 at hk hg harr
  have hnew := w_apn (x := (12, 0, [(3, 0), (0, 0), (3, 0), (3, 0), (3, 0), (3, 0)])) hg.1
  have hk := w_apk (x := (12, 0, [(3, 0), (0, 0), (3, 0), (3, 0), (3, 0), (3, 0)])) hk
  have hg : wG S (S2 ++ [(12, 0, [(3, 0), (0, 0), (3, 0), (3, 0), (3, 0), (3, 0)])]) n (n + 2) k := wG_app (t := 12) (N := 0) (fs := [(3, 0), (0, 0), (3, 0), (3, 0), (3, 0), (3, 0)]) hg (by decide)
  have harr := w_apk (x := (12, 0, [(3, 0), (0, 0), (3, 0), (3, 0), (3, 0), (3, 0)])) harr
  generalize hs3 : S2 ++ [(12, 0, [(3, 0), (0, 0), (3, 0), (3, 0), (3, 0), (3, 0)])] = S3 at hk hg harr hnew
  have hg2 : wG S3 (sX6 S3 (n + 2) (n + 1) t) (n + 2) ((n + 2) + 4) (n + 1) := gX6 hg.1 hg.2.2.1 hnew (by omega)
  have hk := (hg2.2.2.2 k (by omega) (by omega)).trans hk
  have harr := (hg2.2.2.2 _ (by omega) (by omega)).trans harr
  have hnew : (sX6 S3 (n + 2) (n + 1) t)[(n + 1)]? = some (12, 0, [(2, t), (0, 0), (2, (n + 2)), (2, ((n + 2) + 1)), (2, ((n + 2) + 2)), (2, ((n + 2) + 3))]) := qX6 hg.1 hg.2.2.1 hnew (by omega)
  have hg : wG S (sX6 S3 (n + 2) (n + 1) t) n (n + 6) k := wG_call hg hg2 (by omega)
  generalize hs4 : sX6 S3 (n + 2) (n + 1) t = S4 at hk hg harr hnew
  have hg : wG S (S4.set n (5, 16, [(2, (n + 1)), (3, 0), (3, 0), (3, 0), (3, 0), (3, 0), (3, 0), (3, 0), (3, 0), (3, 0), (3, 0), (3, 0), (3, 0), (3, 0), (3, 0), (3, 0)])) n (n + 6) k := wG_set2 (j := 0) (r := (n + 1)) hg harr (by omega) (Or.inr (by omega)) rfl
  have hk := w_sto (k2 := n) (x := (5, 16, [(2, (n + 1)), (3, 0), (3, 0), (3, 0), (3, 0), (3, 0), (3, 0), (3, 0), (3, 0), (3, 0), (3, 0), (3, 0), (3, 0), (3, 0), (3, 0), (3, 0)])) (by omega) hk
  have harr := w_stk (x := (5, 16, [(2, (n + 1)), (3, 0), (3, 0), (3, 0), (3, 0), (3, 0), (3, 0), (3, 0), (3, 0), (3, 0), (3, 0), (3, 0), (3, 0), (3, 0), (3, 0), (3, 0)])) harr
  have hnew := w_sto (k2 := n) (x := (5, 16, [(2, (n + 1)), (3, 0), (3, 0), (3, 0), (3, 0), (3, 0), (3, 0), (3, 0), (3, 0), (3, 0), (3, 0), (3, 0), (3, 0), (3, 0), (3, 0), (3, 0)])) (by omega) hnew
  generalize hs5 : S4.set n (5, 16, [(2, (n + 1)), (3, 0), (3, 0), (3, 0), (3, 0), (3, 0), (3, 0), (3, 0), (3, 0), (3, 0), (3, 0), (3, 0), (3, 0), (3, 0), (3, 0), (3, 0)]) = S5 at hk hg harr hnew
  have hnew := w_apn (x := (12, 0, [(3, 0), (0, 0), (3, 0), (3, 0), (3, 0), (3, 0)])) hg.1
  have hk := w_apk (x := (12, 0, [(3, 0), (0, 0), (3, 0), (3, 0), (3, 0), (3, 0)])) hk
  have hg : wG S (S5 ++ [(12, 0, [(3, 0), (0, 0), (3, 0), (3, 0), (3, 0), (3, 0)])]) n (n + 7) k := wG_app (t := 12) (N := 0) (fs := [(3, 0), (0, 0), (3, 0), (3, 0), (3, 0), (3, 0)]) hg (by decide)
  have harr := w_apk (x := (12, 0, [(3, 0), (0, 0), (3, 0), (3, 0), (3, 0), (3, 0)])) harr
  generalize hs6 : S5 ++ [(12, 0, [(3, 0), (0, 0), (3, 0), (3, 0), (3, 0), (3, 0)])] = S6 at hk hg harr hnew
  have hg2 : wG S6 (sX6 S6 (n + 7) (n + 6) t) (n + 7) ((n + 7) + 4) (n + 6) := gX6 hg.1 hg.2.2.1 hnew (by omega)
  have hk := (hg2.2.2.2 k (by omega) (by omega)).trans hk
  have harr := (hg2.2.2.2 _ (by omega) (by omega)).trans harr
  have hnew : (sX6 S6 (n + 7) (n + 6) t)[(n + 6)]? = some (12, 0, [(2, t), (0, 0), (2, (n + 7)), (2, ((n + 7) + 1)), (2, ((n + 7) + 2)), (2, ((n + 7) + 3))]) := qX6 hg.1 hg.2.2.1 hnew (by omega)
  have hg : wG S (sX6 S6 (n + 7) (n + 6) t) n (n + 11) k := wG_call hg hg2 (by omega)
  generalize hs7 : sX6 S6 (n + 7) (n + 6) t = S7 at hk hg harr hnew
  have hg : wG S (S7.set n (5, 16, [(2, (n + 1)), (2, (n + 6)), (3, 0), (3, 0), (3, 0), (3, 0), (3, 0), (3, 0), (3, 0), (3, 0), (3, 0), (3, 0), (3, 0), (3, 0), (3, 0), (3, 0)])) n (n + 11) k := wG_set2 (j := 1) (r := (n + 6)) hg harr (by omega) (Or.inr (by omega)) rfl
  have hk := w_sto (k2 := n) (x := (5, 16, [(2, (n + 1)), (2, (n + 6)), (3, 0), (3, 0), (3, 0), (3, 0), (3, 0), (3, 0), (3, 0), (3, 0), (3, 0), (3, 0), (3, 0), (3, 0), (3, 0), (3, 0)])) (by omega) hk
  have harr := w_stk (x := (5, 16, [(2, (n + 1)), (2, (n + 6)), (3, 0), (3, 0), (3, 0), (3, 0), (3, 0), (3, 0), (3, 0), (3, 0), (3, 0), (3, 0), (3, 0), (3, 0), (3, 0), (3, 0)])) harr
  have hnew := w_sto (k2 := n) (x := (5, 16, [(2, (n + 1)), (2, (n + 6)), (3, 0), (3, 0), (3, 0), (3, 0), (3, 0), (3, 0), (3, 0), (3, 0), (3, 0), (3, 0), (3, 0), (3, 0), (3, 0), (3, 0)])) (by omega) hnew
  generalize hs8 : S7.set n (5, 16, [(2, (n + 1)), (2, (n + 6)), (3, 0), (3, 0), (3, 0), (3, 0), (3, 0), (3, 0), (3, 0), (3, 0), (3, 0), (3, 0), (3, 0), (3, 0), (3, 0), (3, 0)]) = S8 at hk hg harr hnew
  have hnew := w_apn (x := (12, 0, [(3, 0), (0, 0), (3, 0), (3, 0), (3, 0), (3, 0)])) hg.1
  have hk := w_apk (x := (12, 0, [(3, 0), (0, 0), (3, 0), (3, 0), (3, 0), (3, 0)])) hk
  have hg : wG S (S8 ++ [(12, 0, [(3, 0), (0, 0), (3, 0), (3, 0), (3, 0), (3, 0)])]) n (n + 12) k := wG_app (t := 12) (N := 0) (fs := [(3, 0), (0, 0), (3, 0), (3, 0), (3, 0), (3, 0)]) hg (by decide)
  have harr := w_apk (x := (12, 0, [(3, 0), (0, 0), (3, 0), (3, 0), (3, 0), (3, 0)])) harr
  generalize hs9 : S8 ++ [(12, 0, [(3, 0), (0, 0), (3, 0), (3, 0), (3, 0), (3, 0)])] = S9 at hk hg harr hnew
  have hg2 : wG S9 (sX6 S9 (n + 12) (n + 11) t) (n + 12) ((n + 12) + 4) (n + 11) := gX6 hg.1 hg.2.2.1 hnew (by omega)
  have hk := (hg2.2.2.2 k (by omega) (by omega)).trans hk
  have harr := (hg2.2.2.2 _ (by omega) (by omega)).trans harr
  have hnew : (sX6 S9 (n + 12) (n + 11) t)[(n + 11)]? = some (12, 0, [(2, t), (0, 0), (2, (n + 12)), (2, ((n + 12) + 1)), (2, ((n + 12) + 2)), (2, ((n + 12) + 3))]) := qX6 hg.1 hg.2.2.1 hnew (by omega)
  have hg : wG S (sX6 S9 (n + 12) (n + 11) t) n (n + 16) k := wG_call hg hg2 (by omega)
  generalize hs10 : sX6 S9 (n + 12) (n + 11) t = S10 at hk hg harr hnew
  have hg : wG S (S10.set n (5, 16, [(2, (n + 1)), (2, (n + 6)), (2, (n + 11)), (3, 0), (3, 0), (3, 0), (3, 0), (3, 0), (3, 0), (3, 0), (3, 0), (3, 0), (3, 0), (3, 0), (3, 0), (3, 0)])) n (n + 16) k := wG_set2 (j := 2) (r := (n + 11)) hg harr (by omega) (Or.inr (by omega)) rfl
  have hk := w_sto (k2 := n) (x := (5, 16, [(2, (n + 1)), (2, (n + 6)), (2, (n + 11)), (3, 0), (3, 0), (3, 0), (3, 0), (3, 0), (3, 0), (3, 0), (3, 0), (3, 0), (3, 0), (3, 0), (3, 0), (3, 0)])) (by omega) hk
  have harr := w_stk (x := (5, 16, [(2, (n + 1)), (2, (n + 6)), (2, (n + 11)), (3, 0), (3, 0), (3, 0), (3, 0), (3, 0), (3, 0), (3, 0), (3, 0), (3, 0), (3, 0), (3, 0), (3, 0), (3, 0)])) harr
  have hnew := w_sto (k2 := n) (x := (5, 16, [(2, (n + 1)), (2, (n + 6)), (2, (n + 11)), (3, 0), (3, 0), (3, 0), (3, 0), (3, 0), (3, 0), (3, 0), (3, 0), (3, 0), (3, 0), (3, 0), (3, 0), (3, 0)])) (by omega) hnew
  generalize hs11 : S10.set n (5, 16, [(2, (n + 1)), (2, (n + 6)), (2, (n + 11)), (3, 0), (3, 0), (3, 0), (3, 0), (3, 0), (3, 0), (3, 0), (3, 0), (3, 0), (3, 0), (3, 0), (3, 0), (3, 0)]) = S11 at hk hg harr hnew
  have hnew := w_apn (x := (12, 0, [(3, 0), (0, 0), (3, 0), (3, 0), (3, 0), (3, 0)])) hg.1
  have hk := w_apk (x := (12, 0, [(3, 0), (0, 0), (3, 0), (3, 0), (3, 0), (3, 0)])) hk
  have hg : wG S (S11 ++ [(12, 0, [(3, 0), (0, 0), (3, 0), (3, 0), (3, 0), (3, 0)])]) n (n + 17) k := wG_app (t := 12) (N := 0) (fs := [(3, 0), (0, 0), (3, 0), (3, 0), (3, 0), (3, 0)]) hg (by decide)
  have harr := w_apk (x := (12, 0, [(3, 0), (0, 0), (3, 0), (3, 0), (3, 0), (3, 0)])) harr
  generalize hs12 : S11 ++ [(12, 0, [(3, 0), (0, 0), (3, 0), (3, 0), (3, 0), (3, 0)])] = S12 at hk hg harr hnew
  have hg2 : wG S12 (sX6 S12 (n + 17) (n + 16) t) (n + 17) ((n + 17) + 4) (n + 16) := gX6 hg.1 hg.2.2.1 hnew (by omega)
  have hk := (hg2.2.2.2 k (by omega) (by omega)).trans hk
  have harr := (hg2.2.2.2 _ (by omega) (by omega)).trans harr
  have hnew : (sX6 S12 (n + 17) (n + 16) t)[(n + 16)]? = some (12, 0, [(2, t), (0, 0), (2, (n + 17)), (2, ((n + 17) + 1)), (2, ((n + 17) + 2)), (2, ((n + 17) + 3))]) := qX6 hg.1 hg.2.2.1 hnew (by omega)
  have hg : wG S (sX6 S12 (n + 17) (n + 16) t) n (n + 21) k := wG_call hg hg2 (by omega)
  generalize hs13 : sX6 S12 (n + 17) (n + 16) t = S13 at hk hg harr hnew
  have hg : wG S (S13.set n (5, 16, [(2, (n + 1)), (2, (n + 6)), (2, (n + 11)), (2, (n + 16)), (3, 0), (3, 0), (3, 0), (3, 0), (3, 0), (3, 0), (3, 0), (3, 0), (3, 0), (3, 0), (3, 0), (3, 0)])) n (n + 21) k := wG_set2 (j := 3) (r := (n + 16)) hg harr (by omega) (Or.inr (by omega)) rfl
  have hk := w_sto (k2 := n) (x := (5, 16, [(2, (n + 1)), (2, (n + 6)), (2, (n + 11)), (2, (n + 16)), (3, 0), (3, 0), (3, 0), (3, 0), (3, 0), (3, 0), (3, 0), (3, 0), (3, 0), (3, 0), (3, 0), (3, 0)])) (by omega) hk
  have harr := w_stk (x := (5, 16, [(2, (n + 1)), (2, (n + 6)), (2, (n + 11)), (2, (n + 16)), (3, 0), (3, 0), (3, 0), (3, 0), (3, 0), (3, 0), (3, 0), (3, 0), (3, 0), (3, 0), (3, 0), (3, 0)])) harr
  have hnew := w_sto (k2 := n) (x := (5, 16, [(2, (n + 1)), (2, (n + 6)), (2, (n + 11)), (2, (n + 16)), (3, 0), (3, 0), (3, 0), (3, 0), (3, 0), (3, 0), (3, 0), (3, 0), (3, 0), (3, 0), (3, 0), (3, 0)])) (by omega) hnew
  generalize hs14 : S13.set n (5, 16, [(2, (n + 1)), (2, (n + 6)), (2, (n + 11)), (2, (n + 16)), (3, 0), (3, 0), (3, 0), (3, 0), (3, 0), (3, 0), (3, 0), (3, 0), (3, 0), (3, 0), (3, 0), (3, 0)]) = S14 at hk hg harr hnew
  have hnew := w_apn (x := (12, 0, [(3, 0), (0, 0), (3, 0), (3, 0), (3, 0), (3, 0)])) hg.1
  have hk := w_apk (x := (12, 0, [(3, 0), (0, 0), (3, 0), (3, 0), (3, 0), (3, 0)])) hk
  have hg : wG S (S14 ++ [(12, 0, [(3, 0), (0, 0), (3, 0), (3, 0), (3, 0), (3, 0)])]) n (n + 22) k := wG_app (t := 12) (N := 0) (fs := [(3, 0), (0, 0), (3, 0), (3, 0), (3, 0), (3, 0)]) hg (by decide)
  have harr := w_apk (x := (12, 0, [(3, 0), (0, 0), (3, 0), (3, 0), (3, 0), (3, 0)])) harr
  generalize hs15 : S14 ++ [(12, 0, [(3, 0), (0, 0), (3, 0), (3, 0), (3, 0), (3, 0)])] = S15 at hk hg harr hnew
  have hg2 : wG S15 (sX6 S15 (n + 22) (n + 21) t) (n + 22) ((n + 22) + 4) (n + 21) := gX6 hg.1 hg.2.2.1 hnew (by omega)
  have hk := (hg2.2.2.2 k (by omega) (by omega)).trans hk
  have harr := (hg2.2.2.2 _ (by omega) (by omega)).trans harr
  have hnew : (sX6 S15 (n + 22) (n + 21) t)[(n + 21)]? = some (12, 0, [(2, t), (0, 0), (2, (n + 22)), (2, ((n + 22) + 1)), (2, ((n + 22) + 2)), (2, ((n + 22) + 3))]) := qX6 hg.1 hg.2.2.1 hnew (by omega)
  have hg : wG S (sX6 S15 (n + 22) (n + 21) t) n (n + 26) k := wG_call hg hg2 (by omega)
  generalize hs16 : sX6 S15 (n + 22) (n + 21) t = S16 at hk hg harr hnew
  have hg : wG S (S16.set n (5, 16, [(2, (n + 1)), (2, (n + 6)), (2, (n + 11)), (2, (n + 16)), (2, (n + 21)), (3, 0), (3, 0), (3, 0), (3, 0), (3, 0), (3, 0), (3, 0), (3, 0), (3, 0), (3, 0), (3, 0)])) n (n + 26) k := wG_set2 (j := 4) (r := (n + 21)) hg harr (by omega) (Or.inr (by omega)) rfl
  have hk := w_sto (k2 := n) (x := (5, 16, [(2, (n + 1)), (2, (n + 6)), (2, (n + 11)), (2, (n + 16)), (2, (n + 21)), (3, 0), (3, 0), (3, 0), (3, 0), (3, 0), (3, 0), (3, 0), (3, 0), (3, 0), (3, 0), (3, 0)])) (by omega) hk
  have harr := w_stk (x := (5, 16, [(2, (n + 1)), (2, (n + 6)), (2, (n + 11)), (2, (n + 16)), (2, (n + 21)), (3, 0), (3, 0), (3, 0), (3, 0), (3, 0), (3, 0), (3, 0), (3, 0), (3, 0), (3, 0), (3, 0)])) harr
  have hnew := w_sto (k2 := n) (x := (5, 16, [(2, (n + 1)), (2, (n + 6)), (2, (n + 11)), (2, (n + 16)), (2, (n + 21)), (3, 0), (3, 0), (3, 0), (3, 0), (3, 0), (3, 0), (3, 0), (3, 0), (3, 0), (3, 0), (3, 0)])) (by omega) hnew
  generalize hs17 : S16.set n (5, 16, [(2, (n + 1)), (2, (n + 6)), (2, (n + 11)), (2, (n + 16)), (2, (n + 21)), (3, 0), (3, 0), (3, 0), (3, 0), (3, 0), (3, 0), (3, 0), (3, 0), (3, 0), (3, 0), (3, 0)]) = S17 at hk hg harr hnew
  have hnew := w_apn (x := (12, 0, [(3, 0), (0, 0), (3, 0), (3, 0), (3, 0), (3, 0)])) hg.1
  have hk := w_apk (x := (12, 0, [(3, 0), (0, 0), (3, 0), (3, 0), (3, 0), (3, 0)])) hk
  have hg : wG S (S17 ++ [(12, 0, [(3, 0), (0, 0), (3, 0), (3, 0), (3, 0), (3, 0)])]) n (n + 27) k := wG_app (t := 12) (N := 0) (fs := [(3, 0), (0, 0), (3, 0), (3, 0), (3, 0), (3, 0)]) hg (by decide)
  have harr := w_apk (x := (12, 0, [(3, 0), (0, 0), (3, 0), (3, 0), (3, 0), (3, 0)])) harr
  generalize hs18 : S17 ++ [(12, 0, [(3, 0), (0, 0), (3, 0), (3, 0), (3, 0), (3, 0)])] = S18 at hk hg harr hnew
  have hg2 : wG S18 (sX6 S18 (n + 27) (n + 26) t) (n + 27) ((n + 27) + 4) (n + 26) := gX6 hg.1 hg.2.2.1 hnew (by omega)
  have hk := (hg2.2.2.2 k (by omega) (by omega)).trans hk
  have harr := (hg2.2.2.2 _ (by omega) (by omega)).trans harr
  have hnew : (sX6 S18 (n + 27) (n + 26) t)[(n + 26)]? = some (12, 0, [(2, t), (0, 0), (2, (n + 27)), (2, ((n + 27) + 1)), (2, ((n + 27) + 2)), (2, ((n + 27) + 3))]) := qX6 hg.1 hg.2.2.1 hnew (by omega)
  have hg : wG S (sX6 S18 (n + 27) (n + 26) t) n (n + 31) k := wG_call hg hg2 (by omega)
  generalize hs19 : sX6 S18 (n + 27) (n + 26) t = S19 at hk hg harr hnew
  have hg : wG S (S19.set n (5, 16, [(2, (n + 1)), (2, (n + 6)), (2, (n + 11)), (2, (n + 16)), (2, (n + 21)), (2, (n + 26)), (3, 0), (3, 0), (3, 0), (3, 0), (3, 0), (3, 0), (3, 0), (3, 0), (3, 0), (3, 0)])) n (n + 31) k := wG_set2 (j := 5) (r := (n + 26)) hg harr (by omega) (Or.inr (by omega)) rfl
  have hk := w_sto (k2 := n) (x := (5, 16, [(2, (n + 1)), (2, (n + 6)), (2, (n + 11)), (2, (n + 16)), (2, (n + 21)), (2, (n + 26)), (3, 0), (3, 0), (3, 0), (3, 0), (3, 0), (3, 0), (3, 0), (3, 0), (3, 0), (3, 0)])) (by omega) hk
  have harr := w_stk (x := (5, 16, [(2, (n + 1)), (2, (n + 6)), (2, (n + 11)), (2, (n + 16)), (2, (n + 21)), (2, (n + 26)), (3, 0), (3, 0), (3, 0), (3, 0), (3, 0), (3, 0), (3, 0), (3, 0), (3, 0), (3, 0)])) harr
  have hnew := w_sto (k2 := n) (x := (5, 16, [(2, (n + 1)), (2, (n + 6)), (2, (n + 11)), (2, (n + 16)), (2, (n + 21)), (2, (n + 26)), (3, 0), (3, 0), (3, 0), (3, 0), (3, 0), (3, 0), (3, 0), (3, 0), (3, 0), (3, 0)])) (by omega) hnew
  generalize hs20 : S19.set n (5, 16, [(2, (n + 1)), (2, (n + 6)), (2, (n + 11)), (2, (n + 16)), (2, (n + 21)), (2, (n + 26)), (3, 0), (3, 0), (3, 0), (3, 0), (3, 0), (3, 0), (3, 0), (3, 0), (3, 0), (3, 0)]) = S20 at hk hg harr hnew
  have hnew := w_apn (x := (12, 0, [(3, 0), (0, 0), (3, 0), (3, 0), (3, 0), (3, 0)])) hg.1
  have hk := w_apk (x := (12, 0, [(3, 0), (0, 0), (3, 0), (3, 0), (3, 0), (3, 0)])) hk
  have hg : wG S (S20 ++ [(12, 0, [(3, 0), (0, 0), (3, 0), (3, 0), (3, 0), (3, 0)])]) n (n + 32) k := wG_app (t := 12) (N := 0) (fs := [(3, 0), (0, 0), (3, 0), (3, 0), (3, 0), (3, 0)]) hg (by decide)
  have harr := w_apk (x := (12, 0, [(3, 0), (0, 0), (3, 0), (3, 0), (3, 0), (3, 0)])) harr
  generalize hs21 : S20 ++ [(12, 0, [(3, 0), (0, 0), (3, 0), (3, 0), (3, 0), (3, 0)])] = S21 at hk hg harr hnew
  have hg2 : wG S21 (sX6 S21 (n + 32) (n + 31) t) (n + 32) ((n + 32) + 4) (n + 31) := gX6 hg.1 hg.2.2.1 hnew (by omega)
  have hk := (hg2.2.2.2 k (by omega) (by omega)).trans hk
  have harr := (hg2.2.2.2 _ (by omega) (by omega)).trans harr
  have hnew : (sX6 S21 (n + 32) (n + 31) t)[(n + 31)]? = some (12, 0, [(2, t), (0, 0), (2, (n + 32)), (2, ((n + 32) + 1)), (2, ((n + 32) + 2)), (2, ((n + 32) + 3))]) := qX6 hg.1 hg.2.2.1 hnew (by omega)
  have hg : wG S (sX6 S21 (n + 32) (n + 31) t) n (n + 36) k := wG_call hg hg2 (by omega)
  generalize hs22 : sX6 S21 (n + 32) (n + 31) t = S22 at hk hg harr hnew
  have hg : wG S (S22.set n (5, 16, [(2, (n + 1)), (2, (n + 6)), (2, (n + 11)), (2, (n + 16)), (2, (n + 21)), (2, (n + 26)), (2, (n + 31)), (3, 0), (3, 0), (3, 0), (3, 0), (3, 0), (3, 0), (3, 0), (3, 0), (3, 0)])) n (n + 36) k := wG_set2 (j := 6) (r := (n + 31)) hg harr (by omega) (Or.inr (by omega)) rfl
  have hk := w_sto (k2 := n) (x := (5, 16, [(2, (n + 1)), (2, (n + 6)), (2, (n + 11)), (2, (n + 16)), (2, (n + 21)), (2, (n + 26)), (2, (n + 31)), (3, 0), (3, 0), (3, 0), (3, 0), (3, 0), (3, 0), (3, 0), (3, 0), (3, 0)])) (by omega) hk
  have harr := w_stk (x := (5, 16, [(2, (n + 1)), (2, (n + 6)), (2, (n + 11)), (2, (n + 16)), (2, (n + 21)), (2, (n + 26)), (2, (n + 31)), (3, 0), (3, 0), (3, 0), (3, 0), (3, 0), (3, 0), (3, 0), (3, 0), (3, 0)])) harr
  have hnew := w_sto (k2 := n) (x := (5, 16, [(2, (n + 1)), (2, (n + 6)), (2, (n + 11)), (2, (n + 16)), (2, (n + 21)), (2, (n + 26)), (2, (n + 31)), (3, 0), (3, 0), (3, 0), (3, 0), (3, 0), (3, 0), (3, 0), (3, 0), (3, 0)])) (by omega) hnew
  generalize hs23 : S22.set n (5, 16, [(2, (n + 1)), (2, (n + 6)), (2, (n + 11)), (2, (n + 16)), (2, (n + 21)), (2, (n + 26)), (2, (n + 31)), (3, 0), (3, 0), (3, 0), (3, 0), (3, 0), (3, 0), (3, 0), (3, 0), (3, 0)]) = S23 at hk hg harr hnew
  have hnew := w_apn (x := (12, 0, [(3, 0), (0, 0), (3, 0), (3, 0), (3, 0), (3, 0)])) hg.1
  have hk := w_apk (x := (12, 0, [(3, 0), (0, 0), (3, 0), (3, 0), (3, 0), (3, 0)])) hk
  have hg : wG S (S23 ++ [(12, 0, [(3, 0), (0, 0), (3, 0), (3, 0), (3, 0), (3, 0)])]) n (n + 37) k := wG_app (t := 12) (N := 0) (fs := [(3, 0), (0, 0), (3, 0), (3, 0), (3, 0), (3, 0)]) hg (by decide)
  have harr := w_apk (x := (12, 0, [(3, 0), (0, 0), (3, 0), (3, 0), (3, 0), (3, 0)])) harr
  generalize hs24 : S23 ++ [(12, 0, [(3, 0), (0, 0), (3, 0), (3, 0), (3, 0), (3, 0)])] = S24 at hk hg harr hnew
  have hg2 : wG S24 (sX6 S24 (n + 37) (n + 36) t) (n + 37) ((n + 37) + 4) (n + 36) := gX6 hg.1 hg.2.2.1 hnew (by omega)
  have hk := (hg2.2.2.2 k (by omega) (by omega)).trans hk
  have harr := (hg2.2.2.2 _ (by omega) (by omega)).trans harr
  have hnew : (sX6 S24 (n + 37) (n + 36) t)[(n + 36)]? = some (12, 0, [(2, t), (0, 0), (2, (n + 37)), (2, ((n + 37) + 1)), (2, ((n + 37) + 2)), (2, ((n + 37) + 3))]) := qX6 hg.1 hg.2.2.1 hnew (by omega)
  have hg : wG S (sX6 S24 (n + 37) (n + 36) t) n (n + 41) k := wG_call hg hg2 (by omega)
  generalize hs25 : sX6 S24 (n + 37) (n + 36) t = S25 at hk hg harr hnew
  have hg : wG S (S25.set n (5, 16, [(2, (n + 1)), (2, (n + 6)), (2, (n + 11)), (2, (n + 16)), (2, (n + 21)), (2, (n + 26)), (2, (n + 31)), (2, (n + 36)), (3, 0), (3, 0), (3, 0), (3, 0), (3, 0), (3, 0), (3, 0), (3, 0)])) n (n + 41) k := wG_set2 (j := 7) (r := (n + 36)) hg harr (by omega) (Or.inr (by omega)) rfl
  have hk := w_sto (k2 := n) (x := (5, 16, [(2, (n + 1)), (2, (n + 6)), (2, (n + 11)), (2, (n + 16)), (2, (n + 21)), (2, (n + 26)), (2, (n + 31)), (2, (n + 36)), (3, 0), (3, 0), (3, 0), (3, 0), (3, 0), (3, 0), (3, 0), (3, 0)])) (by omega) hk
  have harr := w_stk (x := (5, 16, [(2, (n + 1)), (2, (n + 6)), (2, (n + 11)), (2, (n + 16)), (2, (n + 21)), (2, (n + 26)), (2, (n + 31)), (2, (n + 36)), (3, 0), (3, 0), (3, 0), (3, 0), (3, 0), (3, 0), (3, 0), (3, 0)])) harr
  have hnew := w_sto (k2 := n) (x := (5, 16, [(2, (n + 1)), (2, (n + 6)), (2, (n + 11)), (2, (n + 16)), (2, (n + 21)), (2, (n + 26)), (2, (n + 31)), (2, (n + 36)), (3, 0), (3, 0), (3, 0), (3, 0), (3, 0), (3, 0), (3, 0), (3, 0)])) (by omega) hnew
  generalize hs26 : S25.set n (5, 16, [(2, (n + 1)), (2, (n + 6)), (2, (n + 11)), (2, (n + 16)), (2, (n + 21)), (2, (n + 26)), (2, (n + 31)), (2, (n + 36)), (3, 0), (3, 0), (3, 0), (3, 0), (3, 0), (3, 0), (3, 0), (3, 0)]) = S26 at hk hg harr hnew
  have hnew := w_apn (x := (12, 0, [(3, 0), (0, 0), (3, 0), (3, 0), (3, 0), (3, 0)])) hg.1
  have hk := w_apk (x := (12, 0, [(3, 0), (0, 0), (3, 0), (3, 0), (3, 0), (3, 0)])) hk
  have hg : wG S (S26 ++ [(12, 0, [(3, 0), (0, 0), (3, 0), (3, 0), (3, 0), (3, 0)])]) n (n + 42) k := wG_app (t := 12) (N := 0) (fs := [(3, 0), (0, 0), (3, 0), (3, 0), (3, 0), (3, 0)]) hg (by decide)
  have harr := w_apk (x := (12, 0, [(3, 0), (0, 0), (3, 0), (3, 0), (3, 0), (3, 0)])) harr
  generalize hs27 : S26 ++ [(12, 0, [(3, 0), (0, 0), (3, 0), (3, 0), (3, 0), (3, 0)])] = S27 at hk hg harr hnew
  have hg2 : wG S27 (sX6 S27 (n + 42) (n + 41) t) (n + 42) ((n + 42) + 4) (n + 41) := gX6 hg.1 hg.2.2.1 hnew (by omega)
  have hk := (hg2.2.2.2 k (by omega) (by omega)).trans hk
  have harr := (hg2.2.2.2 _ (by omega) (by omega)).trans harr
  have hnew : (sX6 S27 (n + 42) (n + 41) t)[(n + 41)]? = some (12, 0, [(2, t), (0, 0), (2, (n + 42)), (2, ((n + 42) + 1)), (2, ((n + 42) + 2)), (2, ((n + 42) + 3))]) := qX6 hg.1 hg.2.2.1 hnew (by omega)
  have hg : wG S (sX6 S27 (n + 42) (n + 41) t) n (n + 46) k := wG_call hg hg2 (by omega)
  generalize hs28 : sX6 S27 (n + 42) (n + 41) t = S28 at hk hg harr hnew
  have hg : wG S (S28.set n (5, 16, [(2, (n + 1)), (2, (n + 6)), (2, (n + 11)), (2, (n + 16)), (2, (n + 21)), (2, (n + 26)), (2, (n + 31)), (2, (n + 36)), (2, (n + 41)), (3, 0), (3, 0), (3, 0), (3, 0), (3, 0), (3, 0), (3, 0)])) n (n + 46) k := wG_set2 (j := 8) (r := (n + 41)) hg harr (by omega) (Or.inr (by omega)) rfl
  have hk := w_sto (k2 := n) (x := (5, 16, [(2, (n + 1)), (2, (n + 6)), (2, (n + 11)), (2, (n + 16)), (2, (n + 21)), (2, (n + 26)), (2, (n + 31)), (2, (n + 36)), (2, (n + 41)), (3, 0), (3, 0), (3, 0), (3, 0), (3, 0), (3, 0), (3, 0)])) (by omega) hk
  have harr := w_stk (x := (5, 16, [(2, (n + 1)), (2, (n + 6)), (2, (n + 11)), (2, (n + 16)), (2, (n + 21)), (2, (n + 26)), (2, (n + 31)), (2, (n + 36)), (2, (n + 41)), (3, 0), (3, 0), (3, 0), (3, 0), (3, 0), (3, 0), (3, 0)])) harr
  have hnew := w_sto (k2 := n) (x := (5, 16, [(2, (n + 1)), (2, (n + 6)), (2, (n + 11)), (2, (n + 16)), (2, (n + 21)), (2, (n + 26)), (2, (n + 31)), (2, (n + 36)), (2, (n + 41)), (3, 0), (3, 0), (3, 0), (3, 0), (3, 0), (3, 0), (3, 0)])) (by omega) hnew
  generalize hs29 : S28.set n (5, 16, [(2, (n + 1)), (2, (n + 6)), (2, (n + 11)), (2, (n + 16)), (2, (n + 21)), (2, (n + 26)), (2, (n + 31)), (2, (n + 36)), (2, (n + 41)), (3, 0), (3, 0), (3, 0), (3, 0), (3, 0), (3, 0), (3, 0)]) = S29 at hk hg harr hnew
  have hnew := w_apn (x := (12, 0, [(3, 0), (0, 0), (3, 0), (3, 0), (3, 0), (3, 0)])) hg.1
  have hk := w_apk (x := (12, 0, [(3, 0), (0, 0), (3, 0), (3, 0), (3, 0), (3, 0)])) hk
  have hg : wG S (S29 ++ [(12, 0, [(3, 0), (0, 0), (3, 0), (3, 0), (3, 0), (3, 0)])]) n (n + 47) k := wG_app (t := 12) (N := 0) (fs := [(3, 0), (0, 0), (3, 0), (3, 0), (3, 0), (3, 0)]) hg (by decide)
  have harr := w_apk (x := (12, 0, [(3, 0), (0, 0), (3, 0), (3, 0), (3, 0), (3, 0)])) harr
  generalize hs30 : S29 ++ [(12, 0, [(3, 0), (0, 0), (3, 0), (3, 0), (3, 0), (3, 0)])] = S30 at hk hg harr hnew
  have hg2 : wG S30 (sX6 S30 (n + 47) (n + 46) t) (n + 47) ((n + 47) + 4) (n + 46) := gX6 hg.1 hg.2.2.1 hnew (by omega)
  have hk := (hg2.2.2.2 k (by omega) (by omega)).trans hk
  have harr := (hg2.2.2.2 _ (by omega) (by omega)).trans harr
  have hnew : (sX6 S30 (n + 47) (n + 46) t)[(n + 46)]? = some (12, 0, [(2, t), (0, 0), (2, (n + 47)), (2, ((n + 47) + 1)), (2, ((n + 47) + 2)), (2, ((n + 47) + 3))]) := qX6 hg.1 hg.2.2.1 hnew (by omega)
  have hg : wG S (sX6 S30 (n + 47) (n + 46) t) n (n + 51) k := wG_call hg hg2 (by omega)
  generalize hs31 : sX6 S30 (n + 47) (n + 46) t = S31 at hk hg harr hnew
  have hg : wG S (S31.set n (5, 16, [(2, (n + 1)), (2, (n + 6)), (2, (n + 11)), (2, (n + 16)), (2, (n + 21)), (2, (n + 26)), (2, (n + 31)), (2, (n + 36)), (2, (n + 41)), (2, (n + 46)), (3, 0), (3, 0), (3, 0), (3, 0), (3, 0), (3, 0)])) n (n + 51) k := wG_set2 (j := 9) (r := (n + 46)) hg harr (by omega) (Or.inr (by omega)) rfl
  have hk := w_sto (k2 := n) (x := (5, 16, [(2, (n + 1)), (2, (n + 6)), (2, (n + 11)), (2, (n + 16)), (2, (n + 21)), (2, (n + 26)), (2, (n + 31)), (2, (n + 36)), (2, (n + 41)), (2, (n + 46)), (3, 0), (3, 0), (3, 0), (3, 0), (3, 0), (3, 0)])) (by omega) hk
  have harr := w_stk (x := (5, 16, [(2, (n + 1)), (2, (n + 6)), (2, (n + 11)), (2, (n + 16)), (2, (n + 21)), (2, (n + 26)), (2, (n + 31)), (2, (n + 36)), (2, (n + 41)), (2, (n + 46)), (3, 0), (3, 0), (3, 0), (3, 0), (3, 0), (3, 0)])) harr
  have hnew := w_sto (k2 := n) (x := (5, 16, [(2, (n + 1)), (2, (n + 6)), (2, (n + 11)), (2, (n + 16)), (2, (n + 21)), (2, (n + 26)), (2, (n + 31)), (2, (n + 36)), (2, (n + 41)), (2, (n + 46)), (3, 0), (3, 0), (3, 0), (3, 0), (3, 0), (3, 0)])) (by omega) hnew
  generalize hs32 : S31.set n (5, 16, [(2, (n + 1)), (2, (n + 6)), (2, (n + 11)), (2, (n + 16)), (2, (n + 21)), (2, (n + 26)), (2, (n + 31)), (2, (n + 36)), (2, (n + 41)), (2, (n + 46)), (3, 0), (3, 0), (3, 0), (3, 0), (3, 0), (3, 0)]) = S32 at hk hg harr hnew
  have hnew := w_apn (x := (12, 0, [(3, 0), (0, 0), (3, 0), (3, 0), (3, 0), (3, 0)])) hg.1
  have hk := w_apk (x := (12, 0, [(3, 0), (0, 0), (3, 0), (3, 0), (3, 0), (3, 0)])) hk
  have hg : wG S (S32 ++ [(12, 0, [(3, 0), (0, 0), (3, 0), (3, 0), (3, 0), (3, 0)])]) n (n + 52) k := wG_app (t := 12) (N := 0) (fs := [(3, 0), (0, 0), (3, 0), (3, 0), (3, 0), (3, 0)]) hg (by decide)
  have harr := w_apk (x := (12, 0, [(3, 0), (0, 0), (3, 0), (3, 0), (3, 0), (3, 0)])) harr
  generalize hs33 : S32 ++ [(12, 0, [(3, 0), (0, 0), (3, 0), (3, 0), (3, 0), (3, 0)])] = S33 at hk hg harr hnew
  have hg2 : wG S33 (sX6 S33 (n + 52) (n + 51) t) (n + 52) ((n + 52) + 4) (n + 51) := gX6 hg.1 hg.2.2.1 hnew (by omega)
  have hk := (hg2.2.2.2 k (by omega) (by omega)).trans hk
  have harr := (hg2.2.2.2 _ (by omega) (by omega)).trans harr
  have hnew : (sX6 S33 (n + 52) (n + 51) t)[(n + 51)]? = some (12, 0, [(2, t), (0, 0), (2, (n + 52)), (2, ((n + 52) + 1)), (2, ((n + 52) + 2)), (2, ((n + 52) + 3))]) := qX6 hg.1 hg.2.2.1 hnew (by omega)
  have hg : wG S (sX6 S33 (n + 52) (n + 51) t) n (n + 56) k := wG_call hg hg2 (by omega)
  generalize hs34 : sX6 S33 (n + 52) (n + 51) t = S34 at hk hg harr hnew
  have hg : wG S (S34.set n (5, 16, [(2, (n + 1)), (2, (n + 6)), (2, (n + 11)), (2, (n + 16)), (2, (n + 21)), (2, (n + 26)), (2, (n + 31)), (2, (n + 36)), (2, (n + 41)), (2, (n + 46)), (2, (n + 51)), (3, 0), (3, 0), (3, 0), (3, 0), (3, 0)])) n (n + 56) k := wG_set2 (j := 10) (r := (n + 51)) hg harr (by omega) (Or.inr (by omega)) rfl
  have hk := w_sto (k2 := n) (x := (5, 16, [(2, (n + 1)), (2, (n + 6)), (2, (n + 11)), (2, (n + 16)), (2, (n + 21)), (2, (n + 26)), (2, (n + 31)), (2, (n + 36)), (2, (n + 41)), (2, (n + 46)), (2, (n + 51)), (3, 0), (3, 0), (3, 0), (3, 0), (3, 0)])) (by omega) hk
  have harr := w_stk (x := (5, 16, [(2, (n + 1)), (2, (n + 6)), (2, (n + 11)), (2, (n + 16)), (2, (n + 21)), (2, (n + 26)), (2, (n + 31)), (2, (n + 36)), (2, (n + 41)), (2, (n + 46)), (2, (n + 51)), (3, 0), (3, 0), (3, 0), (3, 0), (3, 0)])) harr
  have hnew := w_sto (k2 := n) (x := (5, 16, [(2, (n + 1)), (2, (n + 6)), (2, (n + 11)), (2, (n + 16)), (2, (n + 21)), (2, (n + 26)), (2, (n + 31)), (2, (n + 36)), (2, (n + 41)), (2, (n + 46)), (2, (n + 51)), (3, 0), (3, 0), (3, 0), (3, 0), (3, 0)])) (by omega) hnew
  generalize hs35 : S34.set n (5, 16, [(2, (n + 1)), (2, (n + 6)), (2, (n + 11)), (2, (n + 16)), (2, (n + 21)), (2, (n + 26)), (2, (n + 31)), (2, (n + 36)), (2, (n + 41)), (2, (n + 46)), (2, (n + 51)), (3, 0), (3, 0), (3, 0), (3, 0), (3, 0)]) = S35 at hk hg harr hnew
  have hnew := w_apn (x := (12, 0, [(3, 0), (0, 0), (3, 0), (3, 0), (3, 0), (3, 0)])) hg.1
  have hk := w_apk (x := (12, 0, [(3, 0), (0, 0), (3, 0), (3, 0), (3, 0), (3, 0)])) hk
  have hg : wG S (S35 ++ [(12, 0, [(3, 0), (0, 0), (3, 0), (3, 0), (3, 0), (3, 0)])]) n (n + 57) k := wG_app (t := 12) (N := 0) (fs := [(3, 0), (0, 0), (3, 0), (3, 0), (3, 0), (3, 0)]) hg (by decide)
  have harr := w_apk (x := (12, 0, [(3, 0), (0, 0), (3, 0), (3, 0), (3, 0), (3, 0)])) harr
  generalize hs36 : S35 ++ [(12, 0, [(3, 0), (0, 0), (3, 0), (3, 0), (3, 0), (3, 0)])] = S36 at hk hg harr hnew
  have hg2 : wG S36 (sX6 S36 (n + 57) (n + 56) t) (n + 57) ((n + 57) + 4) (n + 56) := gX6 hg.1 hg.2.2.1 hnew (by omega)
  have hk := (hg2.2.2.2 k (by omega) (by omega)).trans hk
  have harr := (hg2.2.2.2 _ (by omega) (by omega)).trans harr
  have hnew : (sX6 S36 (n + 57) (n + 56) t)[(n + 56)]? = some (12, 0, [(2, t), (0, 0), (2, (n + 57)), (2, ((n + 57) + 1)), (2, ((n + 57) + 2)), (2, ((n + 57) + 3))]) := qX6 hg.1 hg.2.2.1 hnew (by omega)
  have hg : wG S (sX6 S36 (n + 57) (n + 56) t) n (n + 61) k := wG_call hg hg2 (by omega)
  generalize hs37 : sX6 S36 (n + 57) (n + 56) t = S37 at hk hg harr hnew
  have hg : wG S (S37.set n (5, 16, [(2, (n + 1)), (2, (n + 6)), (2, (n + 11)), (2, (n + 16)), (2, (n + 21)), (2, (n + 26)), (2, (n + 31)), (2, (n + 36)), (2, (n + 41)), (2, (n + 46)), (2, (n + 51)), (2, (n + 56)), (3, 0), (3, 0), (3, 0), (3, 0)])) n (n + 61) k := wG_set2 (j := 11) (r := (n + 56)) hg harr (by omega) (Or.inr (by omega)) rfl
  have hk := w_sto (k2 := n) (x := (5, 16, [(2, (n + 1)), (2, (n + 6)), (2, (n + 11)), (2, (n + 16)), (2, (n + 21)), (2, (n + 26)), (2, (n + 31)), (2, (n + 36)), (2, (n + 41)), (2, (n + 46)), (2, (n + 51)), (2, (n + 56)), (3, 0), (3, 0), (3, 0), (3, 0)])) (by omega) hk
  have harr := w_stk (x := (5, 16, [(2, (n + 1)), (2, (n + 6)), (2, (n + 11)), (2, (n + 16)), (2, (n + 21)), (2, (n + 26)), (2, (n + 31)), (2, (n + 36)), (2, (n + 41)), (2, (n + 46)), (2, (n + 51)), (2, (n + 56)), (3, 0), (3, 0), (3, 0), (3, 0)])) harr
  have hnew := w_sto (k2 := n) (x := (5, 16, [(2, (n + 1)), (2, (n + 6)), (2, (n + 11)), (2, (n + 16)), (2, (n + 21)), (2, (n + 26)), (2, (n + 31)), (2, (n + 36)), (2, (n + 41)), (2, (n + 46)), (2, (n + 51)), (2, (n + 56)), (3, 0), (3, 0), (3, 0), (3, 0)])) (by omega) hnew
  generalize hs38 : S37.set n (5, 16, [(2, (n + 1)), (2, (n + 6)), (2, (n + 11)), (2, (n + 16)), (2, (n + 21)), (2, (n + 26)), (2, (n + 31)), (2, (n + 36)), (2, (n + 41)), (2, (n + 46)), (2, (n + 51)), (2, (n + 56)), (3, 0), (3, 0), (3, 0), (3, 0)]) = S38 at hk hg harr hnew
  have hnew := w_apn (x := (12, 0, [(3, 0), (0, 0), (3, 0), (3, 0), (3, 0), (3, 0)])) hg.1
  have hk := w_apk (x := (12, 0, [(3, 0), (0, 0), (3, 0), (3, 0), (3, 0), (3, 0)])) hk
  have hg : wG S (S38 ++ [(12, 0, [(3, 0), (0, 0), (3, 0), (3, 0), (3, 0), (3, 0)])]) n (n + 62) k := wG_app (t := 12) (N := 0) (fs := [(3, 0), (0, 0), (3, 0), (3, 0), (3, 0), (3, 0)]) hg (by decide)
  have harr := w_apk (x := (12, 0, [(3, 0), (0, 0), (3, 0), (3, 0), (3, 0), (3, 0)])) harr
  generalize hs39 : S38 ++ [(12, 0, [(3, 0), (0, 0), (3, 0), (3, 0), (3, 0), (3, 0)])] = S39 at hk hg harr hnew
  have hg2 : wG S39 (sX6 S39 (n + 62) (n + 61) t) (n + 62) ((n + 62) + 4) (n + 61) := gX6 hg.1 hg.2.2.1 hnew (by omega)
  have hk := (hg2.2.2.2 k (by omega) (by omega)).trans hk
  have harr := (hg2.2.2.2 _ (by omega) (by omega)).trans harr
  have hnew : (sX6 S39 (n + 62) (n + 61) t)[(n + 61)]? = some (12, 0, [(2, t), (0, 0), (2, (n + 62)), (2, ((n + 62) + 1)), (2, ((n + 62) + 2)), (2, ((n + 62) + 3))]) := qX6 hg.1 hg.2.2.1 hnew (by omega)
  have hg : wG S (sX6 S39 (n + 62) (n + 61) t) n (n + 66) k := wG_call hg hg2 (by omega)
  generalize hs40 : sX6 S39 (n + 62) (n + 61) t = S40 at hk hg harr hnew
  have hg : wG S (S40.set n (5, 16, [(2, (n + 1)), (2, (n + 6)), (2, (n + 11)), (2, (n + 16)), (2, (n + 21)), (2, (n + 26)), (2, (n + 31)), (2, (n + 36)), (2, (n + 41)), (2, (n + 46)), (2, (n + 51)), (2, (n + 56)), (2, (n + 61)), (3, 0), (3, 0), (3, 0)])) n (n + 66) k := wG_set2 (j := 12) (r := (n + 61)) hg harr (by omega) (Or.inr (by omega)) rfl
  have hk := w_sto (k2 := n) (x := (5, 16, [(2, (n + 1)), (2, (n + 6)), (2, (n + 11)), (2, (n + 16)), (2, (n + 21)), (2, (n + 26)), (2, (n + 31)), (2, (n + 36)), (2, (n + 41)), (2, (n + 46)), (2, (n + 51)), (2, (n + 56)), (2, (n + 61)), (3, 0), (3, 0), (3, 0)])) (by omega) hk
  have harr := w_stk (x := (5, 16, [(2, (n + 1)), (2, (n + 6)), (2, (n + 11)), (2, (n + 16)), (2, (n + 21)), (2, (n + 26)), (2, (n + 31)), (2, (n + 36)), (2, (n + 41)), (2, (n + 46)), (2, (n + 51)), (2, (n + 56)), (2, (n + 61)), (3, 0), (3, 0), (3, 0)])) harr
  have hnew := w_sto (k2 := n) (x := (5, 16, [(2, (n + 1)), (2, (n + 6)), (2, (n + 11)), (2, (n + 16)), (2, (n + 21)), (2, (n + 26)), (2, (n + 31)), (2, (n + 36)), (2, (n + 41)), (2, (n + 46)), (2, (n + 51)), (2, (n + 56)), (2, (n + 61)), (3, 0), (3, 0), (3, 0)])) (by omega) hnew
  generalize hs41 : S40.set n (5, 16, [(2, (n + 1)), (2, (n + 6)), (2, (n + 11)), (2, (n + 16)), (2, (n + 21)), (2, (n + 26)), (2, (n + 31)), (2, (n + 36)), (2, (n + 41)), (2, (n + 46)), (2, (n + 51)), (2, (n + 56)), (2, (n + 61)), (3, 0), (3, 0), (3, 0)]) = S41 at hk hg harr hnew
  have hnew := w_apn (x := (12, 0, [(3, 0), (0, 0), (3, 0), (3, 0), (3, 0), (3, 0)])) hg.1
  have hk := w_apk (x := (12, 0, [(3, 0), (0, 0), (3, 0), (3, 0), (3, 0), (3, 0)])) hk
  have hg : wG S (S41 ++ [(12, 0, [(3, 0), (0, 0), (3, 0), (3, 0), (3, 0), (3, 0)])]) n (n + 67) k := wG_app (t := 12) (N := 0) (fs := [(3, 0), (0, 0), (3, 0), (3, 0), (3, 0), (3, 0)]) hg (by decide)
  have harr := w_apk (x := (12, 0, [(3, 0), (0, 0), (3, 0), (3, 0), (3, 0), (3, 0)])) harr
  generalize hs42 : S41 ++ [(12, 0, [(3, 0), (0, 0), (3, 0), (3, 0), (3, 0), (3, 0)])] = S42 at hk hg harr hnew
  have hg2 : wG S42 (sX6 S42 (n + 67) (n + 66) t) (n + 67) ((n + 67) + 4) (n + 66) := gX6 hg.1 hg.2.2.1 hnew (by omega)
  have hk := (hg2.2.2.2 k (by omega) (by omega)).trans hk
  have harr := (hg2.2.2.2 _ (by omega) (by omega)).trans harr
  have hnew : (sX6 S42 (n + 67) (n + 66) t)[(n + 66)]? = some (12, 0, [(2, t), (0, 0), (2, (n + 67)), (2, ((n + 67) + 1)), (2, ((n + 67) + 2)), (2, ((n + 67) + 3))]) := qX6 hg.1 hg.2.2.1 hnew (by omega)
  have hg : wG S (sX6 S42 (n + 67) (n + 66) t) n (n + 71) k := wG_call hg hg2 (by omega)
  generalize hs43 : sX6 S42 (n + 67) (n + 66) t = S43 at hk hg harr hnew
  have hg : wG S (S43.set n (5, 16, [(2, (n + 1)), (2, (n + 6)), (2, (n + 11)), (2, (n + 16)), (2, (n + 21)), (2, (n + 26)), (2, (n + 31)), (2, (n + 36)), (2, (n + 41)), (2, (n + 46)), (2, (n + 51)), (2, (n + 56)), (2, (n + 61)), (2, (n + 66)), (3, 0), (3, 0)])) n (n + 71) k := wG_set2 (j := 13) (r := (n + 66)) hg harr (by omega) (Or.inr (by omega)) rfl
  have hk := w_sto (k2 := n) (x := (5, 16, [(2, (n + 1)), (2, (n + 6)), (2, (n + 11)), (2, (n + 16)), (2, (n + 21)), (2, (n + 26)), (2, (n + 31)), (2, (n + 36)), (2, (n + 41)), (2, (n + 46)), (2, (n + 51)), (2, (n + 56)), (2, (n + 61)), (2, (n + 66)), (3, 0), (3, 0)])) (by omega) hk
  have harr := w_stk (x := (5, 16, [(2, (n + 1)), (2, (n + 6)), (2, (n + 11)), (2, (n + 16)), (2, (n + 21)), (2, (n + 26)), (2, (n + 31)), (2, (n + 36)), (2, (n + 41)), (2, (n + 46)), (2, (n + 51)), (2, (n + 56)), (2, (n + 61)), (2, (n + 66)), (3, 0), (3, 0)])) harr
  have hnew := w_sto (k2 := n) (x := (5, 16, [(2, (n + 1)), (2, (n + 6)), (2, (n + 11)), (2, (n + 16)), (2, (n + 21)), (2, (n + 26)), (2, (n + 31)), (2, (n + 36)), (2, (n + 41)), (2, (n + 46)), (2, (n + 51)), (2, (n + 56)), (2, (n + 61)), (2, (n + 66)), (3, 0), (3, 0)])) (by omega) hnew
  generalize hs44 : S43.set n (5, 16, [(2, (n + 1)), (2, (n + 6)), (2, (n + 11)), (2, (n + 16)), (2, (n + 21)), (2, (n + 26)), (2, (n + 31)), (2, (n + 36)), (2, (n + 41)), (2, (n + 46)), (2, (n + 51)), (2, (n + 56)), (2, (n + 61)), (2, (n + 66)), (3, 0), (3, 0)]) = S44 at hk hg harr hnew
  have hnew := w_apn (x := (12, 0, [(3, 0), (0, 0), (3, 0), (3, 0), (3, 0), (3, 0)])) hg.1
  have hk := w_apk (x := (12, 0, [(3, 0), (0, 0), (3, 0), (3, 0), (3, 0), (3, 0)])) hk
  have hg : wG S (S44 ++ [(12, 0, [(3, 0), (0, 0), (3, 0), (3, 0), (3, 0), (3, 0)])]) n (n + 72) k := wG_app (t := 12) (N := 0) (fs := [(3, 0), (0, 0), (3, 0), (3, 0), (3, 0), (3, 0)]) hg (by decide)
  have harr := w_apk (x := (12, 0, [(3, 0), (0, 0), (3, 0), (3, 0), (3, 0), (3, 0)])) harr
  generalize hs45 : S44 ++ [(12, 0, [(3, 0), (0, 0), (3, 0), (3, 0), (3, 0), (3, 0)])] = S45 at hk hg harr hnew
  have hg2 : wG S45 (sX6 S45 (n + 72) (n + 71) t) (n + 72) ((n + 72) + 4) (n + 71) := gX6 hg.1 hg.2.2.1 hnew (by omega)
  have hk := (hg2.2.2.2 k (by omega) (by omega)).trans hk
  have harr := (hg2.2.2.2 _ (by omega) (by omega)).trans harr
  have hnew : (sX6 S45 (n + 72) (n + 71) t)[(n + 71)]? = some (12, 0, [(2, t), (0, 0), (2, (n + 72)), (2, ((n + 72) + 1)), (2, ((n + 72) + 2)), (2, ((n + 72) + 3))]) := qX6 hg.1 hg.2.2.1 hnew (by omega)
  have hg : wG S (sX6 S45 (n + 72) (n + 71) t) n (n + 76) k := wG_call hg hg2 (by omega)
  generalize hs46 : sX6 S45 (n + 72) (n + 71) t = S46 at hk hg harr hnew
  have hg : wG S (S46.set n (5, 16, [(2, (n + 1)), (2, (n + 6)), (2, (n + 11)), (2, (n + 16)), (2, (n + 21)), (2, (n + 26)), (2, (n + 31)), (2, (n + 36)), (2, (n + 41)), (2, (n + 46)), (2, (n + 51)), (2, (n + 56)), (2, (n + 61)), (2, (n + 66)), (2, (n + 71)), (3, 0)])) n (n + 76) k := wG_set2 (j := 14) (r := (n + 71)) hg harr (by omega) (Or.inr (by omega)) rfl
  have hk := w_sto (k2 := n) (x := (5, 16, [(2, (n + 1)), (2, (n + 6)), (2, (n + 11)), (2, (n + 16)), (2, (n + 21)), (2, (n + 26)), (2, (n + 31)), (2, (n + 36)), (2, (n + 41)), (2, (n + 46)), (2, (n + 51)), (2, (n + 56)), (2, (n + 61)), (2, (n + 66)), (2, (n + 71)), (3, 0)])) (by omega) hk
  have harr := w_stk (x := (5, 16, [(2, (n + 1)), (2, (n + 6)), (2, (n + 11)), (2, (n + 16)), (2, (n + 21)), (2, (n + 26)), (2, (n + 31)), (2, (n + 36)), (2, (n + 41)), (2, (n + 46)), (2, (n + 51)), (2, (n + 56)), (2, (n + 61)), (2, (n + 66)), (2, (n + 71)), (3, 0)])) harr
  have hnew := w_sto (k2 := n) (x := (5, 16, [(2, (n + 1)), (2, (n + 6)), (2, (n + 11)), (2, (n + 16)), (2, (n + 21)), (2, (n + 26)), (2, (n + 31)), (2, (n + 36)), (2, (n + 41)), (2, (n + 46)), (2, (n + 51)), (2, (n + 56)), (2, (n + 61)), (2, (n + 66)), (2, (n + 71)), (3, 0)])) (by omega) hnew
  generalize hs47 : S46.set n (5, 16, [(2, (n + 1)), (2, (n + 6)), (2, (n + 11)), (2, (n + 16)), (2, (n + 21)), (2, (n + 26)), (2, (n + 31)), (2, (n + 36)), (2, (n + 41)), (2, (n + 46)), (2, (n + 51)), (2, (n + 56)), (2, (n + 61)), (2, (n + 66)), (2, (n + 71)), (3, 0)]) = S47 at hk hg harr hnew
  have hnew := w_apn (x := (12, 0, [(3, 0), (0, 0), (3, 0), (3, 0), (3, 0), (3, 0)])) hg.1
  have hk := w_apk (x := (12, 0, [(3, 0), (0, 0), (3, 0), (3, 0), (3, 0), (3, 0)])) hk
  have hg : wG S (S47 ++ [(12, 0, [(3, 0), (0, 0), (3, 0), (3, 0), (3, 0), (3, 0)])]) n (n + 77) k := wG_app (t := 12) (N := 0) (fs := [(3, 0), (0, 0), (3, 0), (3, 0), (3, 0), (3, 0)]) hg (by decide)
  have harr := w_apk (x := (12, 0, [(3, 0), (0, 0), (3, 0), (3, 0), (3, 0), (3, 0)])) harr
  generalize hs48 : S47 ++ [(12, 0, [(3, 0), (0, 0), (3, 0), (3, 0), (3, 0), (3, 0)])] = S48 at hk hg harr hnew
  have hg2 : wG S48 (sX6 S48 (n + 77) (n + 76) t) (n + 77) ((n + 77) + 4) (n + 76) := gX6 hg.1 hg.2.2.1 hnew (by omega)
  have hk := (hg2.2.2.2 k (by omega) (by omega)).trans hk
  have harr := (hg2.2.2.2 _ (by omega) (by omega)).trans harr
  have hnew : (sX6 S48 (n + 77) (n + 76) t)[(n + 76)]? = some (12, 0, [(2, t), (0, 0), (2, (n + 77)), (2, ((n + 77) + 1)), (2, ((n + 77) + 2)), (2, ((n + 77) + 3))]) := qX6 hg.1 hg.2.2.1 hnew (by omega)
  have hg : wG S (sX6 S48 (n + 77) (n + 76) t) n (n + 81) k := wG_call hg hg2 (by omega)
  generalize hs49 : sX6 S48 (n + 77) (n + 76) t = S49 at hk hg harr hnew
  have hg : wG S (S49.set n (5, 16, [(2, (n + 1)), (2, (n + 6)), (2, (n + 11)), (2, (n + 16)), (2, (n + 21)), (2, (n + 26)), (2, (n + 31)), (2, (n + 36)), (2, (n + 41)), (2, (n + 46)), (2, (n + 51)), (2, (n + 56)), (2, (n + 61)), (2, (n + 66)), (2, (n + 71)), (2, (n + 76))])) n (n + 81) k := wG_set2 (j := 15) (r := (n + 76)) hg harr (by omega) (Or.inr (by omega)) rfl
  have hk := w_sto (k2 := n) (x := (5, 16, [(2, (n + 1)), (2, (n + 6)), (2, (n + 11)), (2, (n + 16)), (2, (n + 21)), (2, (n + 26)), (2, (n + 31)), (2, (n + 36)), (2, (n + 41)), (2, (n + 46)), (2, (n + 51)), (2, (n + 56)), (2, (n + 61)), (2, (n + 66)), (2, (n + 71)), (2, (n + 76))])) (by omega) hk
  have harr := w_stk (x := (5, 16, [(2, (n + 1)), (2, (n + 6)), (2, (n + 11)), (2, (n + 16)), (2, (n + 21)), (2, (n + 26)), (2, (n + 31)), (2, (n + 36)), (2, (n + 41)), (2, (n + 46)), (2, (n + 51)), (2, (n + 56)), (2, (n + 61)), (2, (n + 66)), (2, (n + 71)), (2, (n + 76))])) harr
  have hnew := w_sto (k2 := n) (x := (5, 16, [(2, (n + 1)), (2, (n + 6)), (2, (n + 11)), (2, (n + 16)), (2, (n + 21)), (2, (n + 26)), (2, (n + 31)), (2, (n + 36)), (2, (n + 41)), (2, (n + 46)), (2, (n + 51)), (2, (n + 56)), (2, (n + 61)), (2, (n + 66)), (2, (n + 71)), (2, (n + 76))])) (by omega) hnew
  generalize hs50 : S49.set n (5, 16, [(2, (n + 1)), (2, (n + 6)), (2, (n + 11)), (2, (n + 16)), (2, (n + 21)), (2, (n + 26)), (2, (n + 31)), (2, (n + 36)), (2, (n + 41)), (2, (n + 46)), (2, (n + 51)), (2, (n + 56)), (2, (n + 61)), (2, (n + 66)), (2, (n + 71)), (2, (n + 76))]) = S50 at hk hg harr hnew
  subst hs1
  subst hs2
  subst hs3
  subst hs4
  subst hs5
  subst hs6
  subst hs7
  subst hs8
  subst hs9
  subst hs10
  subst hs11
  subst hs12
  subst hs13
  subst hs14
  subst hs15
  subst hs16
  subst hs17
  subst hs18
  subst hs19
  subst hs20
  subst hs21
  subst hs22
  subst hs23
  subst hs24
  subst hs25
  subst hs26
  subst hs27
  subst hs28
  subst hs29
  subst hs30
  subst hs31
  subst hs32
  subst hs33
  subst hs34
  subst hs35
  subst hs36
  subst hs37
  subst hs38
  subst hs39
  subst hs40
  subst hs41
  subst hs42
  subst hs43
  subst hs44
  subst hs45
  subst hs46
  subst hs47
  subst hs48
  subst hs49
  subst hs50
  exact ⟨hg, hk⟩
theorem gX8 {S : List wSh} {n k t : Nat} (hn : S.length = n) (hw : wWf S) (hk : S[k]? = some (14, 0, [(0, 0), (0, 0), (3, 0)])) (ht : t < n) : wG S (sX8 S n k t) n (n + 81) k := (gqX8 hn hw hk ht).1
theorem qX8 {S : List wSh} {n k t : Nat} (hn : S.length = n) (hw : wWf S) (hk : S[k]? = some (14, 0, [(0, 0), (0, 0), (3, 0)])) (ht : t < n) : (sX8 S n k t)[k]? = some (14, 0, [(0, 0), (0, 0), (2, n)]) := (gqX8 hn hw hk ht).2
set_option maxRecDepth 20000 in
set_option maxHeartbeats 8000000 in
theorem iX8 (l : Launch) {S : List wSh} {n k t : Nat} (hn : S.length = n) (hw : wWf S) (hk : S[k]? = some (14, 0, [(0, 0), (0, 0), (3, 0)])) (hn9 : n < 80000) (ht : t < n) : wCi l yX8_init cX8_init 3 2 81 784 S n [.ref k, .ref t] (sX8 S n k t) := by
  have hkl : k < n := by rw [← hn]; exact (List.getElem?_eq_some_iff.mp hk).1
  refine w_methI 1 (by decide) (Nat.le_of_ble_eq_true rfl) (ls := [some (.ref k), some (.ref t), none]) rfl ?_
  intro p e s m args below meth c D dA b0 ad X hr hin
  have hg : wG S S n n k := wG_rf hn hw
  have ha : ∀ q, (q < n ∨ 99999 ≤ q) → ad q = ad q := fun _ _ => rfl
  refine w_aload_n X dX8_init_0 rfl rfl rfl ?_
  refine w_obj X dX8_init_1 rfl wd_229 wd_31 wd_32 (Nat.le_of_ble_eq_true rfl) (Nat.le_of_ble_eq_true rfl) ?_
  refine w_aload_n X dX8_init_4 rfl rfl rfl ?_
  refine w_bipush X dX8_init_5 rfl cb_16 ?_
  refine w_newq2 X (t := 5) (by decide) dX8_init_7 rfl wd_230 (by decide) (N := 16) (by decide) (by decide) (fs3 := [(3, 0), (3, 0), (3, 0), (3, 0), (3, 0), (3, 0), (3, 0), (3, 0), (3, 0), (3, 0), (3, 0), (3, 0), (3, 0), (3, 0), (3, 0), (3, 0)]) rfl hg.2.2.1 hg.1 (by omega) (w_rl ⟨wRf_r (by omega), wRf_r (by omega), trivial⟩ ⟨wRf_r (by omega), trivial⟩) ⟨Nat.le_of_ble_eq_true rfl, Nat.le_of_ble_eq_true rfl⟩ (fun ad1 ha1 X => ?_)
  have ha : ∀ q, (q < n ∨ 99999 ≤ q) → ad1 q = ad q := fun q hq => (ha1 q (by omega)).trans (ha q hq)
  have harr := w_apn (x := (5, 16, [(3, 0), (3, 0), (3, 0), (3, 0), (3, 0), (3, 0), (3, 0), (3, 0), (3, 0), (3, 0), (3, 0), (3, 0), (3, 0), (3, 0), (3, 0), (3, 0)])) hg.1
  have hk := w_apk (x := (5, 16, [(3, 0), (3, 0), (3, 0), (3, 0), (3, 0), (3, 0), (3, 0), (3, 0), (3, 0), (3, 0), (3, 0), (3, 0), (3, 0), (3, 0), (3, 0), (3, 0)])) hk
  have hg : wG S (S ++ [(5, 16, [(3, 0), (3, 0), (3, 0), (3, 0), (3, 0), (3, 0), (3, 0), (3, 0), (3, 0), (3, 0), (3, 0), (3, 0), (3, 0), (3, 0), (3, 0), (3, 0)])]) n (n + 1) k := wG_app (t := 5) (N := 16) (fs := [(3, 0), (3, 0), (3, 0), (3, 0), (3, 0), (3, 0), (3, 0), (3, 0), (3, 0), (3, 0), (3, 0), (3, 0), (3, 0), (3, 0), (3, 0), (3, 0)]) hg (by decide)
  generalize hs1 : S ++ [(5, 16, [(3, 0), (3, 0), (3, 0), (3, 0), (3, 0), (3, 0), (3, 0), (3, 0), (3, 0), (3, 0), (3, 0), (3, 0), (3, 0), (3, 0), (3, 0), (3, 0)])] = S1 at hk hg harr ⊢
  refine w_putR2 X dX8_init_10 rfl (ci := 8) (C := RX8) (T := TX8) (N := 3) (ty0 := tyX8) (ty := tyX8 2) (j := 2) rfl wcl_8 tyX8_ok nmX8 (by decide) wd_236 rfl hin rfl (by decide +kernel) (fun _ => rfl) (fun _ => rfl) hk (Nat.le_of_ble_eq_true rfl) (fs2 := [(0, 0), (0, 0), (2, n)]) rfl ?_
  have hg : wG S (S1.set k (14, 0, [(0, 0), (0, 0), (2, n)])) n (n + 1) k := wG_set2 (j := 2) (r := n) hg hk (by omega) (Or.inl rfl) rfl
  have harr := w_sto (k2 := k) (x := (14, 0, [(0, 0), (0, 0), (2, n)])) (by omega) harr
  have hk := w_stk (x := (14, 0, [(0, 0), (0, 0), (2, n)])) hk
  generalize hs2 : S1.set k (14, 0, [(0, 0), (0, 0), (2, n)]) = S2 at hk hg harr ⊢
  refine w_iconst X dX8_init_13 rfl ci_0 ?_
  refine w_istore_n X dX8_init_14 rfl rfl rfl (Nat.le_of_ble_eq_true rfl) (ls' := [some (.ref k), some (.ref t), some (.int 0)]) rfl ?_
  refine w_iload_n X dX8_init_15 rfl rfl rfl ?_
  refine w_bipush X dX8_init_16 rfl cb_16 ?_
  refine w_icmp_ge X dX8_init_18 rfl (t := 41) rfl (fun hc => absurd hc (by decide)) (fun _ => ?_)
  refine w_aload_n X dX8_init_21 rfl rfl rfl ?_
  refine w_getR X dX8_init_22 rfl fl_X8_11 hk rfl ?_
  refine w_iload_n X dX8_init_25 rfl rfl rfl ?_
  refine w_newo X (ci := 6) (N := 6) (C := RX6) (T := TX6) (ty := tyX6) (fs := [(3, 0), (0, 0), (3, 0), (3, 0), (3, 0), (3, 0)]) dX8_init_26 rfl rfl wcl_6 tyX6_ok wd_230 wd_157 wd_5 (by decide +kernel) (by decide +kernel) hg.2.2.1 hg.1 (by omega) (w_rl ⟨wRf_r (by omega), wRf_r (by omega), trivial, trivial⟩ ⟨trivial, wRf_r (by omega), trivial⟩) ⟨Nat.le_of_ble_eq_true rfl, Nat.le_of_ble_eq_true rfl⟩ (fun ad2 ha2 X => ?_)
  have ha : ∀ q, (q < n ∨ 99999 ≤ q) → ad2 q = ad q := fun q hq => (ha2 q (by omega)).trans (ha q hq)
  have hnew := w_apn (x := (12, 0, [(3, 0), (0, 0), (3, 0), (3, 0), (3, 0), (3, 0)])) hg.1
  have hk := w_apk (x := (12, 0, [(3, 0), (0, 0), (3, 0), (3, 0), (3, 0), (3, 0)])) hk
  have hg : wG S (S2 ++ [(12, 0, [(3, 0), (0, 0), (3, 0), (3, 0), (3, 0), (3, 0)])]) n (n + 2) k := wG_app (t := 12) (N := 0) (fs := [(3, 0), (0, 0), (3, 0), (3, 0), (3, 0), (3, 0)]) hg (by decide)
  have harr := w_apk (x := (12, 0, [(3, 0), (0, 0), (3, 0), (3, 0), (3, 0), (3, 0)])) harr
  generalize hs3 : S2 ++ [(12, 0, [(3, 0), (0, 0), (3, 0), (3, 0), (3, 0), (3, 0)])] = S3 at hk hg harr hnew ⊢
  refine w_dup X dX8_init_29 rfl rfl ?_
  refine w_aload_n X dX8_init_30 rfl rfl rfl ?_
  refine w_callI X dX8_init_31 rfl il_X8_15 (iX6 l hg.1 hg.2.2.1 hnew (by omega) (by omega)) (As := [.ref t]) (st := [.ref (n + 1), .int 0, .ref n]) rfl rfl (w_rl ⟨wRf_r (by omega), wRf_r (by omega), trivial, trivial⟩ ⟨wRf_r (by omega), trivial, wRf_r (by omega), trivial⟩) (Nat.le_of_ble_eq_true rfl) ⟨Nat.le_of_ble_eq_true rfl, Nat.le_of_ble_eq_true rfl⟩ ⟨Nat.le_of_ble_eq_true rfl, Nat.le_of_ble_eq_true rfl⟩ (fun ad3 ha3 X => ?_)
  have ha : ∀ q, (q < n ∨ 99999 ≤ q) → ad3 q = ad q := fun q hq => (ha3 q (by omega)).trans (ha q hq)
  have hg2 : wG S3 (sX6 S3 (n + 2) (n + 1) t) (n + 2) ((n + 2) + 4) (n + 1) := gX6 hg.1 hg.2.2.1 hnew (by omega)
  have hk := (hg2.2.2.2 k (by omega) (by omega)).trans hk
  have harr := (hg2.2.2.2 _ (by omega) (by omega)).trans harr
  have hnew : (sX6 S3 (n + 2) (n + 1) t)[(n + 1)]? = some (12, 0, [(2, t), (0, 0), (2, (n + 2)), (2, ((n + 2) + 1)), (2, ((n + 2) + 2)), (2, ((n + 2) + 3))]) := qX6 hg.1 hg.2.2.1 hnew (by omega)
  have hg : wG S (sX6 S3 (n + 2) (n + 1) t) n (n + 6) k := wG_call hg hg2 (by omega)
  generalize hs4 : sX6 S3 (n + 2) (n + 1) t = S4 at hk hg harr hnew ⊢
  refine w_aastq2 X dX8_init_34 rfl (t := 5) (ci := 6) (C := RX6) (T := TX6) (N2 := 6) rfl rfl (by decide) harr hnew (j := 0) (by decide) (show wib 0 16 by decide) (by simp) (fs3 := [(2, (n + 1)), (3, 0), (3, 0), (3, 0), (3, 0), (3, 0), (3, 0), (3, 0), (3, 0), (3, 0), (3, 0), (3, 0), (3, 0), (3, 0), (3, 0), (3, 0)]) rfl ?_
  have hg : wG S (S4.set n (5, 16, [(2, (n + 1)), (3, 0), (3, 0), (3, 0), (3, 0), (3, 0), (3, 0), (3, 0), (3, 0), (3, 0), (3, 0), (3, 0), (3, 0), (3, 0), (3, 0), (3, 0)])) n (n + 6) k := wG_set2 (j := 0) (r := (n + 1)) hg harr (by omega) (Or.inr (by omega)) rfl
  have hk := w_sto (k2 := n) (x := (5, 16, [(2, (n + 1)), (3, 0), (3, 0), (3, 0), (3, 0), (3, 0), (3, 0), (3, 0), (3, 0), (3, 0), (3, 0), (3, 0), (3, 0), (3, 0), (3, 0), (3, 0)])) (by omega) hk
  have harr := w_stk (x := (5, 16, [(2, (n + 1)), (3, 0), (3, 0), (3, 0), (3, 0), (3, 0), (3, 0), (3, 0), (3, 0), (3, 0), (3, 0), (3, 0), (3, 0), (3, 0), (3, 0), (3, 0)])) harr
  have hnew := w_sto (k2 := n) (x := (5, 16, [(2, (n + 1)), (3, 0), (3, 0), (3, 0), (3, 0), (3, 0), (3, 0), (3, 0), (3, 0), (3, 0), (3, 0), (3, 0), (3, 0), (3, 0), (3, 0), (3, 0)])) (by omega) hnew
  generalize hs5 : S4.set n (5, 16, [(2, (n + 1)), (3, 0), (3, 0), (3, 0), (3, 0), (3, 0), (3, 0), (3, 0), (3, 0), (3, 0), (3, 0), (3, 0), (3, 0), (3, 0), (3, 0), (3, 0)]) = S5 at hk hg harr hnew ⊢
  refine w_iinc X dX8_init_35 rfl (v := 1) rfl rfl (Nat.le_of_ble_eq_true rfl) (by decide) (ls' := [some (.ref k), some (.ref t), some (.int 1)]) rfl ?_
  refine w_goto X dX8_init_38 (t := 15) rfl ?_
  refine w_iload_n X dX8_init_15 rfl rfl rfl ?_
  refine w_bipush X dX8_init_16 rfl cb_16 ?_
  refine w_icmp_ge X dX8_init_18 rfl (t := 41) rfl (fun hc => absurd hc (by decide)) (fun _ => ?_)
  refine w_aload_n X dX8_init_21 rfl rfl rfl ?_
  refine w_getR X dX8_init_22 rfl fl_X8_11 hk rfl ?_
  refine w_iload_n X dX8_init_25 rfl rfl rfl ?_
  refine w_newo X (ci := 6) (N := 6) (C := RX6) (T := TX6) (ty := tyX6) (fs := [(3, 0), (0, 0), (3, 0), (3, 0), (3, 0), (3, 0)]) dX8_init_26 rfl rfl wcl_6 tyX6_ok wd_230 wd_157 wd_5 (by decide +kernel) (by decide +kernel) hg.2.2.1 hg.1 (by omega) (w_rl ⟨wRf_r (by omega), wRf_r (by omega), trivial, trivial⟩ ⟨trivial, wRf_r (by omega), trivial⟩) ⟨Nat.le_of_ble_eq_true rfl, Nat.le_of_ble_eq_true rfl⟩ (fun ad4 ha4 X => ?_)
  have ha : ∀ q, (q < n ∨ 99999 ≤ q) → ad4 q = ad q := fun q hq => (ha4 q (by omega)).trans (ha q hq)
  have hnew := w_apn (x := (12, 0, [(3, 0), (0, 0), (3, 0), (3, 0), (3, 0), (3, 0)])) hg.1
  have hk := w_apk (x := (12, 0, [(3, 0), (0, 0), (3, 0), (3, 0), (3, 0), (3, 0)])) hk
  have hg : wG S (S5 ++ [(12, 0, [(3, 0), (0, 0), (3, 0), (3, 0), (3, 0), (3, 0)])]) n (n + 7) k := wG_app (t := 12) (N := 0) (fs := [(3, 0), (0, 0), (3, 0), (3, 0), (3, 0), (3, 0)]) hg (by decide)
  have harr := w_apk (x := (12, 0, [(3, 0), (0, 0), (3, 0), (3, 0), (3, 0), (3, 0)])) harr
  generalize hs6 : S5 ++ [(12, 0, [(3, 0), (0, 0), (3, 0), (3, 0), (3, 0), (3, 0)])] = S6 at hk hg harr hnew ⊢
  refine w_dup X dX8_init_29 rfl rfl ?_
  refine w_aload_n X dX8_init_30 rfl rfl rfl ?_
  refine w_callI X dX8_init_31 rfl il_X8_15 (iX6 l hg.1 hg.2.2.1 hnew (by omega) (by omega)) (As := [.ref t]) (st := [.ref (n + 6), .int 1, .ref n]) rfl rfl (w_rl ⟨wRf_r (by omega), wRf_r (by omega), trivial, trivial⟩ ⟨wRf_r (by omega), trivial, wRf_r (by omega), trivial⟩) (Nat.le_of_ble_eq_true rfl) ⟨Nat.le_of_ble_eq_true rfl, Nat.le_of_ble_eq_true rfl⟩ ⟨Nat.le_of_ble_eq_true rfl, Nat.le_of_ble_eq_true rfl⟩ (fun ad5 ha5 X => ?_)
  have ha : ∀ q, (q < n ∨ 99999 ≤ q) → ad5 q = ad q := fun q hq => (ha5 q (by omega)).trans (ha q hq)
  have hg2 : wG S6 (sX6 S6 (n + 7) (n + 6) t) (n + 7) ((n + 7) + 4) (n + 6) := gX6 hg.1 hg.2.2.1 hnew (by omega)
  have hk := (hg2.2.2.2 k (by omega) (by omega)).trans hk
  have harr := (hg2.2.2.2 _ (by omega) (by omega)).trans harr
  have hnew : (sX6 S6 (n + 7) (n + 6) t)[(n + 6)]? = some (12, 0, [(2, t), (0, 0), (2, (n + 7)), (2, ((n + 7) + 1)), (2, ((n + 7) + 2)), (2, ((n + 7) + 3))]) := qX6 hg.1 hg.2.2.1 hnew (by omega)
  have hg : wG S (sX6 S6 (n + 7) (n + 6) t) n (n + 11) k := wG_call hg hg2 (by omega)
  generalize hs7 : sX6 S6 (n + 7) (n + 6) t = S7 at hk hg harr hnew ⊢
  refine w_aastq2 X dX8_init_34 rfl (t := 5) (ci := 6) (C := RX6) (T := TX6) (N2 := 6) rfl rfl (by decide) harr hnew (j := 1) (by decide) (show wib 1 16 by decide) (by simp) (fs3 := [(2, (n + 1)), (2, (n + 6)), (3, 0), (3, 0), (3, 0), (3, 0), (3, 0), (3, 0), (3, 0), (3, 0), (3, 0), (3, 0), (3, 0), (3, 0), (3, 0), (3, 0)]) rfl ?_
  have hg : wG S (S7.set n (5, 16, [(2, (n + 1)), (2, (n + 6)), (3, 0), (3, 0), (3, 0), (3, 0), (3, 0), (3, 0), (3, 0), (3, 0), (3, 0), (3, 0), (3, 0), (3, 0), (3, 0), (3, 0)])) n (n + 11) k := wG_set2 (j := 1) (r := (n + 6)) hg harr (by omega) (Or.inr (by omega)) rfl
  have hk := w_sto (k2 := n) (x := (5, 16, [(2, (n + 1)), (2, (n + 6)), (3, 0), (3, 0), (3, 0), (3, 0), (3, 0), (3, 0), (3, 0), (3, 0), (3, 0), (3, 0), (3, 0), (3, 0), (3, 0), (3, 0)])) (by omega) hk
  have harr := w_stk (x := (5, 16, [(2, (n + 1)), (2, (n + 6)), (3, 0), (3, 0), (3, 0), (3, 0), (3, 0), (3, 0), (3, 0), (3, 0), (3, 0), (3, 0), (3, 0), (3, 0), (3, 0), (3, 0)])) harr
  have hnew := w_sto (k2 := n) (x := (5, 16, [(2, (n + 1)), (2, (n + 6)), (3, 0), (3, 0), (3, 0), (3, 0), (3, 0), (3, 0), (3, 0), (3, 0), (3, 0), (3, 0), (3, 0), (3, 0), (3, 0), (3, 0)])) (by omega) hnew
  generalize hs8 : S7.set n (5, 16, [(2, (n + 1)), (2, (n + 6)), (3, 0), (3, 0), (3, 0), (3, 0), (3, 0), (3, 0), (3, 0), (3, 0), (3, 0), (3, 0), (3, 0), (3, 0), (3, 0), (3, 0)]) = S8 at hk hg harr hnew ⊢
  refine w_iinc X dX8_init_35 rfl (v := 2) rfl rfl (Nat.le_of_ble_eq_true rfl) (by decide) (ls' := [some (.ref k), some (.ref t), some (.int 2)]) rfl ?_
  refine w_goto X dX8_init_38 (t := 15) rfl ?_
  refine w_iload_n X dX8_init_15 rfl rfl rfl ?_
  refine w_bipush X dX8_init_16 rfl cb_16 ?_
  refine w_icmp_ge X dX8_init_18 rfl (t := 41) rfl (fun hc => absurd hc (by decide)) (fun _ => ?_)
  refine w_aload_n X dX8_init_21 rfl rfl rfl ?_
  refine w_getR X dX8_init_22 rfl fl_X8_11 hk rfl ?_
  refine w_iload_n X dX8_init_25 rfl rfl rfl ?_
  refine w_newo X (ci := 6) (N := 6) (C := RX6) (T := TX6) (ty := tyX6) (fs := [(3, 0), (0, 0), (3, 0), (3, 0), (3, 0), (3, 0)]) dX8_init_26 rfl rfl wcl_6 tyX6_ok wd_230 wd_157 wd_5 (by decide +kernel) (by decide +kernel) hg.2.2.1 hg.1 (by omega) (w_rl ⟨wRf_r (by omega), wRf_r (by omega), trivial, trivial⟩ ⟨trivial, wRf_r (by omega), trivial⟩) ⟨Nat.le_of_ble_eq_true rfl, Nat.le_of_ble_eq_true rfl⟩ (fun ad6 ha6 X => ?_)
  have ha : ∀ q, (q < n ∨ 99999 ≤ q) → ad6 q = ad q := fun q hq => (ha6 q (by omega)).trans (ha q hq)
  have hnew := w_apn (x := (12, 0, [(3, 0), (0, 0), (3, 0), (3, 0), (3, 0), (3, 0)])) hg.1
  have hk := w_apk (x := (12, 0, [(3, 0), (0, 0), (3, 0), (3, 0), (3, 0), (3, 0)])) hk
  have hg : wG S (S8 ++ [(12, 0, [(3, 0), (0, 0), (3, 0), (3, 0), (3, 0), (3, 0)])]) n (n + 12) k := wG_app (t := 12) (N := 0) (fs := [(3, 0), (0, 0), (3, 0), (3, 0), (3, 0), (3, 0)]) hg (by decide)
  have harr := w_apk (x := (12, 0, [(3, 0), (0, 0), (3, 0), (3, 0), (3, 0), (3, 0)])) harr
  generalize hs9 : S8 ++ [(12, 0, [(3, 0), (0, 0), (3, 0), (3, 0), (3, 0), (3, 0)])] = S9 at hk hg harr hnew ⊢
  refine w_dup X dX8_init_29 rfl rfl ?_
  refine w_aload_n X dX8_init_30 rfl rfl rfl ?_
  refine w_callI X dX8_init_31 rfl il_X8_15 (iX6 l hg.1 hg.2.2.1 hnew (by omega) (by omega)) (As := [.ref t]) (st := [.ref (n + 11), .int 2, .ref n]) rfl rfl (w_rl ⟨wRf_r (by omega), wRf_r (by omega), trivial, trivial⟩ ⟨wRf_r (by omega), trivial, wRf_r (by omega), trivial⟩) (Nat.le_of_ble_eq_true rfl) ⟨Nat.le_of_ble_eq_true rfl, Nat.le_of_ble_eq_true rfl⟩ ⟨Nat.le_of_ble_eq_true rfl, Nat.le_of_ble_eq_true rfl⟩ (fun ad7 ha7 X => ?_)
  have ha : ∀ q, (q < n ∨ 99999 ≤ q) → ad7 q = ad q := fun q hq => (ha7 q (by omega)).trans (ha q hq)
  have hg2 : wG S9 (sX6 S9 (n + 12) (n + 11) t) (n + 12) ((n + 12) + 4) (n + 11) := gX6 hg.1 hg.2.2.1 hnew (by omega)
  have hk := (hg2.2.2.2 k (by omega) (by omega)).trans hk
  have harr := (hg2.2.2.2 _ (by omega) (by omega)).trans harr
  have hnew : (sX6 S9 (n + 12) (n + 11) t)[(n + 11)]? = some (12, 0, [(2, t), (0, 0), (2, (n + 12)), (2, ((n + 12) + 1)), (2, ((n + 12) + 2)), (2, ((n + 12) + 3))]) := qX6 hg.1 hg.2.2.1 hnew (by omega)
  have hg : wG S (sX6 S9 (n + 12) (n + 11) t) n (n + 16) k := wG_call hg hg2 (by omega)
  generalize hs10 : sX6 S9 (n + 12) (n + 11) t = S10 at hk hg harr hnew ⊢
  refine w_aastq2 X dX8_init_34 rfl (t := 5) (ci := 6) (C := RX6) (T := TX6) (N2 := 6) rfl rfl (by decide) harr hnew (j := 2) (by decide) (show wib 2 16 by decide) (by simp) (fs3 := [(2, (n + 1)), (2, (n + 6)), (2, (n + 11)), (3, 0), (3, 0), (3, 0), (3, 0), (3, 0), (3, 0), (3, 0), (3, 0), (3, 0), (3, 0), (3, 0), (3, 0), (3, 0)]) rfl ?_
  have hg : wG S (S10.set n (5, 16, [(2, (n + 1)), (2, (n + 6)), (2, (n + 11)), (3, 0), (3, 0), (3, 0), (3, 0), (3, 0), (3, 0), (3, 0), (3, 0), (3, 0), (3, 0), (3, 0), (3, 0), (3, 0)])) n (n + 16) k := wG_set2 (j := 2) (r := (n + 11)) hg harr (by omega) (Or.inr (by omega)) rfl
  have hk := w_sto (k2 := n) (x := (5, 16, [(2, (n + 1)), (2, (n + 6)), (2, (n + 11)), (3, 0), (3, 0), (3, 0), (3, 0), (3, 0), (3, 0), (3, 0), (3, 0), (3, 0), (3, 0), (3, 0), (3, 0), (3, 0)])) (by omega) hk
  have harr := w_stk (x := (5, 16, [(2, (n + 1)), (2, (n + 6)), (2, (n + 11)), (3, 0), (3, 0), (3, 0), (3, 0), (3, 0), (3, 0), (3, 0), (3, 0), (3, 0), (3, 0), (3, 0), (3, 0), (3, 0)])) harr
  have hnew := w_sto (k2 := n) (x := (5, 16, [(2, (n + 1)), (2, (n + 6)), (2, (n + 11)), (3, 0), (3, 0), (3, 0), (3, 0), (3, 0), (3, 0), (3, 0), (3, 0), (3, 0), (3, 0), (3, 0), (3, 0), (3, 0)])) (by omega) hnew
  generalize hs11 : S10.set n (5, 16, [(2, (n + 1)), (2, (n + 6)), (2, (n + 11)), (3, 0), (3, 0), (3, 0), (3, 0), (3, 0), (3, 0), (3, 0), (3, 0), (3, 0), (3, 0), (3, 0), (3, 0), (3, 0)]) = S11 at hk hg harr hnew ⊢
  refine w_iinc X dX8_init_35 rfl (v := 3) rfl rfl (Nat.le_of_ble_eq_true rfl) (by decide) (ls' := [some (.ref k), some (.ref t), some (.int 3)]) rfl ?_
  refine w_goto X dX8_init_38 (t := 15) rfl ?_
  refine w_iload_n X dX8_init_15 rfl rfl rfl ?_
  refine w_bipush X dX8_init_16 rfl cb_16 ?_
  refine w_icmp_ge X dX8_init_18 rfl (t := 41) rfl (fun hc => absurd hc (by decide)) (fun _ => ?_)
  refine w_aload_n X dX8_init_21 rfl rfl rfl ?_
  refine w_getR X dX8_init_22 rfl fl_X8_11 hk rfl ?_
  refine w_iload_n X dX8_init_25 rfl rfl rfl ?_
  refine w_newo X (ci := 6) (N := 6) (C := RX6) (T := TX6) (ty := tyX6) (fs := [(3, 0), (0, 0), (3, 0), (3, 0), (3, 0), (3, 0)]) dX8_init_26 rfl rfl wcl_6 tyX6_ok wd_230 wd_157 wd_5 (by decide +kernel) (by decide +kernel) hg.2.2.1 hg.1 (by omega) (w_rl ⟨wRf_r (by omega), wRf_r (by omega), trivial, trivial⟩ ⟨trivial, wRf_r (by omega), trivial⟩) ⟨Nat.le_of_ble_eq_true rfl, Nat.le_of_ble_eq_true rfl⟩ (fun ad8 ha8 X => ?_)
  have ha : ∀ q, (q < n ∨ 99999 ≤ q) → ad8 q = ad q := fun q hq => (ha8 q (by omega)).trans (ha q hq)
  have hnew := w_apn (x := (12, 0, [(3, 0), (0, 0), (3, 0), (3, 0), (3, 0), (3, 0)])) hg.1
  have hk := w_apk (x := (12, 0, [(3, 0), (0, 0), (3, 0), (3, 0), (3, 0), (3, 0)])) hk
  have hg : wG S (S11 ++ [(12, 0, [(3, 0), (0, 0), (3, 0), (3, 0), (3, 0), (3, 0)])]) n (n + 17) k := wG_app (t := 12) (N := 0) (fs := [(3, 0), (0, 0), (3, 0), (3, 0), (3, 0), (3, 0)]) hg (by decide)
  have harr := w_apk (x := (12, 0, [(3, 0), (0, 0), (3, 0), (3, 0), (3, 0), (3, 0)])) harr
  generalize hs12 : S11 ++ [(12, 0, [(3, 0), (0, 0), (3, 0), (3, 0), (3, 0), (3, 0)])] = S12 at hk hg harr hnew ⊢
  refine w_dup X dX8_init_29 rfl rfl ?_
  refine w_aload_n X dX8_init_30 rfl rfl rfl ?_
  refine w_callI X dX8_init_31 rfl il_X8_15 (iX6 l hg.1 hg.2.2.1 hnew (by omega) (by omega)) (As := [.ref t]) (st := [.ref (n + 16), .int 3, .ref n]) rfl rfl (w_rl ⟨wRf_r (by omega), wRf_r (by omega), trivial, trivial⟩ ⟨wRf_r (by omega), trivial, wRf_r (by omega), trivial⟩) (Nat.le_of_ble_eq_true rfl) ⟨Nat.le_of_ble_eq_true rfl, Nat.le_of_ble_eq_true rfl⟩ ⟨Nat.le_of_ble_eq_true rfl, Nat.le_of_ble_eq_true rfl⟩ (fun ad9 ha9 X => ?_)
  have ha : ∀ q, (q < n ∨ 99999 ≤ q) → ad9 q = ad q := fun q hq => (ha9 q (by omega)).trans (ha q hq)
  have hg2 : wG S12 (sX6 S12 (n + 17) (n + 16) t) (n + 17) ((n + 17) + 4) (n + 16) := gX6 hg.1 hg.2.2.1 hnew (by omega)
  have hk := (hg2.2.2.2 k (by omega) (by omega)).trans hk
  have harr := (hg2.2.2.2 _ (by omega) (by omega)).trans harr
  have hnew : (sX6 S12 (n + 17) (n + 16) t)[(n + 16)]? = some (12, 0, [(2, t), (0, 0), (2, (n + 17)), (2, ((n + 17) + 1)), (2, ((n + 17) + 2)), (2, ((n + 17) + 3))]) := qX6 hg.1 hg.2.2.1 hnew (by omega)
  have hg : wG S (sX6 S12 (n + 17) (n + 16) t) n (n + 21) k := wG_call hg hg2 (by omega)
  generalize hs13 : sX6 S12 (n + 17) (n + 16) t = S13 at hk hg harr hnew ⊢
  refine w_aastq2 X dX8_init_34 rfl (t := 5) (ci := 6) (C := RX6) (T := TX6) (N2 := 6) rfl rfl (by decide) harr hnew (j := 3) (by decide) (show wib 3 16 by decide) (by simp) (fs3 := [(2, (n + 1)), (2, (n + 6)), (2, (n + 11)), (2, (n + 16)), (3, 0), (3, 0), (3, 0), (3, 0), (3, 0), (3, 0), (3, 0), (3, 0), (3, 0), (3, 0), (3, 0), (3, 0)]) rfl ?_
  have hg : wG S (S13.set n (5, 16, [(2, (n + 1)), (2, (n + 6)), (2, (n + 11)), (2, (n + 16)), (3, 0), (3, 0), (3, 0), (3, 0), (3, 0), (3, 0), (3, 0), (3, 0), (3, 0), (3, 0), (3, 0), (3, 0)])) n (n + 21) k := wG_set2 (j := 3) (r := (n + 16)) hg harr (by omega) (Or.inr (by omega)) rfl
  have hk := w_sto (k2 := n) (x := (5, 16, [(2, (n + 1)), (2, (n + 6)), (2, (n + 11)), (2, (n + 16)), (3, 0), (3, 0), (3, 0), (3, 0), (3, 0), (3, 0), (3, 0), (3, 0), (3, 0), (3, 0), (3, 0), (3, 0)])) (by omega) hk
  have harr := w_stk (x := (5, 16, [(2, (n + 1)), (2, (n + 6)), (2, (n + 11)), (2, (n + 16)), (3, 0), (3, 0), (3, 0), (3, 0), (3, 0), (3, 0), (3, 0), (3, 0), (3, 0), (3, 0), (3, 0), (3, 0)])) harr
  have hnew := w_sto (k2 := n) (x := (5, 16, [(2, (n + 1)), (2, (n + 6)), (2, (n + 11)), (2, (n + 16)), (3, 0), (3, 0), (3, 0), (3, 0), (3, 0), (3, 0), (3, 0), (3, 0), (3, 0), (3, 0), (3, 0), (3, 0)])) (by omega) hnew
  generalize hs14 : S13.set n (5, 16, [(2, (n + 1)), (2, (n + 6)), (2, (n + 11)), (2, (n + 16)), (3, 0), (3, 0), (3, 0), (3, 0), (3, 0), (3, 0), (3, 0), (3, 0), (3, 0), (3, 0), (3, 0), (3, 0)]) = S14 at hk hg harr hnew ⊢
  refine w_iinc X dX8_init_35 rfl (v := 4) rfl rfl (Nat.le_of_ble_eq_true rfl) (by decide) (ls' := [some (.ref k), some (.ref t), some (.int 4)]) rfl ?_
  refine w_goto X dX8_init_38 (t := 15) rfl ?_
  refine w_iload_n X dX8_init_15 rfl rfl rfl ?_
  refine w_bipush X dX8_init_16 rfl cb_16 ?_
  refine w_icmp_ge X dX8_init_18 rfl (t := 41) rfl (fun hc => absurd hc (by decide)) (fun _ => ?_)
  refine w_aload_n X dX8_init_21 rfl rfl rfl ?_
  refine w_getR X dX8_init_22 rfl fl_X8_11 hk rfl ?_
  refine w_iload_n X dX8_init_25 rfl rfl rfl ?_
  refine w_newo X (ci := 6) (N := 6) (C := RX6) (T := TX6) (ty := tyX6) (fs := [(3, 0), (0, 0), (3, 0), (3, 0), (3, 0), (3, 0)]) dX8_init_26 rfl rfl wcl_6 tyX6_ok wd_230 wd_157 wd_5 (by decide +kernel) (by decide +kernel) hg.2.2.1 hg.1 (by omega) (w_rl ⟨wRf_r (by omega), wRf_r (by omega), trivial, trivial⟩ ⟨trivial, wRf_r (by omega), trivial⟩) ⟨Nat.le_of_ble_eq_true rfl, Nat.le_of_ble_eq_true rfl⟩ (fun ad10 ha10 X => ?_)
  have ha : ∀ q, (q < n ∨ 99999 ≤ q) → ad10 q = ad q := fun q hq => (ha10 q (by omega)).trans (ha q hq)
  have hnew := w_apn (x := (12, 0, [(3, 0), (0, 0), (3, 0), (3, 0), (3, 0), (3, 0)])) hg.1
  have hk := w_apk (x := (12, 0, [(3, 0), (0, 0), (3, 0), (3, 0), (3, 0), (3, 0)])) hk
  have hg : wG S (S14 ++ [(12, 0, [(3, 0), (0, 0), (3, 0), (3, 0), (3, 0), (3, 0)])]) n (n + 22) k := wG_app (t := 12) (N := 0) (fs := [(3, 0), (0, 0), (3, 0), (3, 0), (3, 0), (3, 0)]) hg (by decide)
  have harr := w_apk (x := (12, 0, [(3, 0), (0, 0), (3, 0), (3, 0), (3, 0), (3, 0)])) harr
  generalize hs15 : S14 ++ [(12, 0, [(3, 0), (0, 0), (3, 0), (3, 0), (3, 0), (3, 0)])] = S15 at hk hg harr hnew ⊢
  refine w_dup X dX8_init_29 rfl rfl ?_
  refine w_aload_n X dX8_init_30 rfl rfl rfl ?_
  refine w_callI X dX8_init_31 rfl il_X8_15 (iX6 l hg.1 hg.2.2.1 hnew (by omega) (by omega)) (As := [.ref t]) (st := [.ref (n + 21), .int 4, .ref n]) rfl rfl (w_rl ⟨wRf_r (by omega), wRf_r (by omega), trivial, trivial⟩ ⟨wRf_r (by omega), trivial, wRf_r (by omega), trivial⟩) (Nat.le_of_ble_eq_true rfl) ⟨Nat.le_of_ble_eq_true rfl, Nat.le_of_ble_eq_true rfl⟩ ⟨Nat.le_of_ble_eq_true rfl, Nat.le_of_ble_eq_true rfl⟩ (fun ad11 ha11 X => ?_)
  have ha : ∀ q, (q < n ∨ 99999 ≤ q) → ad11 q = ad q := fun q hq => (ha11 q (by omega)).trans (ha q hq)
  have hg2 : wG S15 (sX6 S15 (n + 22) (n + 21) t) (n + 22) ((n + 22) + 4) (n + 21) := gX6 hg.1 hg.2.2.1 hnew (by omega)
  have hk := (hg2.2.2.2 k (by omega) (by omega)).trans hk
  have harr := (hg2.2.2.2 _ (by omega) (by omega)).trans harr
  have hnew : (sX6 S15 (n + 22) (n + 21) t)[(n + 21)]? = some (12, 0, [(2, t), (0, 0), (2, (n + 22)), (2, ((n + 22) + 1)), (2, ((n + 22) + 2)), (2, ((n + 22) + 3))]) := qX6 hg.1 hg.2.2.1 hnew (by omega)
  have hg : wG S (sX6 S15 (n + 22) (n + 21) t) n (n + 26) k := wG_call hg hg2 (by omega)
  generalize hs16 : sX6 S15 (n + 22) (n + 21) t = S16 at hk hg harr hnew ⊢
  refine w_aastq2 X dX8_init_34 rfl (t := 5) (ci := 6) (C := RX6) (T := TX6) (N2 := 6) rfl rfl (by decide) harr hnew (j := 4) (by decide) (show wib 4 16 by decide) (by simp) (fs3 := [(2, (n + 1)), (2, (n + 6)), (2, (n + 11)), (2, (n + 16)), (2, (n + 21)), (3, 0), (3, 0), (3, 0), (3, 0), (3, 0), (3, 0), (3, 0), (3, 0), (3, 0), (3, 0), (3, 0)]) rfl ?_
  have hg : wG S (S16.set n (5, 16, [(2, (n + 1)), (2, (n + 6)), (2, (n + 11)), (2, (n + 16)), (2, (n + 21)), (3, 0), (3, 0), (3, 0), (3, 0), (3, 0), (3, 0), (3, 0), (3, 0), (3, 0), (3, 0), (3, 0)])) n (n + 26) k := wG_set2 (j := 4) (r := (n + 21)) hg harr (by omega) (Or.inr (by omega)) rfl
  have hk := w_sto (k2 := n) (x := (5, 16, [(2, (n + 1)), (2, (n + 6)), (2, (n + 11)), (2, (n + 16)), (2, (n + 21)), (3, 0), (3, 0), (3, 0), (3, 0), (3, 0), (3, 0), (3, 0), (3, 0), (3, 0), (3, 0), (3, 0)])) (by omega) hk
  have harr := w_stk (x := (5, 16, [(2, (n + 1)), (2, (n + 6)), (2, (n + 11)), (2, (n + 16)), (2, (n + 21)), (3, 0), (3, 0), (3, 0), (3, 0), (3, 0), (3, 0), (3, 0), (3, 0), (3, 0), (3, 0), (3, 0)])) harr
  have hnew := w_sto (k2 := n) (x := (5, 16, [(2, (n + 1)), (2, (n + 6)), (2, (n + 11)), (2, (n + 16)), (2, (n + 21)), (3, 0), (3, 0), (3, 0), (3, 0), (3, 0), (3, 0), (3, 0), (3, 0), (3, 0), (3, 0), (3, 0)])) (by omega) hnew
  generalize hs17 : S16.set n (5, 16, [(2, (n + 1)), (2, (n + 6)), (2, (n + 11)), (2, (n + 16)), (2, (n + 21)), (3, 0), (3, 0), (3, 0), (3, 0), (3, 0), (3, 0), (3, 0), (3, 0), (3, 0), (3, 0), (3, 0)]) = S17 at hk hg harr hnew ⊢
  refine w_iinc X dX8_init_35 rfl (v := 5) rfl rfl (Nat.le_of_ble_eq_true rfl) (by decide) (ls' := [some (.ref k), some (.ref t), some (.int 5)]) rfl ?_
  refine w_goto X dX8_init_38 (t := 15) rfl ?_
  refine w_iload_n X dX8_init_15 rfl rfl rfl ?_
  refine w_bipush X dX8_init_16 rfl cb_16 ?_
  refine w_icmp_ge X dX8_init_18 rfl (t := 41) rfl (fun hc => absurd hc (by decide)) (fun _ => ?_)
  refine w_aload_n X dX8_init_21 rfl rfl rfl ?_
  refine w_getR X dX8_init_22 rfl fl_X8_11 hk rfl ?_
  refine w_iload_n X dX8_init_25 rfl rfl rfl ?_
  refine w_newo X (ci := 6) (N := 6) (C := RX6) (T := TX6) (ty := tyX6) (fs := [(3, 0), (0, 0), (3, 0), (3, 0), (3, 0), (3, 0)]) dX8_init_26 rfl rfl wcl_6 tyX6_ok wd_230 wd_157 wd_5 (by decide +kernel) (by decide +kernel) hg.2.2.1 hg.1 (by omega) (w_rl ⟨wRf_r (by omega), wRf_r (by omega), trivial, trivial⟩ ⟨trivial, wRf_r (by omega), trivial⟩) ⟨Nat.le_of_ble_eq_true rfl, Nat.le_of_ble_eq_true rfl⟩ (fun ad12 ha12 X => ?_)
  have ha : ∀ q, (q < n ∨ 99999 ≤ q) → ad12 q = ad q := fun q hq => (ha12 q (by omega)).trans (ha q hq)
  have hnew := w_apn (x := (12, 0, [(3, 0), (0, 0), (3, 0), (3, 0), (3, 0), (3, 0)])) hg.1
  have hk := w_apk (x := (12, 0, [(3, 0), (0, 0), (3, 0), (3, 0), (3, 0), (3, 0)])) hk
  have hg : wG S (S17 ++ [(12, 0, [(3, 0), (0, 0), (3, 0), (3, 0), (3, 0), (3, 0)])]) n (n + 27) k := wG_app (t := 12) (N := 0) (fs := [(3, 0), (0, 0), (3, 0), (3, 0), (3, 0), (3, 0)]) hg (by decide)
  have harr := w_apk (x := (12, 0, [(3, 0), (0, 0), (3, 0), (3, 0), (3, 0), (3, 0)])) harr
  generalize hs18 : S17 ++ [(12, 0, [(3, 0), (0, 0), (3, 0), (3, 0), (3, 0), (3, 0)])] = S18 at hk hg harr hnew ⊢
  refine w_dup X dX8_init_29 rfl rfl ?_
  refine w_aload_n X dX8_init_30 rfl rfl rfl ?_
  refine w_callI X dX8_init_31 rfl il_X8_15 (iX6 l hg.1 hg.2.2.1 hnew (by omega) (by omega)) (As := [.ref t]) (st := [.ref (n + 26), .int 5, .ref n]) rfl rfl (w_rl ⟨wRf_r (by omega), wRf_r (by omega), trivial, trivial⟩ ⟨wRf_r (by omega), trivial, wRf_r (by omega), trivial⟩) (Nat.le_of_ble_eq_true rfl) ⟨Nat.le_of_ble_eq_true rfl, Nat.le_of_ble_eq_true rfl⟩ ⟨Nat.le_of_ble_eq_true rfl, Nat.le_of_ble_eq_true rfl⟩ (fun ad13 ha13 X => ?_)
  have ha : ∀ q, (q < n ∨ 99999 ≤ q) → ad13 q = ad q := fun q hq => (ha13 q (by omega)).trans (ha q hq)
  have hg2 : wG S18 (sX6 S18 (n + 27) (n + 26) t) (n + 27) ((n + 27) + 4) (n + 26) := gX6 hg.1 hg.2.2.1 hnew (by omega)
  have hk := (hg2.2.2.2 k (by omega) (by omega)).trans hk
  have harr := (hg2.2.2.2 _ (by omega) (by omega)).trans harr
  have hnew : (sX6 S18 (n + 27) (n + 26) t)[(n + 26)]? = some (12, 0, [(2, t), (0, 0), (2, (n + 27)), (2, ((n + 27) + 1)), (2, ((n + 27) + 2)), (2, ((n + 27) + 3))]) := qX6 hg.1 hg.2.2.1 hnew (by omega)
  have hg : wG S (sX6 S18 (n + 27) (n + 26) t) n (n + 31) k := wG_call hg hg2 (by omega)
  generalize hs19 : sX6 S18 (n + 27) (n + 26) t = S19 at hk hg harr hnew ⊢
  refine w_aastq2 X dX8_init_34 rfl (t := 5) (ci := 6) (C := RX6) (T := TX6) (N2 := 6) rfl rfl (by decide) harr hnew (j := 5) (by decide) (show wib 5 16 by decide) (by simp) (fs3 := [(2, (n + 1)), (2, (n + 6)), (2, (n + 11)), (2, (n + 16)), (2, (n + 21)), (2, (n + 26)), (3, 0), (3, 0), (3, 0), (3, 0), (3, 0), (3, 0), (3, 0), (3, 0), (3, 0), (3, 0)]) rfl ?_
  have hg : wG S (S19.set n (5, 16, [(2, (n + 1)), (2, (n + 6)), (2, (n + 11)), (2, (n + 16)), (2, (n + 21)), (2, (n + 26)), (3, 0), (3, 0), (3, 0), (3, 0), (3, 0), (3, 0), (3, 0), (3, 0), (3, 0), (3, 0)])) n (n + 31) k := wG_set2 (j := 5) (r := (n + 26)) hg harr (by omega) (Or.inr (by omega)) rfl
  have hk := w_sto (k2 := n) (x := (5, 16, [(2, (n + 1)), (2, (n + 6)), (2, (n + 11)), (2, (n + 16)), (2, (n + 21)), (2, (n + 26)), (3, 0), (3, 0), (3, 0), (3, 0), (3, 0), (3, 0), (3, 0), (3, 0), (3, 0), (3, 0)])) (by omega) hk
  have harr := w_stk (x := (5, 16, [(2, (n + 1)), (2, (n + 6)), (2, (n + 11)), (2, (n + 16)), (2, (n + 21)), (2, (n + 26)), (3, 0), (3, 0), (3, 0), (3, 0), (3, 0), (3, 0), (3, 0), (3, 0), (3, 0), (3, 0)])) harr
  have hnew := w_sto (k2 := n) (x := (5, 16, [(2, (n + 1)), (2, (n + 6)), (2, (n + 11)), (2, (n + 16)), (2, (n + 21)), (2, (n + 26)), (3, 0), (3, 0), (3, 0), (3, 0), (3, 0), (3, 0), (3, 0), (3, 0), (3, 0), (3, 0)])) (by omega) hnew
  generalize hs20 : S19.set n (5, 16, [(2, (n + 1)), (2, (n + 6)), (2, (n + 11)), (2, (n + 16)), (2, (n + 21)), (2, (n + 26)), (3, 0), (3, 0), (3, 0), (3, 0), (3, 0), (3, 0), (3, 0), (3, 0), (3, 0), (3, 0)]) = S20 at hk hg harr hnew ⊢
  refine w_iinc X dX8_init_35 rfl (v := 6) rfl rfl (Nat.le_of_ble_eq_true rfl) (by decide) (ls' := [some (.ref k), some (.ref t), some (.int 6)]) rfl ?_
  refine w_goto X dX8_init_38 (t := 15) rfl ?_
  refine w_iload_n X dX8_init_15 rfl rfl rfl ?_
  refine w_bipush X dX8_init_16 rfl cb_16 ?_
  refine w_icmp_ge X dX8_init_18 rfl (t := 41) rfl (fun hc => absurd hc (by decide)) (fun _ => ?_)
  refine w_aload_n X dX8_init_21 rfl rfl rfl ?_
  refine w_getR X dX8_init_22 rfl fl_X8_11 hk rfl ?_
  refine w_iload_n X dX8_init_25 rfl rfl rfl ?_
  refine w_newo X (ci := 6) (N := 6) (C := RX6) (T := TX6) (ty := tyX6) (fs := [(3, 0), (0, 0), (3, 0), (3, 0), (3, 0), (3, 0)]) dX8_init_26 rfl rfl wcl_6 tyX6_ok wd_230 wd_157 wd_5 (by decide +kernel) (by decide +kernel) hg.2.2.1 hg.1 (by omega) (w_rl ⟨wRf_r (by omega), wRf_r (by omega), trivial, trivial⟩ ⟨trivial, wRf_r (by omega), trivial⟩) ⟨Nat.le_of_ble_eq_true rfl, Nat.le_of_ble_eq_true rfl⟩ (fun ad14 ha14 X => ?_)
  have ha : ∀ q, (q < n ∨ 99999 ≤ q) → ad14 q = ad q := fun q hq => (ha14 q (by omega)).trans (ha q hq)
  have hnew := w_apn (x := (12, 0, [(3, 0), (0, 0), (3, 0), (3, 0), (3, 0), (3, 0)])) hg.1
  have hk := w_apk (x := (12, 0, [(3, 0), (0, 0), (3, 0), (3, 0), (3, 0), (3, 0)])) hk
  have hg : wG S (S20 ++ [(12, 0, [(3, 0), (0, 0), (3, 0), (3, 0), (3, 0), (3, 0)])]) n (n + 32) k := wG_app (t := 12) (N := 0) (fs := [(3, 0), (0, 0), (3, 0), (3, 0), (3, 0), (3, 0)]) hg (by decide)
  have harr := w_apk (x := (12, 0, [(3, 0), (0, 0), (3, 0), (3, 0), (3, 0), (3, 0)])) harr
  generalize hs21 : S20 ++ [(12, 0, [(3, 0), (0, 0), (3, 0), (3, 0), (3, 0), (3, 0)])] = S21 at hk hg harr hnew ⊢
  refine w_dup X dX8_init_29 rfl rfl ?_
  refine w_aload_n X dX8_init_30 rfl rfl rfl ?_
  refine w_callI X dX8_init_31 rfl il_X8_15 (iX6 l hg.1 hg.2.2.1 hnew (by omega) (by omega)) (As := [.ref t]) (st := [.ref (n + 31), .int 6, .ref n]) rfl rfl (w_rl ⟨wRf_r (by omega), wRf_r (by omega), trivial, trivial⟩ ⟨wRf_r (by omega), trivial, wRf_r (by omega), trivial⟩) (Nat.le_of_ble_eq_true rfl) ⟨Nat.le_of_ble_eq_true rfl, Nat.le_of_ble_eq_true rfl⟩ ⟨Nat.le_of_ble_eq_true rfl, Nat.le_of_ble_eq_true rfl⟩ (fun ad15 ha15 X => ?_)
  have ha : ∀ q, (q < n ∨ 99999 ≤ q) → ad15 q = ad q := fun q hq => (ha15 q (by omega)).trans (ha q hq)
  have hg2 : wG S21 (sX6 S21 (n + 32) (n + 31) t) (n + 32) ((n + 32) + 4) (n + 31) := gX6 hg.1 hg.2.2.1 hnew (by omega)
  have hk := (hg2.2.2.2 k (by omega) (by omega)).trans hk
  have harr := (hg2.2.2.2 _ (by omega) (by omega)).trans harr
  have hnew : (sX6 S21 (n + 32) (n + 31) t)[(n + 31)]? = some (12, 0, [(2, t), (0, 0), (2, (n + 32)), (2, ((n + 32) + 1)), (2, ((n + 32) + 2)), (2, ((n + 32) + 3))]) := qX6 hg.1 hg.2.2.1 hnew (by omega)
  have hg : wG S (sX6 S21 (n + 32) (n + 31) t) n (n + 36) k := wG_call hg hg2 (by omega)
  generalize hs22 : sX6 S21 (n + 32) (n + 31) t = S22 at hk hg harr hnew ⊢
  refine w_aastq2 X dX8_init_34 rfl (t := 5) (ci := 6) (C := RX6) (T := TX6) (N2 := 6) rfl rfl (by decide) harr hnew (j := 6) (by decide) (show wib 6 16 by decide) (by simp) (fs3 := [(2, (n + 1)), (2, (n + 6)), (2, (n + 11)), (2, (n + 16)), (2, (n + 21)), (2, (n + 26)), (2, (n + 31)), (3, 0), (3, 0), (3, 0), (3, 0), (3, 0), (3, 0), (3, 0), (3, 0), (3, 0)]) rfl ?_
  have hg : wG S (S22.set n (5, 16, [(2, (n + 1)), (2, (n + 6)), (2, (n + 11)), (2, (n + 16)), (2, (n + 21)), (2, (n + 26)), (2, (n + 31)), (3, 0), (3, 0), (3, 0), (3, 0), (3, 0), (3, 0), (3, 0), (3, 0), (3, 0)])) n (n + 36) k := wG_set2 (j := 6) (r := (n + 31)) hg harr (by omega) (Or.inr (by omega)) rfl
  have hk := w_sto (k2 := n) (x := (5, 16, [(2, (n + 1)), (2, (n + 6)), (2, (n + 11)), (2, (n + 16)), (2, (n + 21)), (2, (n + 26)), (2, (n + 31)), (3, 0), (3, 0), (3, 0), (3, 0), (3, 0), (3, 0), (3, 0), (3, 0), (3, 0)])) (by omega) hk
  have harr := w_stk (x := (5, 16, [(2, (n + 1)), (2, (n + 6)), (2, (n + 11)), (2, (n + 16)), (2, (n + 21)), (2, (n + 26)), (2, (n + 31)), (3, 0), (3, 0), (3, 0), (3, 0), (3, 0), (3, 0), (3, 0), (3, 0), (3, 0)])) harr
  have hnew := w_sto (k2 := n) (x := (5, 16, [(2, (n + 1)), (2, (n + 6)), (2, (n + 11)), (2, (n + 16)), (2, (n + 21)), (2, (n + 26)), (2, (n + 31)), (3, 0), (3, 0), (3, 0), (3, 0), (3, 0), (3, 0), (3, 0), (3, 0), (3, 0)])) (by omega) hnew
  generalize hs23 : S22.set n (5, 16, [(2, (n + 1)), (2, (n + 6)), (2, (n + 11)), (2, (n + 16)), (2, (n + 21)), (2, (n + 26)), (2, (n + 31)), (3, 0), (3, 0), (3, 0), (3, 0), (3, 0), (3, 0), (3, 0), (3, 0), (3, 0)]) = S23 at hk hg harr hnew ⊢
  refine w_iinc X dX8_init_35 rfl (v := 7) rfl rfl (Nat.le_of_ble_eq_true rfl) (by decide) (ls' := [some (.ref k), some (.ref t), some (.int 7)]) rfl ?_
  refine w_goto X dX8_init_38 (t := 15) rfl ?_
  refine w_iload_n X dX8_init_15 rfl rfl rfl ?_
  refine w_bipush X dX8_init_16 rfl cb_16 ?_
  refine w_icmp_ge X dX8_init_18 rfl (t := 41) rfl (fun hc => absurd hc (by decide)) (fun _ => ?_)
  refine w_aload_n X dX8_init_21 rfl rfl rfl ?_
  refine w_getR X dX8_init_22 rfl fl_X8_11 hk rfl ?_
  refine w_iload_n X dX8_init_25 rfl rfl rfl ?_
  refine w_newo X (ci := 6) (N := 6) (C := RX6) (T := TX6) (ty := tyX6) (fs := [(3, 0), (0, 0), (3, 0), (3, 0), (3, 0), (3, 0)]) dX8_init_26 rfl rfl wcl_6 tyX6_ok wd_230 wd_157 wd_5 (by decide +kernel) (by decide +kernel) hg.2.2.1 hg.1 (by omega) (w_rl ⟨wRf_r (by omega), wRf_r (by omega), trivial, trivial⟩ ⟨trivial, wRf_r (by omega), trivial⟩) ⟨Nat.le_of_ble_eq_true rfl, Nat.le_of_ble_eq_true rfl⟩ (fun ad16 ha16 X => ?_)
  have ha : ∀ q, (q < n ∨ 99999 ≤ q) → ad16 q = ad q := fun q hq => (ha16 q (by omega)).trans (ha q hq)
  have hnew := w_apn (x := (12, 0, [(3, 0), (0, 0), (3, 0), (3, 0), (3, 0), (3, 0)])) hg.1
  have hk := w_apk (x := (12, 0, [(3, 0), (0, 0), (3, 0), (3, 0), (3, 0), (3, 0)])) hk
  have hg : wG S (S23 ++ [(12, 0, [(3, 0), (0, 0), (3, 0), (3, 0), (3, 0), (3, 0)])]) n (n + 37) k := wG_app (t := 12) (N := 0) (fs := [(3, 0), (0, 0), (3, 0), (3, 0), (3, 0), (3, 0)]) hg (by decide)
  have harr := w_apk (x := (12, 0, [(3, 0), (0, 0), (3, 0), (3, 0), (3, 0), (3, 0)])) harr
  generalize hs24 : S23 ++ [(12, 0, [(3, 0), (0, 0), (3, 0), (3, 0), (3, 0), (3, 0)])] = S24 at hk hg harr hnew ⊢
  refine w_dup X dX8_init_29 rfl rfl ?_
  refine w_aload_n X dX8_init_30 rfl rfl rfl ?_
  refine w_callI X dX8_init_31 rfl il_X8_15 (iX6 l hg.1 hg.2.2.1 hnew (by omega) (by omega)) (As := [.ref t]) (st := [.ref (n + 36), .int 7, .ref n]) rfl rfl (w_rl ⟨wRf_r (by omega), wRf_r (by omega), trivial, trivial⟩ ⟨wRf_r (by omega), trivial, wRf_r (by omega), trivial⟩) (Nat.le_of_ble_eq_true rfl) ⟨Nat.le_of_ble_eq_true rfl, Nat.le_of_ble_eq_true rfl⟩ ⟨Nat.le_of_ble_eq_true rfl, Nat.le_of_ble_eq_true rfl⟩ (fun ad17 ha17 X => ?_)
  have ha : ∀ q, (q < n ∨ 99999 ≤ q) → ad17 q = ad q := fun q hq => (ha17 q (by omega)).trans (ha q hq)
  have hg2 : wG S24 (sX6 S24 (n + 37) (n + 36) t) (n + 37) ((n + 37) + 4) (n + 36) := gX6 hg.1 hg.2.2.1 hnew (by omega)
  have hk := (hg2.2.2.2 k (by omega) (by omega)).trans hk
  have harr := (hg2.2.2.2 _ (by omega) (by omega)).trans harr
  have hnew : (sX6 S24 (n + 37) (n + 36) t)[(n + 36)]? = some (12, 0, [(2, t), (0, 0), (2, (n + 37)), (2, ((n + 37) + 1)), (2, ((n + 37) + 2)), (2, ((n + 37) + 3))]) := qX6 hg.1 hg.2.2.1 hnew (by omega)
  have hg : wG S (sX6 S24 (n + 37) (n + 36) t) n (n + 41) k := wG_call hg hg2 (by omega)
  generalize hs25 : sX6 S24 (n + 37) (n + 36) t = S25 at hk hg harr hnew ⊢
  refine w_aastq2 X dX8_init_34 rfl (t := 5) (ci := 6) (C := RX6) (T := TX6) (N2 := 6) rfl rfl (by decide) harr hnew (j := 7) (by decide) (show wib 7 16 by decide) (by simp) (fs3 := [(2, (n + 1)), (2, (n + 6)), (2, (n + 11)), (2, (n + 16)), (2, (n + 21)), (2, (n + 26)), (2, (n + 31)), (2, (n + 36)), (3, 0), (3, 0), (3, 0), (3, 0), (3, 0), (3, 0), (3, 0), (3, 0)]) rfl ?_
  have hg : wG S (S25.set n (5, 16, [(2, (n + 1)), (2, (n + 6)), (2, (n + 11)), (2, (n + 16)), (2, (n + 21)), (2, (n + 26)), (2, (n + 31)), (2, (n + 36)), (3, 0), (3, 0), (3, 0), (3, 0), (3, 0), (3, 0), (3, 0), (3, 0)])) n (n + 41) k := wG_set2 (j := 7) (r := (n + 36)) hg harr (by omega) (Or.inr (by omega)) rfl
  have hk := w_sto (k2 := n) (x := (5, 16, [(2, (n + 1)), (2, (n + 6)), (2, (n + 11)), (2, (n + 16)), (2, (n + 21)), (2, (n + 26)), (2, (n + 31)), (2, (n + 36)), (3, 0), (3, 0), (3, 0), (3, 0), (3, 0), (3, 0), (3, 0), (3, 0)])) (by omega) hk
  have harr := w_stk (x := (5, 16, [(2, (n + 1)), (2, (n + 6)), (2, (n + 11)), (2, (n + 16)), (2, (n + 21)), (2, (n + 26)), (2, (n + 31)), (2, (n + 36)), (3, 0), (3, 0), (3, 0), (3, 0), (3, 0), (3, 0), (3, 0), (3, 0)])) harr
  have hnew := w_sto (k2 := n) (x := (5, 16, [(2, (n + 1)), (2, (n + 6)), (2, (n + 11)), (2, (n + 16)), (2, (n + 21)), (2, (n + 26)), (2, (n + 31)), (2, (n + 36)), (3, 0), (3, 0), (3, 0), (3, 0), (3, 0), (3, 0), (3, 0), (3, 0)])) (by omega) hnew
  generalize hs26 : S25.set n (5, 16, [(2, (n + 1)), (2, (n + 6)), (2, (n + 11)), (2, (n + 16)), (2, (n + 21)), (2, (n + 26)), (2, (n + 31)), (2, (n + 36)), (3, 0), (3, 0), (3, 0), (3, 0), (3, 0), (3, 0), (3, 0), (3, 0)]) = S26 at hk hg harr hnew ⊢
  refine w_iinc X dX8_init_35 rfl (v := 8) rfl rfl (Nat.le_of_ble_eq_true rfl) (by decide) (ls' := [some (.ref k), some (.ref t), some (.int 8)]) rfl ?_
  refine w_goto X dX8_init_38 (t := 15) rfl ?_
  refine w_iload_n X dX8_init_15 rfl rfl rfl ?_
  refine w_bipush X dX8_init_16 rfl cb_16 ?_
  refine w_icmp_ge X dX8_init_18 rfl (t := 41) rfl (fun hc => absurd hc (by decide)) (fun _ => ?_)
  refine w_aload_n X dX8_init_21 rfl rfl rfl ?_
  refine w_getR X dX8_init_22 rfl fl_X8_11 hk rfl ?_
  refine w_iload_n X dX8_init_25 rfl rfl rfl ?_
  refine w_newo X (ci := 6) (N := 6) (C := RX6) (T := TX6) (ty := tyX6) (fs := [(3, 0), (0, 0), (3, 0), (3, 0), (3, 0), (3, 0)]) dX8_init_26 rfl rfl wcl_6 tyX6_ok wd_230 wd_157 wd_5 (by decide +kernel) (by decide +kernel) hg.2.2.1 hg.1 (by omega) (w_rl ⟨wRf_r (by omega), wRf_r (by omega), trivial, trivial⟩ ⟨trivial, wRf_r (by omega), trivial⟩) ⟨Nat.le_of_ble_eq_true rfl, Nat.le_of_ble_eq_true rfl⟩ (fun ad18 ha18 X => ?_)
  have ha : ∀ q, (q < n ∨ 99999 ≤ q) → ad18 q = ad q := fun q hq => (ha18 q (by omega)).trans (ha q hq)
  have hnew := w_apn (x := (12, 0, [(3, 0), (0, 0), (3, 0), (3, 0), (3, 0), (3, 0)])) hg.1
  have hk := w_apk (x := (12, 0, [(3, 0), (0, 0), (3, 0), (3, 0), (3, 0), (3, 0)])) hk
  have hg : wG S (S26 ++ [(12, 0, [(3, 0), (0, 0), (3, 0), (3, 0), (3, 0), (3, 0)])]) n (n + 42) k := wG_app (t := 12) (N := 0) (fs := [(3, 0), (0, 0), (3, 0), (3, 0), (3, 0), (3, 0)]) hg (by decide)
  have harr := w_apk (x := (12, 0, [(3, 0), (0, 0), (3, 0), (3, 0), (3, 0), (3, 0)])) harr
  generalize hs27 : S26 ++ [(12, 0, [(3, 0), (0, 0), (3, 0), (3, 0), (3, 0), (3, 0)])] = S27 at hk hg harr hnew ⊢
  refine w_dup X dX8_init_29 rfl rfl ?_
  refine w_aload_n X dX8_init_30 rfl rfl rfl ?_
  refine w_callI X dX8_init_31 rfl il_X8_15 (iX6 l hg.1 hg.2.2.1 hnew (by omega) (by omega)) (As := [.ref t]) (st := [.ref (n + 41), .int 8, .ref n]) rfl rfl (w_rl ⟨wRf_r (by omega), wRf_r (by omega), trivial, trivial⟩ ⟨wRf_r (by omega), trivial, wRf_r (by omega), trivial⟩) (Nat.le_of_ble_eq_true rfl) ⟨Nat.le_of_ble_eq_true rfl, Nat.le_of_ble_eq_true rfl⟩ ⟨Nat.le_of_ble_eq_true rfl, Nat.le_of_ble_eq_true rfl⟩ (fun ad19 ha19 X => ?_)
  have ha : ∀ q, (q < n ∨ 99999 ≤ q) → ad19 q = ad q := fun q hq => (ha19 q (by omega)).trans (ha q hq)
  have hg2 : wG S27 (sX6 S27 (n + 42) (n + 41) t) (n + 42) ((n + 42) + 4) (n + 41) := gX6 hg.1 hg.2.2.1 hnew (by omega)
  have hk := (hg2.2.2.2 k (by omega) (by omega)).trans hk
  have harr := (hg2.2.2.2 _ (by omega) (by omega)).trans harr
  have hnew : (sX6 S27 (n + 42) (n + 41) t)[(n + 41)]? = some (12, 0, [(2, t), (0, 0), (2, (n + 42)), (2, ((n + 42) + 1)), (2, ((n + 42) + 2)), (2, ((n + 42) + 3))]) := qX6 hg.1 hg.2.2.1 hnew (by omega)
  have hg : wG S (sX6 S27 (n + 42) (n + 41) t) n (n + 46) k := wG_call hg hg2 (by omega)
  generalize hs28 : sX6 S27 (n + 42) (n + 41) t = S28 at hk hg harr hnew ⊢
  refine w_aastq2 X dX8_init_34 rfl (t := 5) (ci := 6) (C := RX6) (T := TX6) (N2 := 6) rfl rfl (by decide) harr hnew (j := 8) (by decide) (show wib 8 16 by decide) (by simp) (fs3 := [(2, (n + 1)), (2, (n + 6)), (2, (n + 11)), (2, (n + 16)), (2, (n + 21)), (2, (n + 26)), (2, (n + 31)), (2, (n + 36)), (2, (n + 41)), (3, 0), (3, 0), (3, 0), (3, 0), (3, 0), (3, 0), (3, 0)]) rfl ?_
  have hg : wG S (S28.set n (5, 16, [(2, (n + 1)), (2, (n + 6)), (2, (n + 11)), (2, (n + 16)), (2, (n + 21)), (2, (n + 26)), (2, (n + 31)), (2, (n + 36)), (2, (n + 41)), (3, 0), (3, 0), (3, 0), (3, 0), (3, 0), (3, 0), (3, 0)])) n (n + 46) k := wG_set2 (j := 8) (r := (n + 41)) hg harr (by omega) (Or.inr (by omega)) rfl
  have hk := w_sto (k2 := n) (x := (5, 16, [(2, (n + 1)), (2, (n + 6)), (2, (n + 11)), (2, (n + 16)), (2, (n + 21)), (2, (n + 26)), (2, (n + 31)), (2, (n + 36)), (2, (n + 41)), (3, 0), (3, 0), (3, 0), (3, 0), (3, 0), (3, 0), (3, 0)])) (by omega) hk
  have harr := w_stk (x := (5, 16, [(2, (n + 1)), (2, (n + 6)), (2, (n + 11)), (2, (n + 16)), (2, (n + 21)), (2, (n + 26)), (2, (n + 31)), (2, (n + 36)), (2, (n + 41)), (3, 0), (3, 0), (3, 0), (3, 0), (3, 0), (3, 0), (3, 0)])) harr
  have hnew := w_sto (k2 := n) (x := (5, 16, [(2, (n + 1)), (2, (n + 6)), (2, (n + 11)), (2, (n + 16)), (2, (n + 21)), (2, (n + 26)), (2, (n + 31)), (2, (n + 36)), (2, (n + 41)), (3, 0), (3, 0), (3, 0), (3, 0), (3, 0), (3, 0), (3, 0)])) (by omega) hnew
  generalize hs29 : S28.set n (5, 16, [(2, (n + 1)), (2, (n + 6)), (2, (n + 11)), (2, (n + 16)), (2, (n + 21)), (2, (n + 26)), (2, (n + 31)), (2, (n + 36)), (2, (n + 41)), (3, 0), (3, 0), (3, 0), (3, 0), (3, 0), (3, 0), (3, 0)]) = S29 at hk hg harr hnew ⊢
  refine w_iinc X dX8_init_35 rfl (v := 9) rfl rfl (Nat.le_of_ble_eq_true rfl) (by decide) (ls' := [some (.ref k), some (.ref t), some (.int 9)]) rfl ?_
  refine w_goto X dX8_init_38 (t := 15) rfl ?_
  refine w_iload_n X dX8_init_15 rfl rfl rfl ?_
  refine w_bipush X dX8_init_16 rfl cb_16 ?_
  refine w_icmp_ge X dX8_init_18 rfl (t := 41) rfl (fun hc => absurd hc (by decide)) (fun _ => ?_)
  refine w_aload_n X dX8_init_21 rfl rfl rfl ?_
  refine w_getR X dX8_init_22 rfl fl_X8_11 hk rfl ?_
  refine w_iload_n X dX8_init_25 rfl rfl rfl ?_
  refine w_newo X (ci := 6) (N := 6) (C := RX6) (T := TX6) (ty := tyX6) (fs := [(3, 0), (0, 0), (3, 0), (3, 0), (3, 0), (3, 0)]) dX8_init_26 rfl rfl wcl_6 tyX6_ok wd_230 wd_157 wd_5 (by decide +kernel) (by decide +kernel) hg.2.2.1 hg.1 (by omega) (w_rl ⟨wRf_r (by omega), wRf_r (by omega), trivial, trivial⟩ ⟨trivial, wRf_r (by omega), trivial⟩) ⟨Nat.le_of_ble_eq_true rfl, Nat.le_of_ble_eq_true rfl⟩ (fun ad20 ha20 X => ?_)
  have ha : ∀ q, (q < n ∨ 99999 ≤ q) → ad20 q = ad q := fun q hq => (ha20 q (by omega)).trans (ha q hq)
  have hnew := w_apn (x := (12, 0, [(3, 0), (0, 0), (3, 0), (3, 0), (3, 0), (3, 0)])) hg.1
  have hk := w_apk (x := (12, 0, [(3, 0), (0, 0), (3, 0), (3, 0), (3, 0), (3, 0)])) hk
  have hg : wG S (S29 ++ [(12, 0, [(3, 0), (0, 0), (3, 0), (3, 0), (3, 0), (3, 0)])]) n (n + 47) k := wG_app (t := 12) (N := 0) (fs := [(3, 0), (0, 0), (3, 0), (3, 0), (3, 0), (3, 0)]) hg (by decide)
  have harr := w_apk (x := (12, 0, [(3, 0), (0, 0), (3, 0), (3, 0), (3, 0), (3, 0)])) harr
  generalize hs30 : S29 ++ [(12, 0, [(3, 0), (0, 0), (3, 0), (3, 0), (3, 0), (3, 0)])] = S30 at hk hg harr hnew ⊢
  refine w_dup X dX8_init_29 rfl rfl ?_
  refine w_aload_n X dX8_init_30 rfl rfl rfl ?_
  refine w_callI X dX8_init_31 rfl il_X8_15 (iX6 l hg.1 hg.2.2.1 hnew (by omega) (by omega)) (As := [.ref t]) (st := [.ref (n + 46), .int 9, .ref n]) rfl rfl (w_rl ⟨wRf_r (by omega), wRf_r (by omega), trivial, trivial⟩ ⟨wRf_r (by omega), trivial, wRf_r (by omega), trivial⟩) (Nat.le_of_ble_eq_true rfl) ⟨Nat.le_of_ble_eq_true rfl, Nat.le_of_ble_eq_true rfl⟩ ⟨Nat.le_of_ble_eq_true rfl, Nat.le_of_ble_eq_true rfl⟩ (fun ad21 ha21 X => ?_)
  have ha : ∀ q, (q < n ∨ 99999 ≤ q) → ad21 q = ad q := fun q hq => (ha21 q (by omega)).trans (ha q hq)
  have hg2 : wG S30 (sX6 S30 (n + 47) (n + 46) t) (n + 47) ((n + 47) + 4) (n + 46) := gX6 hg.1 hg.2.2.1 hnew (by omega)
  have hk := (hg2.2.2.2 k (by omega) (by omega)).trans hk
  have harr := (hg2.2.2.2 _ (by omega) (by omega)).trans harr
  have hnew : (sX6 S30 (n + 47) (n + 46) t)[(n + 46)]? = some (12, 0, [(2, t), (0, 0), (2, (n + 47)), (2, ((n + 47) + 1)), (2, ((n + 47) + 2)), (2, ((n + 47) + 3))]) := qX6 hg.1 hg.2.2.1 hnew (by omega)
  have hg : wG S (sX6 S30 (n + 47) (n + 46) t) n (n + 51) k := wG_call hg hg2 (by omega)
  generalize hs31 : sX6 S30 (n + 47) (n + 46) t = S31 at hk hg harr hnew ⊢
  refine w_aastq2 X dX8_init_34 rfl (t := 5) (ci := 6) (C := RX6) (T := TX6) (N2 := 6) rfl rfl (by decide) harr hnew (j := 9) (by decide) (show wib 9 16 by decide) (by simp) (fs3 := [(2, (n + 1)), (2, (n + 6)), (2, (n + 11)), (2, (n + 16)), (2, (n + 21)), (2, (n + 26)), (2, (n + 31)), (2, (n + 36)), (2, (n + 41)), (2, (n + 46)), (3, 0), (3, 0), (3, 0), (3, 0), (3, 0), (3, 0)]) rfl ?_
  have hg : wG S (S31.set n (5, 16, [(2, (n + 1)), (2, (n + 6)), (2, (n + 11)), (2, (n + 16)), (2, (n + 21)), (2, (n + 26)), (2, (n + 31)), (2, (n + 36)), (2, (n + 41)), (2, (n + 46)), (3, 0), (3, 0), (3, 0), (3, 0), (3, 0), (3, 0)])) n (n + 51) k := wG_set2 (j := 9) (r := (n + 46)) hg harr (by omega) (Or.inr (by omega)) rfl
  have hk := w_sto (k2 := n) (x := (5, 16, [(2, (n + 1)), (2, (n + 6)), (2, (n + 11)), (2, (n + 16)), (2, (n + 21)), (2, (n + 26)), (2, (n + 31)), (2, (n + 36)), (2, (n + 41)), (2, (n + 46)), (3, 0), (3, 0), (3, 0), (3, 0), (3, 0), (3, 0)])) (by omega) hk
  have harr := w_stk (x := (5, 16, [(2, (n + 1)), (2, (n + 6)), (2, (n + 11)), (2, (n + 16)), (2, (n + 21)), (2, (n + 26)), (2, (n + 31)), (2, (n + 36)), (2, (n + 41)), (2, (n + 46)), (3, 0), (3, 0), (3, 0), (3, 0), (3, 0), (3, 0)])) harr
  have hnew := w_sto (k2 := n) (x := (5, 16, [(2, (n + 1)), (2, (n + 6)), (2, (n + 11)), (2, (n + 16)), (2, (n + 21)), (2, (n + 26)), (2, (n + 31)), (2, (n + 36)), (2, (n + 41)), (2, (n + 46)), (3, 0), (3, 0), (3, 0), (3, 0), (3, 0), (3, 0)])) (by omega) hnew
  generalize hs32 : S31.set n (5, 16, [(2, (n + 1)), (2, (n + 6)), (2, (n + 11)), (2, (n + 16)), (2, (n + 21)), (2, (n + 26)), (2, (n + 31)), (2, (n + 36)), (2, (n + 41)), (2, (n + 46)), (3, 0), (3, 0), (3, 0), (3, 0), (3, 0), (3, 0)]) = S32 at hk hg harr hnew ⊢
  refine w_iinc X dX8_init_35 rfl (v := 10) rfl rfl (Nat.le_of_ble_eq_true rfl) (by decide) (ls' := [some (.ref k), some (.ref t), some (.int 10)]) rfl ?_
  refine w_goto X dX8_init_38 (t := 15) rfl ?_
  refine w_iload_n X dX8_init_15 rfl rfl rfl ?_
  refine w_bipush X dX8_init_16 rfl cb_16 ?_
  refine w_icmp_ge X dX8_init_18 rfl (t := 41) rfl (fun hc => absurd hc (by decide)) (fun _ => ?_)
  refine w_aload_n X dX8_init_21 rfl rfl rfl ?_
  refine w_getR X dX8_init_22 rfl fl_X8_11 hk rfl ?_
  refine w_iload_n X dX8_init_25 rfl rfl rfl ?_
  refine w_newo X (ci := 6) (N := 6) (C := RX6) (T := TX6) (ty := tyX6) (fs := [(3, 0), (0, 0), (3, 0), (3, 0), (3, 0), (3, 0)]) dX8_init_26 rfl rfl wcl_6 tyX6_ok wd_230 wd_157 wd_5 (by decide +kernel) (by decide +kernel) hg.2.2.1 hg.1 (by omega) (w_rl ⟨wRf_r (by omega), wRf_r (by omega), trivial, trivial⟩ ⟨trivial, wRf_r (by omega), trivial⟩) ⟨Nat.le_of_ble_eq_true rfl, Nat.le_of_ble_eq_true rfl⟩ (fun ad22 ha22 X => ?_)
  have ha : ∀ q, (q < n ∨ 99999 ≤ q) → ad22 q = ad q := fun q hq => (ha22 q (by omega)).trans (ha q hq)
  have hnew := w_apn (x := (12, 0, [(3, 0), (0, 0), (3, 0), (3, 0), (3, 0), (3, 0)])) hg.1
  have hk := w_apk (x := (12, 0, [(3, 0), (0, 0), (3, 0), (3, 0), (3, 0), (3, 0)])) hk
  have hg : wG S (S32 ++ [(12, 0, [(3, 0), (0, 0), (3, 0), (3, 0), (3, 0), (3, 0)])]) n (n + 52) k := wG_app (t := 12) (N := 0) (fs := [(3, 0), (0, 0), (3, 0), (3, 0), (3, 0), (3, 0)]) hg (by decide)
  have harr := w_apk (x := (12, 0, [(3, 0), (0, 0), (3, 0), (3, 0), (3, 0), (3, 0)])) harr
  generalize hs33 : S32 ++ [(12, 0, [(3, 0), (0, 0), (3, 0), (3, 0), (3, 0), (3, 0)])] = S33 at hk hg harr hnew ⊢
  refine w_dup X dX8_init_29 rfl rfl ?_
  refine w_aload_n X dX8_init_30 rfl rfl rfl ?_
  refine w_callI X dX8_init_31 rfl il_X8_15 (iX6 l hg.1 hg.2.2.1 hnew (by omega) (by omega)) (As := [.ref t]) (st := [.ref (n + 51), .int 10, .ref n]) rfl rfl (w_rl ⟨wRf_r (by omega), wRf_r (by omega), trivial, trivial⟩ ⟨wRf_r (by omega), trivial, wRf_r (by omega), trivial⟩) (Nat.le_of_ble_eq_true rfl) ⟨Nat.le_of_ble_eq_true rfl, Nat.le_of_ble_eq_true rfl⟩ ⟨Nat.le_of_ble_eq_true rfl, Nat.le_of_ble_eq_true rfl⟩ (fun ad23 ha23 X => ?_)
  have ha : ∀ q, (q < n ∨ 99999 ≤ q) → ad23 q = ad q := fun q hq => (ha23 q (by omega)).trans (ha q hq)
  have hg2 : wG S33 (sX6 S33 (n + 52) (n + 51) t) (n + 52) ((n + 52) + 4) (n + 51) := gX6 hg.1 hg.2.2.1 hnew (by omega)
  have hk := (hg2.2.2.2 k (by omega) (by omega)).trans hk
  have harr := (hg2.2.2.2 _ (by omega) (by omega)).trans harr
  have hnew : (sX6 S33 (n + 52) (n + 51) t)[(n + 51)]? = some (12, 0, [(2, t), (0, 0), (2, (n + 52)), (2, ((n + 52) + 1)), (2, ((n + 52) + 2)), (2, ((n + 52) + 3))]) := qX6 hg.1 hg.2.2.1 hnew (by omega)
  have hg : wG S (sX6 S33 (n + 52) (n + 51) t) n (n + 56) k := wG_call hg hg2 (by omega)
  generalize hs34 : sX6 S33 (n + 52) (n + 51) t = S34 at hk hg harr hnew ⊢
  refine w_aastq2 X dX8_init_34 rfl (t := 5) (ci := 6) (C := RX6) (T := TX6) (N2 := 6) rfl rfl (by decide) harr hnew (j := 10) (by decide) (show wib 10 16 by decide) (by simp) (fs3 := [(2, (n + 1)), (2, (n + 6)), (2, (n + 11)), (2, (n + 16)), (2, (n + 21)), (2, (n + 26)), (2, (n + 31)), (2, (n + 36)), (2, (n + 41)), (2, (n + 46)), (2, (n + 51)), (3, 0), (3, 0), (3, 0), (3, 0), (3, 0)]) rfl ?_
  have hg : wG S (S34.set n (5, 16, [(2, (n + 1)), (2, (n + 6)), (2, (n + 11)), (2, (n + 16)), (2, (n + 21)), (2, (n + 26)), (2, (n + 31)), (2, (n + 36)), (2, (n + 41)), (2, (n + 46)), (2, (n + 51)), (3, 0), (3, 0), (3, 0), (3, 0), (3, 0)])) n (n + 56) k := wG_set2 (j := 10) (r := (n + 51)) hg harr (by omega) (Or.inr (by omega)) rfl
  have hk := w_sto (k2 := n) (x := (5, 16, [(2, (n + 1)), (2, (n + 6)), (2, (n + 11)), (2, (n + 16)), (2, (n + 21)), (2, (n + 26)), (2, (n + 31)), (2, (n + 36)), (2, (n + 41)), (2, (n + 46)), (2, (n + 51)), (3, 0), (3, 0), (3, 0), (3, 0), (3, 0)])) (by omega) hk
  have harr := w_stk (x := (5, 16, [(2, (n + 1)), (2, (n + 6)), (2, (n + 11)), (2, (n + 16)), (2, (n + 21)), (2, (n + 26)), (2, (n + 31)), (2, (n + 36)), (2, (n + 41)), (2, (n + 46)), (2, (n + 51)), (3, 0), (3, 0), (3, 0), (3, 0), (3, 0)])) harr
  have hnew := w_sto (k2 := n) (x := (5, 16, [(2, (n + 1)), (2, (n + 6)), (2, (n + 11)), (2, (n + 16)), (2, (n + 21)), (2, (n + 26)), (2, (n + 31)), (2, (n + 36)), (2, (n + 41)), (2, (n + 46)), (2, (n + 51)), (3, 0), (3, 0), (3, 0), (3, 0), (3, 0)])) (by omega) hnew
  generalize hs35 : S34.set n (5, 16, [(2, (n + 1)), (2, (n + 6)), (2, (n + 11)), (2, (n + 16)), (2, (n + 21)), (2, (n + 26)), (2, (n + 31)), (2, (n + 36)), (2, (n + 41)), (2, (n + 46)), (2, (n + 51)), (3, 0), (3, 0), (3, 0), (3, 0), (3, 0)]) = S35 at hk hg harr hnew ⊢
  refine w_iinc X dX8_init_35 rfl (v := 11) rfl rfl (Nat.le_of_ble_eq_true rfl) (by decide) (ls' := [some (.ref k), some (.ref t), some (.int 11)]) rfl ?_
  refine w_goto X dX8_init_38 (t := 15) rfl ?_
  refine w_iload_n X dX8_init_15 rfl rfl rfl ?_
  refine w_bipush X dX8_init_16 rfl cb_16 ?_
  refine w_icmp_ge X dX8_init_18 rfl (t := 41) rfl (fun hc => absurd hc (by decide)) (fun _ => ?_)
  refine w_aload_n X dX8_init_21 rfl rfl rfl ?_
  refine w_getR X dX8_init_22 rfl fl_X8_11 hk rfl ?_
  refine w_iload_n X dX8_init_25 rfl rfl rfl ?_
  refine w_newo X (ci := 6) (N := 6) (C := RX6) (T := TX6) (ty := tyX6) (fs := [(3, 0), (0, 0), (3, 0), (3, 0), (3, 0), (3, 0)]) dX8_init_26 rfl rfl wcl_6 tyX6_ok wd_230 wd_157 wd_5 (by decide +kernel) (by decide +kernel) hg.2.2.1 hg.1 (by omega) (w_rl ⟨wRf_r (by omega), wRf_r (by omega), trivial, trivial⟩ ⟨trivial, wRf_r (by omega), trivial⟩) ⟨Nat.le_of_ble_eq_true rfl, Nat.le_of_ble_eq_true rfl⟩ (fun ad24 ha24 X => ?_)
  have ha : ∀ q, (q < n ∨ 99999 ≤ q) → ad24 q = ad q := fun q hq => (ha24 q (by omega)).trans (ha q hq)
  have hnew := w_apn (x := (12, 0, [(3, 0), (0, 0), (3, 0), (3, 0), (3, 0), (3, 0)])) hg.1
  have hk := w_apk (x := (12, 0, [(3, 0), (0, 0), (3, 0), (3, 0), (3, 0), (3, 0)])) hk
  have hg : wG S (S35 ++ [(12, 0, [(3, 0), (0, 0), (3, 0), (3, 0), (3, 0), (3, 0)])]) n (n + 57) k := wG_app (t := 12) (N := 0) (fs := [(3, 0), (0, 0), (3, 0), (3, 0), (3, 0), (3, 0)]) hg (by decide)
  have harr := w_apk (x := (12, 0, [(3, 0), (0, 0), (3, 0), (3, 0), (3, 0), (3, 0)])) harr
  generalize hs36 : S35 ++ [(12, 0, [(3, 0), (0, 0), (3, 0), (3, 0), (3, 0), (3, 0)])] = S36 at hk hg harr hnew ⊢
  refine w_dup X dX8_init_29 rfl rfl ?_
  refine w_aload_n X dX8_init_30 rfl rfl rfl ?_
  refine w_callI X dX8_init_31 rfl il_X8_15 (iX6 l hg.1 hg.2.2.1 hnew (by omega) (by omega)) (As := [.ref t]) (st := [.ref (n + 56), .int 11, .ref n]) rfl rfl (w_rl ⟨wRf_r (by omega), wRf_r (by omega), trivial, trivial⟩ ⟨wRf_r (by omega), trivial, wRf_r (by omega), trivial⟩) (Nat.le_of_ble_eq_true rfl) ⟨Nat.le_of_ble_eq_true rfl, Nat.le_of_ble_eq_true rfl⟩ ⟨Nat.le_of_ble_eq_true rfl, Nat.le_of_ble_eq_true rfl⟩ (fun ad25 ha25 X => ?_)
  have ha : ∀ q, (q < n ∨ 99999 ≤ q) → ad25 q = ad q := fun q hq => (ha25 q (by omega)).trans (ha q hq)
  have hg2 : wG S36 (sX6 S36 (n + 57) (n + 56) t) (n + 57) ((n + 57) + 4) (n + 56) := gX6 hg.1 hg.2.2.1 hnew (by omega)
  have hk := (hg2.2.2.2 k (by omega) (by omega)).trans hk
  have harr := (hg2.2.2.2 _ (by omega) (by omega)).trans harr
  have hnew : (sX6 S36 (n + 57) (n + 56) t)[(n + 56)]? = some (12, 0, [(2, t), (0, 0), (2, (n + 57)), (2, ((n + 57) + 1)), (2, ((n + 57) + 2)), (2, ((n + 57) + 3))]) := qX6 hg.1 hg.2.2.1 hnew (by omega)
  have hg : wG S (sX6 S36 (n + 57) (n + 56) t) n (n + 61) k := wG_call hg hg2 (by omega)
  generalize hs37 : sX6 S36 (n + 57) (n + 56) t = S37 at hk hg harr hnew ⊢
  refine w_aastq2 X dX8_init_34 rfl (t := 5) (ci := 6) (C := RX6) (T := TX6) (N2 := 6) rfl rfl (by decide) harr hnew (j := 11) (by decide) (show wib 11 16 by decide) (by simp) (fs3 := [(2, (n + 1)), (2, (n + 6)), (2, (n + 11)), (2, (n + 16)), (2, (n + 21)), (2, (n + 26)), (2, (n + 31)), (2, (n + 36)), (2, (n + 41)), (2, (n + 46)), (2, (n + 51)), (2, (n + 56)), (3, 0), (3, 0), (3, 0), (3, 0)]) rfl ?_
  have hg : wG S (S37.set n (5, 16, [(2, (n + 1)), (2, (n + 6)), (2, (n + 11)), (2, (n + 16)), (2, (n + 21)), (2, (n + 26)), (2, (n + 31)), (2, (n + 36)), (2, (n + 41)), (2, (n + 46)), (2, (n + 51)), (2, (n + 56)), (3, 0), (3, 0), (3, 0), (3, 0)])) n (n + 61) k := wG_set2 (j := 11) (r := (n + 56)) hg harr (by omega) (Or.inr (by omega)) rfl
  have hk := w_sto (k2 := n) (x := (5, 16, [(2, (n + 1)), (2, (n + 6)), (2, (n + 11)), (2, (n + 16)), (2, (n + 21)), (2, (n + 26)), (2, (n + 31)), (2, (n + 36)), (2, (n + 41)), (2, (n + 46)), (2, (n + 51)), (2, (n + 56)), (3, 0), (3, 0), (3, 0), (3, 0)])) (by omega) hk
  have harr := w_stk (x := (5, 16, [(2, (n + 1)), (2, (n + 6)), (2, (n + 11)), (2, (n + 16)), (2, (n + 21)), (2, (n + 26)), (2, (n + 31)), (2, (n + 36)), (2, (n + 41)), (2, (n + 46)), (2, (n + 51)), (2, (n + 56)), (3, 0), (3, 0), (3, 0), (3, 0)])) harr
  have hnew := w_sto (k2 := n) (x := (5, 16, [(2, (n + 1)), (2, (n + 6)), (2, (n + 11)), (2, (n + 16)), (2, (n + 21)), (2, (n + 26)), (2, (n + 31)), (2, (n + 36)), (2, (n + 41)), (2, (n + 46)), (2, (n + 51)), (2, (n + 56)), (3, 0), (3, 0), (3, 0), (3, 0)])) (by omega) hnew
  generalize hs38 : S37.set n (5, 16, [(2, (n + 1)), (2, (n + 6)), (2, (n + 11)), (2, (n + 16)), (2, (n + 21)), (2, (n + 26)), (2, (n + 31)), (2, (n + 36)), (2, (n + 41)), (2, (n + 46)), (2, (n + 51)), (2, (n + 56)), (3, 0), (3, 0), (3, 0), (3, 0)]) = S38 at hk hg harr hnew ⊢
  refine w_iinc X dX8_init_35 rfl (v := 12) rfl rfl (Nat.le_of_ble_eq_true rfl) (by decide) (ls' := [some (.ref k), some (.ref t), some (.int 12)]) rfl ?_
  refine w_goto X dX8_init_38 (t := 15) rfl ?_
  refine w_iload_n X dX8_init_15 rfl rfl rfl ?_
  refine w_bipush X dX8_init_16 rfl cb_16 ?_
  refine w_icmp_ge X dX8_init_18 rfl (t := 41) rfl (fun hc => absurd hc (by decide)) (fun _ => ?_)
  refine w_aload_n X dX8_init_21 rfl rfl rfl ?_
  refine w_getR X dX8_init_22 rfl fl_X8_11 hk rfl ?_
  refine w_iload_n X dX8_init_25 rfl rfl rfl ?_
  refine w_newo X (ci := 6) (N := 6) (C := RX6) (T := TX6) (ty := tyX6) (fs := [(3, 0), (0, 0), (3, 0), (3, 0), (3, 0), (3, 0)]) dX8_init_26 rfl rfl wcl_6 tyX6_ok wd_230 wd_157 wd_5 (by decide +kernel) (by decide +kernel) hg.2.2.1 hg.1 (by omega) (w_rl ⟨wRf_r (by omega), wRf_r (by omega), trivial, trivial⟩ ⟨trivial, wRf_r (by omega), trivial⟩) ⟨Nat.le_of_ble_eq_true rfl, Nat.le_of_ble_eq_true rfl⟩ (fun ad26 ha26 X => ?_)
  have ha : ∀ q, (q < n ∨ 99999 ≤ q) → ad26 q = ad q := fun q hq => (ha26 q (by omega)).trans (ha q hq)
  have hnew := w_apn (x := (12, 0, [(3, 0), (0, 0), (3, 0), (3, 0), (3, 0), (3, 0)])) hg.1
  have hk := w_apk (x := (12, 0, [(3, 0), (0, 0), (3, 0), (3, 0), (3, 0), (3, 0)])) hk
  have hg : wG S (S38 ++ [(12, 0, [(3, 0), (0, 0), (3, 0), (3, 0), (3, 0), (3, 0)])]) n (n + 62) k := wG_app (t := 12) (N := 0) (fs := [(3, 0), (0, 0), (3, 0), (3, 0), (3, 0), (3, 0)]) hg (by decide)
  have harr := w_apk (x := (12, 0, [(3, 0), (0, 0), (3, 0), (3, 0), (3, 0), (3, 0)])) harr
  generalize hs39 : S38 ++ [(12, 0, [(3, 0), (0, 0), (3, 0), (3, 0), (3, 0), (3, 0)])] = S39 at hk hg harr hnew ⊢
  refine w_dup X dX8_init_29 rfl rfl ?_
  refine w_aload_n X dX8_init_30 rfl rfl rfl ?_
  refine w_callI X dX8_init_31 rfl il_X8_15 (iX6 l hg.1 hg.2.2.1 hnew (by omega) (by omega)) (As := [.ref t]) (st := [.ref (n + 61), .int 12, .ref n]) rfl rfl (w_rl ⟨wRf_r (by omega), wRf_r (by omega), trivial, trivial⟩ ⟨wRf_r (by omega), trivial, wRf_r (by omega), trivial⟩) (Nat.le_of_ble_eq_true rfl) ⟨Nat.le_of_ble_eq_true rfl, Nat.le_of_ble_eq_true rfl⟩ ⟨Nat.le_of_ble_eq_true rfl, Nat.le_of_ble_eq_true rfl⟩ (fun ad27 ha27 X => ?_)
  have ha : ∀ q, (q < n ∨ 99999 ≤ q) → ad27 q = ad q := fun q hq => (ha27 q (by omega)).trans (ha q hq)
  have hg2 : wG S39 (sX6 S39 (n + 62) (n + 61) t) (n + 62) ((n + 62) + 4) (n + 61) := gX6 hg.1 hg.2.2.1 hnew (by omega)
  have hk := (hg2.2.2.2 k (by omega) (by omega)).trans hk
  have harr := (hg2.2.2.2 _ (by omega) (by omega)).trans harr
  have hnew : (sX6 S39 (n + 62) (n + 61) t)[(n + 61)]? = some (12, 0, [(2, t), (0, 0), (2, (n + 62)), (2, ((n + 62) + 1)), (2, ((n + 62) + 2)), (2, ((n + 62) + 3))]) := qX6 hg.1 hg.2.2.1 hnew (by omega)
  have hg : wG S (sX6 S39 (n + 62) (n + 61) t) n (n + 66) k := wG_call hg hg2 (by omega)
  generalize hs40 : sX6 S39 (n + 62) (n + 61) t = S40 at hk hg harr hnew ⊢
  refine w_aastq2 X dX8_init_34 rfl (t := 5) (ci := 6) (C := RX6) (T := TX6) (N2 := 6) rfl rfl (by decide) harr hnew (j := 12) (by decide) (show wib 12 16 by decide) (by simp) (fs3 := [(2, (n + 1)), (2, (n + 6)), (2, (n + 11)), (2, (n + 16)), (2, (n + 21)), (2, (n + 26)), (2, (n + 31)), (2, (n + 36)), (2, (n + 41)), (2, (n + 46)), (2, (n + 51)), (2, (n + 56)), (2, (n + 61)), (3, 0), (3, 0), (3, 0)]) rfl ?_
  have hg : wG S (S40.set n (5, 16, [(2, (n + 1)), (2, (n + 6)), (2, (n + 11)), (2, (n + 16)), (2, (n + 21)), (2, (n + 26)), (2, (n + 31)), (2, (n + 36)), (2, (n + 41)), (2, (n + 46)), (2, (n + 51)), (2, (n + 56)), (2, (n + 61)), (3, 0), (3, 0), (3, 0)])) n (n + 66) k := wG_set2 (j := 12) (r := (n + 61)) hg harr (by omega) (Or.inr (by omega)) rfl
  have hk := w_sto (k2 := n) (x := (5, 16, [(2, (n + 1)), (2, (n + 6)), (2, (n + 11)), (2, (n + 16)), (2, (n + 21)), (2, (n + 26)), (2, (n + 31)), (2, (n + 36)), (2, (n + 41)), (2, (n + 46)), (2, (n + 51)), (2, (n + 56)), (2, (n + 61)), (3, 0), (3, 0), (3, 0)])) (by omega) hk
  have harr := w_stk (x := (5, 16, [(2, (n + 1)), (2, (n + 6)), (2, (n + 11)), (2, (n + 16)), (2, (n + 21)), (2, (n + 26)), (2, (n + 31)), (2, (n + 36)), (2, (n + 41)), (2, (n + 46)), (2, (n + 51)), (2, (n + 56)), (2, (n + 61)), (3, 0), (3, 0), (3, 0)])) harr
  have hnew := w_sto (k2 := n) (x := (5, 16, [(2, (n + 1)), (2, (n + 6)), (2, (n + 11)), (2, (n + 16)), (2, (n + 21)), (2, (n + 26)), (2, (n + 31)), (2, (n + 36)), (2, (n + 41)), (2, (n + 46)), (2, (n + 51)), (2, (n + 56)), (2, (n + 61)), (3, 0), (3, 0), (3, 0)])) (by omega) hnew
  generalize hs41 : S40.set n (5, 16, [(2, (n + 1)), (2, (n + 6)), (2, (n + 11)), (2, (n + 16)), (2, (n + 21)), (2, (n + 26)), (2, (n + 31)), (2, (n + 36)), (2, (n + 41)), (2, (n + 46)), (2, (n + 51)), (2, (n + 56)), (2, (n + 61)), (3, 0), (3, 0), (3, 0)]) = S41 at hk hg harr hnew ⊢
  refine w_iinc X dX8_init_35 rfl (v := 13) rfl rfl (Nat.le_of_ble_eq_true rfl) (by decide) (ls' := [some (.ref k), some (.ref t), some (.int 13)]) rfl ?_
  refine w_goto X dX8_init_38 (t := 15) rfl ?_
  refine w_iload_n X dX8_init_15 rfl rfl rfl ?_
  refine w_bipush X dX8_init_16 rfl cb_16 ?_
  refine w_icmp_ge X dX8_init_18 rfl (t := 41) rfl (fun hc => absurd hc (by decide)) (fun _ => ?_)
  refine w_aload_n X dX8_init_21 rfl rfl rfl ?_
  refine w_getR X dX8_init_22 rfl fl_X8_11 hk rfl ?_
  refine w_iload_n X dX8_init_25 rfl rfl rfl ?_
  refine w_newo X (ci := 6) (N := 6) (C := RX6) (T := TX6) (ty := tyX6) (fs := [(3, 0), (0, 0), (3, 0), (3, 0), (3, 0), (3, 0)]) dX8_init_26 rfl rfl wcl_6 tyX6_ok wd_230 wd_157 wd_5 (by decide +kernel) (by decide +kernel) hg.2.2.1 hg.1 (by omega) (w_rl ⟨wRf_r (by omega), wRf_r (by omega), trivial, trivial⟩ ⟨trivial, wRf_r (by omega), trivial⟩) ⟨Nat.le_of_ble_eq_true rfl, Nat.le_of_ble_eq_true rfl⟩ (fun ad28 ha28 X => ?_)
  have ha : ∀ q, (q < n ∨ 99999 ≤ q) → ad28 q = ad q := fun q hq => (ha28 q (by omega)).trans (ha q hq)
  have hnew := w_apn (x := (12, 0, [(3, 0), (0, 0), (3, 0), (3, 0), (3, 0), (3, 0)])) hg.1
  have hk := w_apk (x := (12, 0, [(3, 0), (0, 0), (3, 0), (3, 0), (3, 0), (3, 0)])) hk
  have hg : wG S (S41 ++ [(12, 0, [(3, 0), (0, 0), (3, 0), (3, 0), (3, 0), (3, 0)])]) n (n + 67) k := wG_app (t := 12) (N := 0) (fs := [(3, 0), (0, 0), (3, 0), (3, 0), (3, 0), (3, 0)]) hg (by decide)
  have harr := w_apk (x := (12, 0, [(3, 0), (0, 0), (3, 0), (3, 0), (3, 0), (3, 0)])) harr
  generalize hs42 : S41 ++ [(12, 0, [(3, 0), (0, 0), (3, 0), (3, 0), (3, 0), (3, 0)])] = S42 at hk hg harr hnew ⊢
  refine w_dup X dX8_init_29 rfl rfl ?_
  refine w_aload_n X dX8_init_30 rfl rfl rfl ?_
  refine w_callI X dX8_init_31 rfl il_X8_15 (iX6 l hg.1 hg.2.2.1 hnew (by omega) (by omega)) (As := [.ref t]) (st := [.ref (n + 66), .int 13, .ref n]) rfl rfl (w_rl ⟨wRf_r (by omega), wRf_r (by omega), trivial, trivial⟩ ⟨wRf_r (by omega), trivial, wRf_r (by omega), trivial⟩) (Nat.le_of_ble_eq_true rfl) ⟨Nat.le_of_ble_eq_true rfl, Nat.le_of_ble_eq_true rfl⟩ ⟨Nat.le_of_ble_eq_true rfl, Nat.le_of_ble_eq_true rfl⟩ (fun ad29 ha29 X => ?_)
  have ha : ∀ q, (q < n ∨ 99999 ≤ q) → ad29 q = ad q := fun q hq => (ha29 q (by omega)).trans (ha q hq)
  have hg2 : wG S42 (sX6 S42 (n + 67) (n + 66) t) (n + 67) ((n + 67) + 4) (n + 66) := gX6 hg.1 hg.2.2.1 hnew (by omega)
  have hk := (hg2.2.2.2 k (by omega) (by omega)).trans hk
  have harr := (hg2.2.2.2 _ (by omega) (by omega)).trans harr
  have hnew : (sX6 S42 (n + 67) (n + 66) t)[(n + 66)]? = some (12, 0, [(2, t), (0, 0), (2, (n + 67)), (2, ((n + 67) + 1)), (2, ((n + 67) + 2)), (2, ((n + 67) + 3))]) := qX6 hg.1 hg.2.2.1 hnew (by omega)
  have hg : wG S (sX6 S42 (n + 67) (n + 66) t) n (n + 71) k := wG_call hg hg2 (by omega)
  generalize hs43 : sX6 S42 (n + 67) (n + 66) t = S43 at hk hg harr hnew ⊢
  refine w_aastq2 X dX8_init_34 rfl (t := 5) (ci := 6) (C := RX6) (T := TX6) (N2 := 6) rfl rfl (by decide) harr hnew (j := 13) (by decide) (show wib 13 16 by decide) (by simp) (fs3 := [(2, (n + 1)), (2, (n + 6)), (2, (n + 11)), (2, (n + 16)), (2, (n + 21)), (2, (n + 26)), (2, (n + 31)), (2, (n + 36)), (2, (n + 41)), (2, (n + 46)), (2, (n + 51)), (2, (n + 56)), (2, (n + 61)), (2, (n + 66)), (3, 0), (3, 0)]) rfl ?_
  have hg : wG S (S43.set n (5, 16, [(2, (n + 1)), (2, (n + 6)), (2, (n + 11)), (2, (n + 16)), (2, (n + 21)), (2, (n + 26)), (2, (n + 31)), (2, (n + 36)), (2, (n + 41)), (2, (n + 46)), (2, (n + 51)), (2, (n + 56)), (2, (n + 61)), (2, (n + 66)), (3, 0), (3, 0)])) n (n + 71) k := wG_set2 (j := 13) (r := (n + 66)) hg harr (by omega) (Or.inr (by omega)) rfl
  have hk := w_sto (k2 := n) (x := (5, 16, [(2, (n + 1)), (2, (n + 6)), (2, (n + 11)), (2, (n + 16)), (2, (n + 21)), (2, (n + 26)), (2, (n + 31)), (2, (n + 36)), (2, (n + 41)), (2, (n + 46)), (2, (n + 51)), (2, (n + 56)), (2, (n + 61)), (2, (n + 66)), (3, 0), (3, 0)])) (by omega) hk
  have harr := w_stk (x := (5, 16, [(2, (n + 1)), (2, (n + 6)), (2, (n + 11)), (2, (n + 16)), (2, (n + 21)), (2, (n + 26)), (2, (n + 31)), (2, (n + 36)), (2, (n + 41)), (2, (n + 46)), (2, (n + 51)), (2, (n + 56)), (2, (n + 61)), (2, (n + 66)), (3, 0), (3, 0)])) harr
  have hnew := w_sto (k2 := n) (x := (5, 16, [(2, (n + 1)), (2, (n + 6)), (2, (n + 11)), (2, (n + 16)), (2, (n + 21)), (2, (n + 26)), (2, (n + 31)), (2, (n + 36)), (2, (n + 41)), (2, (n + 46)), (2, (n + 51)), (2, (n + 56)), (2, (n + 61)), (2, (n + 66)), (3, 0), (3, 0)])) (by omega) hnew
  generalize hs44 : S43.set n (5, 16, [(2, (n + 1)), (2, (n + 6)), (2, (n + 11)), (2, (n + 16)), (2, (n + 21)), (2, (n + 26)), (2, (n + 31)), (2, (n + 36)), (2, (n + 41)), (2, (n + 46)), (2, (n + 51)), (2, (n + 56)), (2, (n + 61)), (2, (n + 66)), (3, 0), (3, 0)]) = S44 at hk hg harr hnew ⊢
  refine w_iinc X dX8_init_35 rfl (v := 14) rfl rfl (Nat.le_of_ble_eq_true rfl) (by decide) (ls' := [some (.ref k), some (.ref t), some (.int 14)]) rfl ?_
  refine w_goto X dX8_init_38 (t := 15) rfl ?_
  refine w_iload_n X dX8_init_15 rfl rfl rfl ?_
  refine w_bipush X dX8_init_16 rfl cb_16 ?_
  refine w_icmp_ge X dX8_init_18 rfl (t := 41) rfl (fun hc => absurd hc (by decide)) (fun _ => ?_)
  refine w_aload_n X dX8_init_21 rfl rfl rfl ?_
  refine w_getR X dX8_init_22 rfl fl_X8_11 hk rfl ?_
  refine w_iload_n X dX8_init_25 rfl rfl rfl ?_
  refine w_newo X (ci := 6) (N := 6) (C := RX6) (T := TX6) (ty := tyX6) (fs := [(3, 0), (0, 0), (3, 0), (3, 0), (3, 0), (3, 0)]) dX8_init_26 rfl rfl wcl_6 tyX6_ok wd_230 wd_157 wd_5 (by decide +kernel) (by decide +kernel) hg.2.2.1 hg.1 (by omega) (w_rl ⟨wRf_r (by omega), wRf_r (by omega), trivial, trivial⟩ ⟨trivial, wRf_r (by omega), trivial⟩) ⟨Nat.le_of_ble_eq_true rfl, Nat.le_of_ble_eq_true rfl⟩ (fun ad30 ha30 X => ?_)
  have ha : ∀ q, (q < n ∨ 99999 ≤ q) → ad30 q = ad q := fun q hq => (ha30 q (by omega)).trans (ha q hq)
  have hnew := w_apn (x := (12, 0, [(3, 0), (0, 0), (3, 0), (3, 0), (3, 0), (3, 0)])) hg.1
  have hk := w_apk (x := (12, 0, [(3, 0), (0, 0), (3, 0), (3, 0), (3, 0), (3, 0)])) hk
  have hg : wG S (S44 ++ [(12, 0, [(3, 0), (0, 0), (3, 0), (3, 0), (3, 0), (3, 0)])]) n (n + 72) k := wG_app (t := 12) (N := 0) (fs := [(3, 0), (0, 0), (3, 0), (3, 0), (3, 0), (3, 0)]) hg (by decide)
  have harr := w_apk (x := (12, 0, [(3, 0), (0, 0), (3, 0), (3, 0), (3, 0), (3, 0)])) harr
  generalize hs45 : S44 ++ [(12, 0, [(3, 0), (0, 0), (3, 0), (3, 0), (3, 0), (3, 0)])] = S45 at hk hg harr hnew ⊢
  refine w_dup X dX8_init_29 rfl rfl ?_
  refine w_aload_n X dX8_init_30 rfl rfl rfl ?_
  refine w_callI X dX8_init_31 rfl il_X8_15 (iX6 l hg.1 hg.2.2.1 hnew (by omega) (by omega)) (As := [.ref t]) (st := [.ref (n + 71), .int 14, .ref n]) rfl rfl (w_rl ⟨wRf_r (by omega), wRf_r (by omega), trivial, trivial⟩ ⟨wRf_r (by omega), trivial, wRf_r (by omega), trivial⟩) (Nat.le_of_ble_eq_true rfl) ⟨Nat.le_of_ble_eq_true rfl, Nat.le_of_ble_eq_true rfl⟩ ⟨Nat.le_of_ble_eq_true rfl, Nat.le_of_ble_eq_true rfl⟩ (fun ad31 ha31 X => ?_)
  have ha : ∀ q, (q < n ∨ 99999 ≤ q) → ad31 q = ad q := fun q hq => (ha31 q (by omega)).trans (ha q hq)
  have hg2 : wG S45 (sX6 S45 (n + 72) (n + 71) t) (n + 72) ((n + 72) + 4) (n + 71) := gX6 hg.1 hg.2.2.1 hnew (by omega)
  have hk := (hg2.2.2.2 k (by omega) (by omega)).trans hk
  have harr := (hg2.2.2.2 _ (by omega) (by omega)).trans harr
  have hnew : (sX6 S45 (n + 72) (n + 71) t)[(n + 71)]? = some (12, 0, [(2, t), (0, 0), (2, (n + 72)), (2, ((n + 72) + 1)), (2, ((n + 72) + 2)), (2, ((n + 72) + 3))]) := qX6 hg.1 hg.2.2.1 hnew (by omega)
  have hg : wG S (sX6 S45 (n + 72) (n + 71) t) n (n + 76) k := wG_call hg hg2 (by omega)
  generalize hs46 : sX6 S45 (n + 72) (n + 71) t = S46 at hk hg harr hnew ⊢
  refine w_aastq2 X dX8_init_34 rfl (t := 5) (ci := 6) (C := RX6) (T := TX6) (N2 := 6) rfl rfl (by decide) harr hnew (j := 14) (by decide) (show wib 14 16 by decide) (by simp) (fs3 := [(2, (n + 1)), (2, (n + 6)), (2, (n + 11)), (2, (n + 16)), (2, (n + 21)), (2, (n + 26)), (2, (n + 31)), (2, (n + 36)), (2, (n + 41)), (2, (n + 46)), (2, (n + 51)), (2, (n + 56)), (2, (n + 61)), (2, (n + 66)), (2, (n + 71)), (3, 0)]) rfl ?_
  have hg : wG S (S46.set n (5, 16, [(2, (n + 1)), (2, (n + 6)), (2, (n + 11)), (2, (n + 16)), (2, (n + 21)), (2, (n + 26)), (2, (n + 31)), (2, (n + 36)), (2, (n + 41)), (2, (n + 46)), (2, (n + 51)), (2, (n + 56)), (2, (n + 61)), (2, (n + 66)), (2, (n + 71)), (3, 0)])) n (n + 76) k := wG_set2 (j := 14) (r := (n + 71)) hg harr (by omega) (Or.inr (by omega)) rfl
  have hk := w_sto (k2 := n) (x := (5, 16, [(2, (n + 1)), (2, (n + 6)), (2, (n + 11)), (2, (n + 16)), (2, (n + 21)), (2, (n + 26)), (2, (n + 31)), (2, (n + 36)), (2, (n + 41)), (2, (n + 46)), (2, (n + 51)), (2, (n + 56)), (2, (n + 61)), (2, (n + 66)), (2, (n + 71)), (3, 0)])) (by omega) hk
  have harr := w_stk (x := (5, 16, [(2, (n + 1)), (2, (n + 6)), (2, (n + 11)), (2, (n + 16)), (2, (n + 21)), (2, (n + 26)), (2, (n + 31)), (2, (n + 36)), (2, (n + 41)), (2, (n + 46)), (2, (n + 51)), (2, (n + 56)), (2, (n + 61)), (2, (n + 66)), (2, (n + 71)), (3, 0)])) harr
  have hnew := w_sto (k2 := n) (x := (5, 16, [(2, (n + 1)), (2, (n + 6)), (2, (n + 11)), (2, (n + 16)), (2, (n + 21)), (2, (n + 26)), (2, (n + 31)), (2, (n + 36)), (2, (n + 41)), (2, (n + 46)), (2, (n + 51)), (2, (n + 56)), (2, (n + 61)), (2, (n + 66)), (2, (n + 71)), (3, 0)])) (by omega) hnew
  generalize hs47 : S46.set n (5, 16, [(2, (n + 1)), (2, (n + 6)), (2, (n + 11)), (2, (n + 16)), (2, (n + 21)), (2, (n + 26)), (2, (n + 31)), (2, (n + 36)), (2, (n + 41)), (2, (n + 46)), (2, (n + 51)), (2, (n + 56)), (2, (n + 61)), (2, (n + 66)), (2, (n + 71)), (3, 0)]) = S47 at hk hg harr hnew ⊢
  refine w_iinc X dX8_init_35 rfl (v := 15) rfl rfl (Nat.le_of_ble_eq_true rfl) (by decide) (ls' := [some (.ref k), some (.ref t), some (.int 15)]) rfl ?_
  refine w_goto X dX8_init_38 (t := 15) rfl ?_
  refine w_iload_n X dX8_init_15 rfl rfl rfl ?_
  refine w_bipush X dX8_init_16 rfl cb_16 ?_
  refine w_icmp_ge X dX8_init_18 rfl (t := 41) rfl (fun hc => absurd hc (by decide)) (fun _ => ?_)
  refine w_aload_n X dX8_init_21 rfl rfl rfl ?_
  refine w_getR X dX8_init_22 rfl fl_X8_11 hk rfl ?_
  refine w_iload_n X dX8_init_25 rfl rfl rfl ?_
  refine w_newo X (ci := 6) (N := 6) (C := RX6) (T := TX6) (ty := tyX6) (fs := [(3, 0), (0, 0), (3, 0), (3, 0), (3, 0), (3, 0)]) dX8_init_26 rfl rfl wcl_6 tyX6_ok wd_230 wd_157 wd_5 (by decide +kernel) (by decide +kernel) hg.2.2.1 hg.1 (by omega) (w_rl ⟨wRf_r (by omega), wRf_r (by omega), trivial, trivial⟩ ⟨trivial, wRf_r (by omega), trivial⟩) ⟨Nat.le_of_ble_eq_true rfl, Nat.le_of_ble_eq_true rfl⟩ (fun ad32 ha32 X => ?_)
  have ha : ∀ q, (q < n ∨ 99999 ≤ q) → ad32 q = ad q := fun q hq => (ha32 q (by omega)).trans (ha q hq)
  have hnew := w_apn (x := (12, 0, [(3, 0), (0, 0), (3, 0), (3, 0), (3, 0), (3, 0)])) hg.1
  have hk := w_apk (x := (12, 0, [(3, 0), (0, 0), (3, 0), (3, 0), (3, 0), (3, 0)])) hk
  have hg : wG S (S47 ++ [(12, 0, [(3, 0), (0, 0), (3, 0), (3, 0), (3, 0), (3, 0)])]) n (n + 77) k := wG_app (t := 12) (N := 0) (fs := [(3, 0), (0, 0), (3, 0), (3, 0), (3, 0), (3, 0)]) hg (by decide)
  have harr := w_apk (x := (12, 0, [(3, 0), (0, 0), (3, 0), (3, 0), (3, 0), (3, 0)])) harr
  generalize hs48 : S47 ++ [(12, 0, [(3, 0), (0, 0), (3, 0), (3, 0), (3, 0), (3, 0)])] = S48 at hk hg harr hnew ⊢
  refine w_dup X dX8_init_29 rfl rfl ?_
  refine w_aload_n X dX8_init_30 rfl rfl rfl ?_
  refine w_callI X dX8_init_31 rfl il_X8_15 (iX6 l hg.1 hg.2.2.1 hnew (by omega) (by omega)) (As := [.ref t]) (st := [.ref (n + 76), .int 15, .ref n]) rfl rfl (w_rl ⟨wRf_r (by omega), wRf_r (by omega), trivial, trivial⟩ ⟨wRf_r (by omega), trivial, wRf_r (by omega), trivial⟩) (Nat.le_of_ble_eq_true rfl) ⟨Nat.le_of_ble_eq_true rfl, Nat.le_of_ble_eq_true rfl⟩ ⟨Nat.le_of_ble_eq_true rfl, Nat.le_of_ble_eq_true rfl⟩ (fun ad33 ha33 X => ?_)
  have ha : ∀ q, (q < n ∨ 99999 ≤ q) → ad33 q = ad q := fun q hq => (ha33 q (by omega)).trans (ha q hq)
  have hg2 : wG S48 (sX6 S48 (n + 77) (n + 76) t) (n + 77) ((n + 77) + 4) (n + 76) := gX6 hg.1 hg.2.2.1 hnew (by omega)
  have hk := (hg2.2.2.2 k (by omega) (by omega)).trans hk
  have harr := (hg2.2.2.2 _ (by omega) (by omega)).trans harr
  have hnew : (sX6 S48 (n + 77) (n + 76) t)[(n + 76)]? = some (12, 0, [(2, t), (0, 0), (2, (n + 77)), (2, ((n + 77) + 1)), (2, ((n + 77) + 2)), (2, ((n + 77) + 3))]) := qX6 hg.1 hg.2.2.1 hnew (by omega)
  have hg : wG S (sX6 S48 (n + 77) (n + 76) t) n (n + 81) k := wG_call hg hg2 (by omega)
  generalize hs49 : sX6 S48 (n + 77) (n + 76) t = S49 at hk hg harr hnew ⊢
  refine w_aastq2 X dX8_init_34 rfl (t := 5) (ci := 6) (C := RX6) (T := TX6) (N2 := 6) rfl rfl (by decide) harr hnew (j := 15) (by decide) (show wib 15 16 by decide) (by simp) (fs3 := [(2, (n + 1)), (2, (n + 6)), (2, (n + 11)), (2, (n + 16)), (2, (n + 21)), (2, (n + 26)), (2, (n + 31)), (2, (n + 36)), (2, (n + 41)), (2, (n + 46)), (2, (n + 51)), (2, (n + 56)), (2, (n + 61)), (2, (n + 66)), (2, (n + 71)), (2, (n + 76))]) rfl ?_
  have hg : wG S (S49.set n (5, 16, [(2, (n + 1)), (2, (n + 6)), (2, (n + 11)), (2, (n + 16)), (2, (n + 21)), (2, (n + 26)), (2, (n + 31)), (2, (n + 36)), (2, (n + 41)), (2, (n + 46)), (2, (n + 51)), (2, (n + 56)), (2, (n + 61)), (2, (n + 66)), (2, (n + 71)), (2, (n + 76))])) n (n + 81) k := wG_set2 (j := 15) (r := (n + 76)) hg harr (by omega) (Or.inr (by omega)) rfl
  have hk := w_sto (k2 := n) (x := (5, 16, [(2, (n + 1)), (2, (n + 6)), (2, (n + 11)), (2, (n + 16)), (2, (n + 21)), (2, (n + 26)), (2, (n + 31)), (2, (n + 36)), (2, (n + 41)), (2, (n + 46)), (2, (n + 51)), (2, (n + 56)), (2, (n + 61)), (2, (n + 66)), (2, (n + 71)), (2, (n + 76))])) (by omega) hk
  have harr := w_stk (x := (5, 16, [(2, (n + 1)), (2, (n + 6)), (2, (n + 11)), (2, (n + 16)), (2, (n + 21)), (2, (n + 26)), (2, (n + 31)), (2, (n + 36)), (2, (n + 41)), (2, (n + 46)), (2, (n + 51)), (2, (n + 56)), (2, (n + 61)), (2, (n + 66)), (2, (n + 71)), (2, (n + 76))])) harr
  have hnew := w_sto (k2 := n) (x := (5, 16, [(2, (n + 1)), (2, (n + 6)), (2, (n + 11)), (2, (n + 16)), (2, (n + 21)), (2, (n + 26)), (2, (n + 31)), (2, (n + 36)), (2, (n + 41)), (2, (n + 46)), (2, (n + 51)), (2, (n + 56)), (2, (n + 61)), (2, (n + 66)), (2, (n + 71)), (2, (n + 76))])) (by omega) hnew
  generalize hs50 : S49.set n (5, 16, [(2, (n + 1)), (2, (n + 6)), (2, (n + 11)), (2, (n + 16)), (2, (n + 21)), (2, (n + 26)), (2, (n + 31)), (2, (n + 36)), (2, (n + 41)), (2, (n + 46)), (2, (n + 51)), (2, (n + 56)), (2, (n + 61)), (2, (n + 66)), (2, (n + 71)), (2, (n + 76))]) = S50 at hk hg harr hnew ⊢
  refine w_iinc X dX8_init_35 rfl (v := 16) rfl rfl (Nat.le_of_ble_eq_true rfl) (by decide) (ls' := [some (.ref k), some (.ref t), some (.int 16)]) rfl ?_
  refine w_goto X dX8_init_38 (t := 15) rfl ?_
  refine w_iload_n X dX8_init_15 rfl rfl rfl ?_
  refine w_bipush X dX8_init_16 rfl cb_16 ?_
  refine w_icmp_ge X dX8_init_18 rfl (t := 41) rfl (fun _ => ?_) (fun hc => absurd (by decide) hc)
  subst hs1
  subst hs2
  subst hs3
  subst hs4
  subst hs5
  subst hs6
  subst hs7
  subst hs8
  subst hs9
  subst hs10
  subst hs11
  subst hs12
  subst hs13
  subst hs14
  subst hs15
  subst hs16
  subst hs17
  subst hs18
  subst hs19
  subst hs20
  subst hs21
  subst hs22
  subst hs23
  subst hs24
  subst hs25
  subst hs26
  subst hs27
  subst hs28
  subst hs29
  subst hs30
  subst hs31
  subst hs32
  subst hs33
  subst hs34
  subst hs35
  subst hs36
  subst hs37
  subst hs38
  subst hs39
  subst hs40
  subst hs41
  subst hs42
  subst hs43
  subst hs44
  subst hs45
  subst hs46
  subst hs47
  subst hs48
  subst hs49
  subst hs50
  exact w_vretI X dX8_init_41 hr ha (Nat.le_of_ble_eq_true rfl) (Nat.le_of_ble_eq_true rfl)
def sX3 (S : List wSh) (n k : Nat) (t : Nat) : List wSh := (wst (wst (wap (wst (wap (wst (wap S (0, 6, [])) k (9, 0, [(3, 0), (0, 0), (2, n), (3, 0), (0, 0), (3, 0), (0, 0)])) (0, 6, [])) k (9, 0, [(3, 0), (0, 0), (2, n), (2, (n + 1)), (0, 0), (3, 0), (0, 0)])) (0, 18, [])) k (9, 0, [(3, 0), (0, 0), (2, n), (2, (n + 1)), (0, 0), (2, (n + 2)), (0, 0)])) k (9, 0, [(2, t), (0, 0), (2, n), (2, (n + 1)), (0, 0), (2, (n + 2)), (0, 0)]))
set_option maxRecDepth 20000 in
set_option maxHeartbeats 4000000 in
theorem gqX3 {S : List wSh} {n k t : Nat} (hn : S.length = n) (hw : wWf S) (hk : S[k]? = some (9, 0, [(3, 0), (0, 0), (3, 0), (3, 0), (0, 0), (3, 0), (0, 0)])) (ht : t < n) : wG S (sX3 S n k t) n (n + 3) k ∧ (sX3 S n k t)[k]? = some (9, 0, [(2, t), (0, 0), (2, n), (2, (n + 1)), (0, 0), (2, (n + 2)), (0, 0)]) := by
  have hkl : k < n := by rw [← hn]; exact (List.getElem?_eq_some_iff.mp hk).1
  have hg : wG S S n n k := wG_rf hn hw
  have hk := w_apk (x := (0, 6, [])) hk
  have hg : wG S (S ++ [(0, 6, [])]) n (n + 1) k := wG_app (t := 0) (N := 6) (fs := []) hg (by simp)
  generalize hs1 : S ++ [(0, 6, [])] = S1 at hk hg
  have hg : wG S (S1.set k (9, 0, [(3, 0), (0, 0), (2, n), (3, 0), (0, 0), (3, 0), (0, 0)])) n (n + 1) k := wG_set2 (j := 2) (r := n) hg hk (by omega) (Or.inl rfl) rfl
  have hk := w_stk (x := (9, 0, [(3, 0), (0, 0), (2, n), (3, 0), (0, 0), (3, 0), (0, 0)])) hk
  generalize hs2 : S1.set k (9, 0, [(3, 0), (0, 0), (2, n), (3, 0), (0, 0), (3, 0), (0, 0)]) = S2 at hk hg
  have hk := w_apk (x := (0, 6, [])) hk
  have hg : wG S (S2 ++ [(0, 6, [])]) n (n + 2) k := wG_app (t := 0) (N := 6) (fs := []) hg (by simp)
  generalize hs3 : S2 ++ [(0, 6, [])] = S3 at hk hg
  have hg : wG S (S3.set k (9, 0, [(3, 0), (0, 0), (2, n), (2, (n + 1)), (0, 0), (3, 0), (0, 0)])) n (n + 2) k := wG_set2 (j := 3) (r := (n + 1)) hg hk (by omega) (Or.inl rfl) rfl
  have hk := w_stk (x := (9, 0, [(3, 0), (0, 0), (2, n), (2, (n + 1)), (0, 0), (3, 0), (0, 0)])) hk
  generalize hs4 : S3.set k (9, 0, [(3, 0), (0, 0), (2, n), (2, (n + 1)), (0, 0), (3, 0), (0, 0)]) = S4 at hk hg
  have hk := w_apk (x := (0, 18, [])) hk
  have hg : wG S (S4 ++ [(0, 18, [])]) n (n + 3) k := wG_app (t := 0) (N := 18) (fs := []) hg (by simp)
  generalize hs5 : S4 ++ [(0, 18, [])] = S5 at hk hg
  have hg : wG S (S5.set k (9, 0, [(3, 0), (0, 0), (2, n), (2, (n + 1)), (0, 0), (2, (n + 2)), (0, 0)])) n (n + 3) k := wG_set2 (j := 5) (r := (n + 2)) hg hk (by omega) (Or.inl rfl) rfl
  have hk := w_stk (x := (9, 0, [(3, 0), (0, 0), (2, n), (2, (n + 1)), (0, 0), (2, (n + 2)), (0, 0)])) hk
  generalize hs6 : S5.set k (9, 0, [(3, 0), (0, 0), (2, n), (2, (n + 1)), (0, 0), (2, (n + 2)), (0, 0)]) = S6 at hk hg
  have hg : wG S (S6.set k (9, 0, [(2, t), (0, 0), (2, n), (2, (n + 1)), (0, 0), (2, (n + 2)), (0, 0)])) n (n + 3) k := wG_set2 (j := 0) (r := t) hg hk (by omega) (Or.inl rfl) rfl
  have hk := w_stk (x := (9, 0, [(2, t), (0, 0), (2, n), (2, (n + 1)), (0, 0), (2, (n + 2)), (0, 0)])) hk
  generalize hs7 : S6.set k (9, 0, [(2, t), (0, 0), (2, n), (2, (n + 1)), (0, 0), (2, (n + 2)), (0, 0)]) = S7 at hk hg
  subst hs1
  subst hs2
  subst hs3
  subst hs4
  subst hs5
  subst hs6
  subst hs7
  exact ⟨hg, hk⟩
theorem gX3 {S : List wSh} {n k t : Nat} (hn : S.length = n) (hw : wWf S) (hk : S[k]? = some (9, 0, [(3, 0), (0, 0), (3, 0), (3, 0), (0, 0), (3, 0), (0, 0)])) (ht : t < n) : wG S (sX3 S n k t) n (n + 3) k := (gqX3 hn hw hk ht).1
theorem qX3 {S : List wSh} {n k t : Nat} (hn : S.length = n) (hw : wWf S) (hk : S[k]? = some (9, 0, [(3, 0), (0, 0), (3, 0), (3, 0), (0, 0), (3, 0), (0, 0)])) (ht : t < n) : (sX3 S n k t)[k]? = some (9, 0, [(2, t), (0, 0), (2, n), (2, (n + 1)), (0, 0), (2, (n + 2)), (0, 0)]) := (gqX3 hn hw hk ht).2
set_option maxRecDepth 20000 in
set_option maxHeartbeats 8000000 in
theorem iX3 (l : Launch) {S : List wSh} {n k t : Nat} (hn : S.length = n) (hw : wWf S) (hk : S[k]? = some (9, 0, [(3, 0), (0, 0), (3, 0), (3, 0), (0, 0), (3, 0), (0, 0)])) (hn9 : n < 90000) (ht : t < n) : wCi l yX3_init cX3_init 2 1 3 30 S n [.ref k, .ref t] (sX3 S n k t) := by
  have hkl : k < n := by rw [← hn]; exact (List.getElem?_eq_some_iff.mp hk).1
  refine w_methI 0 (by decide) (Nat.le_of_ble_eq_true rfl) (ls := [some (.ref k), some (.ref t)]) rfl ?_
  intro p e s m args below meth c D dA b0 ad X hr hin
  have hg : wG S S n n k := wG_rf hn hw
  have ha : ∀ q, (q < n ∨ 99999 ≤ q) → ad q = ad q := fun _ _ => rfl
  refine w_aload_n X dX3_init_0 rfl rfl rfl ?_
  refine w_obj X dX3_init_1 rfl wd_249 wd_31 wd_32 (Nat.le_of_ble_eq_true rfl) (Nat.le_of_ble_eq_true rfl) ?_
  refine w_aload_n X dX3_init_4 rfl rfl rfl ?_
  refine w_bipush X dX3_init_5 rfl cb_6 ?_
  refine w_newaI X dX3_init_7 rfl wd_97 (by decide) (N := 6) (by decide) (by decide) hg.2.2.1 hg.1 (by omega) (w_rl ⟨wRf_r (by omega), wRf_r (by omega), trivial⟩ ⟨wRf_r (by omega), trivial⟩) ⟨Nat.le_of_ble_eq_true rfl, Nat.le_of_ble_eq_true rfl⟩ (fun ad1 ha1 X => ?_)
  have ha : ∀ q, (q < n ∨ 99999 ≤ q) → ad1 q = ad q := fun q hq => (ha1 q (by omega)).trans (ha q hq)
  have hk := w_apk (x := (0, 6, [])) hk
  have hg : wG S (S ++ [(0, 6, [])]) n (n + 1) k := wG_app (t := 0) (N := 6) (fs := []) hg (by simp)
  generalize hs1 : S ++ [(0, 6, [])] = S1 at hk hg ⊢
  refine w_putR2 X dX3_init_9 rfl (ci := 3) (C := RX3) (T := TX3) (N := 7) (ty0 := tyX3) (ty := tyX3 2) (j := 2) rfl wcl_3 tyX3_ok nmX3 (by decide) wd_253 rfl hin rfl (by decide +kernel) (fun _ => rfl) (fun _ => rfl) hk (Nat.le_of_ble_eq_true rfl) (fs2 := [(3, 0), (0, 0), (2, n), (3, 0), (0, 0), (3, 0), (0, 0)]) rfl ?_
  have hg : wG S (S1.set k (9, 0, [(3, 0), (0, 0), (2, n), (3, 0), (0, 0), (3, 0), (0, 0)])) n (n + 1) k := wG_set2 (j := 2) (r := n) hg hk (by omega) (Or.inl rfl) rfl
  have hk := w_stk (x := (9, 0, [(3, 0), (0, 0), (2, n), (3, 0), (0, 0), (3, 0), (0, 0)])) hk
  generalize hs2 : S1.set k (9, 0, [(3, 0), (0, 0), (2, n), (3, 0), (0, 0), (3, 0), (0, 0)]) = S2 at hk hg ⊢
  refine w_aload_n X dX3_init_12 rfl rfl rfl ?_
  refine w_bipush X dX3_init_13 rfl cb_6 ?_
  refine w_newaI X dX3_init_15 rfl wd_97 (by decide) (N := 6) (by decide) (by decide) hg.2.2.1 hg.1 (by omega) (w_rl ⟨wRf_r (by omega), wRf_r (by omega), trivial⟩ ⟨wRf_r (by omega), trivial⟩) ⟨Nat.le_of_ble_eq_true rfl, Nat.le_of_ble_eq_true rfl⟩ (fun ad2 ha2 X => ?_)
  have ha : ∀ q, (q < n ∨ 99999 ≤ q) → ad2 q = ad q := fun q hq => (ha2 q (by omega)).trans (ha q hq)
  have hk := w_apk (x := (0, 6, [])) hk
  have hg : wG S (S2 ++ [(0, 6, [])]) n (n + 2) k := wG_app (t := 0) (N := 6) (fs := []) hg (by simp)
  generalize hs3 : S2 ++ [(0, 6, [])] = S3 at hk hg ⊢
  refine w_putR2 X dX3_init_17 rfl (ci := 3) (C := RX3) (T := TX3) (N := 7) (ty0 := tyX3) (ty := tyX3 3) (j := 3) rfl wcl_3 tyX3_ok nmX3 (by decide) wd_255 rfl hin rfl (by decide +kernel) (fun _ => rfl) (fun _ => rfl) hk (Nat.le_of_ble_eq_true rfl) (fs2 := [(3, 0), (0, 0), (2, n), (2, (n + 1)), (0, 0), (3, 0), (0, 0)]) rfl ?_
  have hg : wG S (S3.set k (9, 0, [(3, 0), (0, 0), (2, n), (2, (n + 1)), (0, 0), (3, 0), (0, 0)])) n (n + 2) k := wG_set2 (j := 3) (r := (n + 1)) hg hk (by omega) (Or.inl rfl) rfl
  have hk := w_stk (x := (9, 0, [(3, 0), (0, 0), (2, n), (2, (n + 1)), (0, 0), (3, 0), (0, 0)])) hk
  generalize hs4 : S3.set k (9, 0, [(3, 0), (0, 0), (2, n), (2, (n + 1)), (0, 0), (3, 0), (0, 0)]) = S4 at hk hg ⊢
  refine w_aload_n X dX3_init_20 rfl rfl rfl ?_
  refine w_bipush X dX3_init_21 rfl cb_18 ?_
  refine w_newaI X dX3_init_23 rfl wd_97 (by decide) (N := 18) (by decide) (by decide) hg.2.2.1 hg.1 (by omega) (w_rl ⟨wRf_r (by omega), wRf_r (by omega), trivial⟩ ⟨wRf_r (by omega), trivial⟩) ⟨Nat.le_of_ble_eq_true rfl, Nat.le_of_ble_eq_true rfl⟩ (fun ad3 ha3 X => ?_)
  have ha : ∀ q, (q < n ∨ 99999 ≤ q) → ad3 q = ad q := fun q hq => (ha3 q (by omega)).trans (ha q hq)
  have hk := w_apk (x := (0, 18, [])) hk
  have hg : wG S (S4 ++ [(0, 18, [])]) n (n + 3) k := wG_app (t := 0) (N := 18) (fs := []) hg (by simp)
  generalize hs5 : S4 ++ [(0, 18, [])] = S5 at hk hg ⊢
  refine w_putR2 X dX3_init_25 rfl (ci := 3) (C := RX3) (T := TX3) (N := 7) (ty0 := tyX3) (ty := tyX3 5) (j := 5) rfl wcl_3 tyX3_ok nmX3 (by decide) wd_257 rfl hin rfl (by decide +kernel) (fun _ => rfl) (fun _ => rfl) hk (Nat.le_of_ble_eq_true rfl) (fs2 := [(3, 0), (0, 0), (2, n), (2, (n + 1)), (0, 0), (2, (n + 2)), (0, 0)]) rfl ?_
  have hg : wG S (S5.set k (9, 0, [(3, 0), (0, 0), (2, n), (2, (n + 1)), (0, 0), (2, (n + 2)), (0, 0)])) n (n + 3) k := wG_set2 (j := 5) (r := (n + 2)) hg hk (by omega) (Or.inl rfl) rfl
  have hk := w_stk (x := (9, 0, [(3, 0), (0, 0), (2, n), (2, (n + 1)), (0, 0), (2, (n + 2)), (0, 0)])) hk
  generalize hs6 : S5.set k (9, 0, [(3, 0), (0, 0), (2, n), (2, (n + 1)), (0, 0), (2, (n + 2)), (0, 0)]) = S6 at hk hg ⊢
  refine w_aload_n X dX3_init_28 rfl rfl rfl ?_
  refine w_aload_n X dX3_init_29 rfl rfl rfl ?_
  refine w_putR2 X dX3_init_30 rfl (ci := 3) (C := RX3) (T := TX3) (N := 7) (ty0 := tyX3) (ty := tyX3 0) (j := 0) rfl wcl_3 tyX3_ok nmX3 (by decide) wd_250 rfl hin rfl (by decide +kernel) (fun _ => rfl) (fun _ => rfl) hk (Nat.le_of_ble_eq_true rfl) (fs2 := [(2, t), (0, 0), (2, n), (2, (n + 1)), (0, 0), (2, (n + 2)), (0, 0)]) rfl ?_
  have hg : wG S (S6.set k (9, 0, [(2, t), (0, 0), (2, n), (2, (n + 1)), (0, 0), (2, (n + 2)), (0, 0)])) n (n + 3) k := wG_set2 (j := 0) (r := t) hg hk (by omega) (Or.inl rfl) rfl
  have hk := w_stk (x := (9, 0, [(2, t), (0, 0), (2, n), (2, (n + 1)), (0, 0), (2, (n + 2)), (0, 0)])) hk
  generalize hs7 : S6.set k (9, 0, [(2, t), (0, 0), (2, n), (2, (n + 1)), (0, 0), (2, (n + 2)), (0, 0)]) = S7 at hk hg ⊢
  subst hs1
  subst hs2
  subst hs3
  subst hs4
  subst hs5
  subst hs6
  subst hs7
  exact w_vretI X dX3_init_33 hr ha (Nat.le_of_ble_eq_true rfl) (Nat.le_of_ble_eq_true rfl)
def sX10 (S : List wSh) (n k : Nat) : List wSh := (wst (sX0 (wap (wst (sX0 (wap (wst (sX0 (wap (wst (sX0 (wap (wst (wap (wst (sX1 (wap (wst (sX3 (wap (wst (sX8 (wap (wst (sX5 (wap (wst (sX9 (wap (wst (sX9 (wap (wst (sX6 (wap (wst (sX6 (wap (wst (sX4 (wap (wst (sX4 (wap (wst (sX7 (wap S (13, 0, [(3, 0), (0, 0), (0, 0), (0, 0), (0, 0), (0, 0), (1, 0), (0, 0)])) (n + 1) n ) k (16, 0, [(2, n), (3, 0), (3, 0), (3, 0), (3, 0), (3, 0), (3, 0), (3, 0), (3, 0), (3, 0), (3, 0), (3, 0)])) (10, 0, [(0, 0), (3, 0), (3, 0), (3, 0), (3, 0), (0, 0), (3, 0), (3, 0), (3, 0), (3, 0), (0, 0), (3, 0), (3, 0)])) (n + 3) (n + 2) ) k (16, 0, [(2, n), (2, (n + 2)), (3, 0), (3, 0), (3, 0), (3, 0), (3, 0), (3, 0), (3, 0), (3, 0), (3, 0), (3, 0)])) (10, 0, [(0, 0), (3, 0), (3, 0), (3, 0), (3, 0), (0, 0), (3, 0), (3, 0), (3, 0), (3, 0), (0, 0), (3, 0), (3, 0)])) (n + 16) (n + 15) ) k (16, 0, [(2, n), (2, (n + 2)), (2, (n + 15)), (3, 0), (3, 0), (3, 0), (3, 0), (3, 0), (3, 0), (3, 0), (3, 0), (3, 0)])) (12, 0, [(3, 0), (0, 0), (3, 0), (3, 0), (3, 0), (3, 0)])) (n + 29) (n + 28) (n + 2)) k (16, 0, [(2, n), (2, (n + 2)), (2, (n + 15)), (2, (n + 28)), (3, 0), (3, 0), (3, 0), (3, 0), (3, 0), (3, 0), (3, 0), (3, 0)])) (12, 0, [(3, 0), (0, 0), (3, 0), (3, 0), (3, 0), (3, 0)])) (n + 34) (n + 33) (n + 2)) k (16, 0, [(2, n), (2, (n + 2)), (2, (n + 15)), (2, (n + 28)), (2, (n + 33)), (3, 0), (3, 0), (3, 0), (3, 0), (3, 0), (3, 0), (3, 0)])) (15, 0, [(0, 0), (3, 0)])) (n + 39) (n + 38) ) k (16, 0, [(2, n), (2, (n + 2)), (2, (n + 15)), (2, (n + 28)), (2, (n + 33)), (2, (n + 38)), (3, 0), (3, 0), (3, 0), (3, 0), (3, 0), (3, 0)])) (15, 0, [(0, 0), (3, 0)])) (n + 41) (n + 40) ) k (16, 0, [(2, n), (2, (n + 2)), (2, (n + 15)), (2, (n + 28)), (2, (n + 33)), (2, (n + 38)), (2, (n + 40)), (3, 0), (3, 0), (3, 0), (3, 0), (3, 0)])) (11, 0, [(0, 0), (3, 0), (3, 0), (3, 0), (3, 0)])) (n + 43) (n + 42) ) k (16, 0, [(2, n), (2, (n + 2)), (2, (n + 15)), (2, (n + 28)), (2, (n + 33)), (2, (n + 38)), (2, (n + 40)), (2, (n + 42)), (3, 0), (3, 0), (3, 0), (3, 0)])) (14, 0, [(0, 0), (0, 0), (3, 0)])) (n + 48) (n + 47) (n + 2)) k (16, 0, [(2, n), (2, (n + 2)), (2, (n + 15)), (2, (n + 28)), (2, (n + 33)), (2, (n + 38)), (2, (n + 40)), (2, (n + 42)), (2, (n + 47)), (3, 0), (3, 0), (3, 0)])) (9, 0, [(3, 0), (0, 0), (3, 0), (3, 0), (0, 0), (3, 0), (0, 0)])) (n + 130) (n + 129) (n + 2)) k (16, 0, [(2, n), (2, (n + 2)), (2, (n + 15)), (2, (n + 28)), (2, (n + 33)), (2, (n + 38)), (2, (n + 40)), (2, (n + 42)), (2, (n + 47)), (2, (n + 129)), (3, 0), (3, 0)])) (7, 0, [(1, 0)])) (n + 134) (n + 133) ) k (16, 0, [(2, n), (2, (n + 2)), (2, (n + 15)), (2, (n + 28)), (2, (n + 33)), (2, (n + 38)), (2, (n + 40)), (2, (n + 42)), (2, (n + 47)), (2, (n + 129)), (2, (n + 133)), (3, 0)])) (4, 4, [(3, 0), (3, 0), (3, 0), (3, 0)])) k (16, 0, [(2, n), (2, (n + 2)), (2, (n + 15)), (2, (n + 28)), (2, (n + 33)), (2, (n + 38)), (2, (n + 40)), (2, (n + 42)), (2, (n + 47)), (2, (n + 129)), (2, (n + 133)), (2, (n + 134))])) (6, 0, [(0, 0), (3, 0), (3, 0), (3, 0)])) (n + 136) (n + 135) (n + 2)) (n + 134) (4, 4, [(2, (n + 135)), (3, 0), (3, 0), (3, 0)])) (6, 0, [(0, 0), (3, 0), (3, 0), (3, 0)])) (n + 149) (n + 148) (n + 2)) (n + 134) (4, 4, [(2, (n + 135)), (2, (n + 148)), (3, 0), (3, 0)])) (6, 0, [(0, 0), (3, 0), (3, 0), (3, 0)])) (n + 162) (n + 161) (n + 2)) (n + 134) (4, 4, [(2, (n + 135)), (2, (n + 148)), (2, (n + 161)), (3, 0)])) (6, 0, [(0, 0), (3, 0), (3, 0), (3, 0)])) (n + 175) (n + 174) (n + 2)) (n + 134) (4, 4, [(2, (n + 135)), (2, (n + 148)), (2, (n + 161)), (2, (n + 174))]))
set_option maxRecDepth 20000 in
set_option maxHeartbeats 4000000 in
theorem gqX10 {S : List wSh} {n k : Nat} (hn : S.length = n) (hw : wWf S) (hk : S[k]? = some (16, 0, [(3, 0), (3, 0), (3, 0), (3, 0), (3, 0), (3, 0), (3, 0), (3, 0), (3, 0), (3, 0), (3, 0), (3, 0)])) : wG S (sX10 S n k) n (n + 187) k ∧ (sX10 S n k)[k]? = some (16, 0, [(2, n), (2, (n + 2)), (2, (n + 15)), (2, (n + 28)), (2, (n + 33)), (2, (n + 38)), (2, (n + 40)), (2, (n + 42)), (2, (n + 47)), (2, (n + 129)), (2, (n + 133)), (2, (n + 134))]) := by
  have hkl : k < n := by rw [← hn]; exact (List.getElem?_eq_some_iff.mp hk).1
  have hg : wG S S n n k := wG_rf hn hw
  have hnew := w_apn (x := (13, 0, [(3, 0), (0, 0), (0, 0), (0, 0), (0, 0), (0, 0), (1, 0), (0, 0)])) hg.1
  have hk := w_apk (x := (13, 0, [(3, 0), (0, 0), (0, 0), (0, 0), (0, 0), (0, 0), (1, 0), (0, 0)])) hk
  have hg : wG S (S ++ [(13, 0, [(3, 0), (0, 0), (0, 0), (0, 0), (0, 0), (0, 0), (1, 0), (0, 0)])]) n (n + 1) k := wG_app (t := 13) (N := 0) (fs := [(3, 0), (0, 0), (0, 0), (0, 0), (0, 0), (0, 0), (1, 0), (0, 0)]) hg (by decide)
  generalize hs1 : S ++ [(13, 0, [(3, 0), (0, 0), (0, 0), (0, 0), (0, 0), (0, 0), (1, 0), (0, 0)])] = S1 at hk hg hnew
  have hg2 : wG S1 (sX7 S1 (n + 1) n ) (n + 1) ((n + 1) + 1) n := gX7 hg.1 hg.2.2.1 hnew 
  have hk := (hg2.2.2.2 k (by omega) (by omega)).trans hk
  have hnew : (sX7 S1 (n + 1) n )[n]? = some (13, 0, [(2, (n + 1)), (0, 0), (0, 0), (0, 0), (0, 0), (0, 0), (1, 0), (0, 0)]) := qX7 hg.1 hg.2.2.1 hnew 
  have hg : wG S (sX7 S1 (n + 1) n ) n (n + 2) k := wG_call hg hg2 (by omega)
  generalize hs2 : sX7 S1 (n + 1) n = S2 at hk hg hnew
  have hg : wG S (S2.set k (16, 0, [(2, n), (3, 0), (3, 0), (3, 0), (3, 0), (3, 0), (3, 0), (3, 0), (3, 0), (3, 0), (3, 0), (3, 0)])) n (n + 2) k := wG_set2 (j := 0) (r := n) hg hk (by omega) (Or.inl rfl) rfl
  have hk := w_stk (x := (16, 0, [(2, n), (3, 0), (3, 0), (3, 0), (3, 0), (3, 0), (3, 0), (3, 0), (3, 0), (3, 0), (3, 0), (3, 0)])) hk
  have hnew := w_sto (k2 := k) (x := (16, 0, [(2, n), (3, 0), (3, 0), (3, 0), (3, 0), (3, 0), (3, 0), (3, 0), (3, 0), (3, 0), (3, 0), (3, 0)])) (by omega) hnew
  generalize hs3 : S2.set k (16, 0, [(2, n), (3, 0), (3, 0), (3, 0), (3, 0), (3, 0), (3, 0), (3, 0), (3, 0), (3, 0), (3, 0), (3, 0)]) = S3 at hk hg hnew
  have hnew := w_apn (x := (10, 0, [(0, 0), (3, 0), (3, 0), (3, 0), (3, 0), (0, 0), (3, 0), (3, 0), (3, 0), (3, 0), (0, 0), (3, 0), (3, 0)])) hg.1
  have hk := w_apk (x := (10, 0, [(0, 0), (3, 0), (3, 0), (3, 0), (3, 0), (0, 0), (3, 0), (3, 0), (3, 0), (3, 0), (0, 0), (3, 0), (3, 0)])) hk
  have hg : wG S (S3 ++ [(10, 0, [(0, 0), (3, 0), (3, 0), (3, 0), (3, 0), (0, 0), (3, 0), (3, 0), (3, 0), (3, 0), (0, 0), (3, 0), (3, 0)])]) n (n + 3) k := wG_app (t := 10) (N := 0) (fs := [(0, 0), (3, 0), (3, 0), (3, 0), (3, 0), (0, 0), (3, 0), (3, 0), (3, 0), (3, 0), (0, 0), (3, 0), (3, 0)]) hg (by decide)
  generalize hs4 : S3 ++ [(10, 0, [(0, 0), (3, 0), (3, 0), (3, 0), (3, 0), (0, 0), (3, 0), (3, 0), (3, 0), (3, 0), (0, 0), (3, 0), (3, 0)])] = S4 at hk hg hnew
  have hg2 : wG S4 (sX4 S4 (n + 3) (n + 2) ) (n + 3) ((n + 3) + 12) (n + 2) := gX4 hg.1 hg.2.2.1 hnew 
  have hk := (hg2.2.2.2 k (by omega) (by omega)).trans hk
  have hnew : (sX4 S4 (n + 3) (n + 2) )[(n + 2)]? = some (10, 0, [(0, 0), (2, (n + 3)), (2, ((n + 3) + 1)), (2, ((n + 3) + 2)), (2, ((n + 3) + 3)), (0, 0), (2, ((n + 3) + 4)), (2, ((n + 3) + 5)), (2, ((n + 3) + 6)), (2, ((n + 3) + 7)), (0, 0), (2, ((n + 3) + 8)), (2, ((n + 3) + 9))]) := qX4 hg.1 hg.2.2.1 hnew 
  have hg : wG S (sX4 S4 (n + 3) (n + 2) ) n (n + 15) k := wG_call hg hg2 (by omega)
  generalize hs5 : sX4 S4 (n + 3) (n + 2) = S5 at hk hg hnew
  have hg : wG S (S5.set k (16, 0, [(2, n), (2, (n + 2)), (3, 0), (3, 0), (3, 0), (3, 0), (3, 0), (3, 0), (3, 0), (3, 0), (3, 0), (3, 0)])) n (n + 15) k := wG_set2 (j := 1) (r := (n + 2)) hg hk (by omega) (Or.inl rfl) rfl
  have hk := w_stk (x := (16, 0, [(2, n), (2, (n + 2)), (3, 0), (3, 0), (3, 0), (3, 0), (3, 0), (3, 0), (3, 0), (3, 0), (3, 0), (3, 0)])) hk
  have hnew := w_sto (k2 := k) (x := (16, 0, [(2, n), (2, (n + 2)), (3, 0), (3, 0), (3, 0), (3, 0), (3, 0), (3, 0), (3, 0), (3, 0), (3, 0), (3, 0)])) (by omega) hnew
  generalize hs6 : S5.set k (16, 0, [(2, n), (2, (n + 2)), (3, 0), (3, 0), (3, 0), (3, 0), (3, 0), (3, 0), (3, 0), (3, 0), (3, 0), (3, 0)]) = S6 at hk hg hnew
  have hnew := w_apn (x := (10, 0, [(0, 0), (3, 0), (3, 0), (3, 0), (3, 0), (0, 0), (3, 0), (3, 0), (3, 0), (3, 0), (0, 0), (3, 0), (3, 0)])) hg.1
  have hk := w_apk (x := (10, 0, [(0, 0), (3, 0), (3, 0), (3, 0), (3, 0), (0, 0), (3, 0), (3, 0), (3, 0), (3, 0), (0, 0), (3, 0), (3, 0)])) hk
  have hg : wG S (S6 ++ [(10, 0, [(0, 0), (3, 0), (3, 0), (3, 0), (3, 0), (0, 0), (3, 0), (3, 0), (3, 0), (3, 0), (0, 0), (3, 0), (3, 0)])]) n (n + 16) k := wG_app (t := 10) (N := 0) (fs := [(0, 0), (3, 0), (3, 0), (3, 0), (3, 0), (0, 0), (3, 0), (3, 0), (3, 0), (3, 0), (0, 0), (3, 0), (3, 0)]) hg (by decide)
  generalize hs7 : S6 ++ [(10, 0, [(0, 0), (3, 0), (3, 0), (3, 0), (3, 0), (0, 0), (3, 0), (3, 0), (3, 0), (3, 0), (0, 0), (3, 0), (3, 0)])] = S7 at hk hg hnew
  have hg2 : wG S7 (sX4 S7 (n + 16) (n + 15) ) (n + 16) ((n + 16) + 12) (n + 15) := gX4 hg.1 hg.2.2.1 hnew 
  have hk := (hg2.2.2.2 k (by omega) (by omega)).trans hk
  have hnew : (sX4 S7 (n + 16) (n + 15) )[(n + 15)]? = some (10, 0, [(0, 0), (2, (n + 16)), (2, ((n + 16) + 1)), (2, ((n + 16) + 2)), (2, ((n + 16) + 3)), (0, 0), (2, ((n + 16) + 4)), (2, ((n + 16) + 5)), (2, ((n + 16) + 6)), (2, ((n + 16) + 7)), (0, 0), (2, ((n + 16) + 8)), (2, ((n + 16) + 9))]) := qX4 hg.1 hg.2.2.1 hnew 
  have hg : wG S (sX4 S7 (n + 16) (n + 15) ) n (n + 28) k := wG_call hg hg2 (by omega)
  generalize hs8 : sX4 S7 (n + 16) (n + 15) = S8 at hk hg hnew
  have hg : wG S (S8.set k (16, 0, [(2, n), (2, (n + 2)), (2, (n + 15)), (3, 0), (3, 0), (3, 0), (3, 0), (3, 0), (3, 0), (3, 0), (3, 0), (3, 0)])) n (n + 28) k := wG_set2 (j := 2) (r := (n + 15)) hg hk (by omega) (Or.inl rfl) rfl
  have hk := w_stk (x := (16, 0, [(2, n), (2, (n + 2)), (2, (n + 15)), (3, 0), (3, 0), (3, 0), (3, 0), (3, 0), (3, 0), (3, 0), (3, 0), (3, 0)])) hk
  have hnew := w_sto (k2 := k) (x := (16, 0, [(2, n), (2, (n + 2)), (2, (n + 15)), (3, 0), (3, 0), (3, 0), (3, 0), (3, 0), (3, 0), (3, 0), (3, 0), (3, 0)])) (by omega) hnew
  generalize hs9 : S8.set k (16, 0, [(2, n), (2, (n + 2)), (2, (n + 15)), (3, 0), (3, 0), (3, 0), (3, 0), (3, 0), (3, 0), (3, 0), (3, 0), (3, 0)]) = S9 at hk hg hnew
  have hnew := w_apn (x := (12, 0, [(3, 0), (0, 0), (3, 0), (3, 0), (3, 0), (3, 0)])) hg.1
  have hk := w_apk (x := (12, 0, [(3, 0), (0, 0), (3, 0), (3, 0), (3, 0), (3, 0)])) hk
  have hg : wG S (S9 ++ [(12, 0, [(3, 0), (0, 0), (3, 0), (3, 0), (3, 0), (3, 0)])]) n (n + 29) k := wG_app (t := 12) (N := 0) (fs := [(3, 0), (0, 0), (3, 0), (3, 0), (3, 0), (3, 0)]) hg (by decide)
  generalize hs10 : S9 ++ [(12, 0, [(3, 0), (0, 0), (3, 0), (3, 0), (3, 0), (3, 0)])] = S10 at hk hg hnew
  have hg2 : wG S10 (sX6 S10 (n + 29) (n + 28) (n + 2)) (n + 29) ((n + 29) + 4) (n + 28) := gX6 hg.1 hg.2.2.1 hnew (by omega)
  have hk := (hg2.2.2.2 k (by omega) (by omega)).trans hk
  have hnew : (sX6 S10 (n + 29) (n + 28) (n + 2))[(n + 28)]? = some (12, 0, [(2, (n + 2)), (0, 0), (2, (n + 29)), (2, ((n + 29) + 1)), (2, ((n + 29) + 2)), (2, ((n + 29) + 3))]) := qX6 hg.1 hg.2.2.1 hnew (by omega)
  have hg : wG S (sX6 S10 (n + 29) (n + 28) (n + 2)) n (n + 33) k := wG_call hg hg2 (by omega)
  generalize hs11 : sX6 S10 (n + 29) (n + 28) (n + 2) = S11 at hk hg hnew
  have hg : wG S (S11.set k (16, 0, [(2, n), (2, (n + 2)), (2, (n + 15)), (2, (n + 28)), (3, 0), (3, 0), (3, 0), (3, 0), (3, 0), (3, 0), (3, 0), (3, 0)])) n (n + 33) k := wG_set2 (j := 3) (r := (n + 28)) hg hk (by omega) (Or.inl rfl) rfl
  have hk := w_stk (x := (16, 0, [(2, n), (2, (n + 2)), (2, (n + 15)), (2, (n + 28)), (3, 0), (3, 0), (3, 0), (3, 0), (3, 0), (3, 0), (3, 0), (3, 0)])) hk
  have hnew := w_sto (k2 := k) (x := (16, 0, [(2, n), (2, (n + 2)), (2, (n + 15)), (2, (n + 28)), (3, 0), (3, 0), (3, 0), (3, 0), (3, 0), (3, 0), (3, 0), (3, 0)])) (by omega) hnew
  generalize hs12 : S11.set k (16, 0, [(2, n), (2, (n + 2)), (2, (n + 15)), (2, (n + 28)), (3, 0), (3, 0), (3, 0), (3, 0), (3, 0), (3, 0), (3, 0), (3, 0)]) = S12 at hk hg hnew
  have hnew := w_apn (x := (12, 0, [(3, 0), (0, 0), (3, 0), (3, 0), (3, 0), (3, 0)])) hg.1
  have hk := w_apk (x := (12, 0, [(3, 0), (0, 0), (3, 0), (3, 0), (3, 0), (3, 0)])) hk
  have hg : wG S (S12 ++ [(12, 0, [(3, 0), (0, 0), (3, 0), (3, 0), (3, 0), (3, 0)])]) n (n + 34) k := wG_app (t := 12) (N := 0) (fs := [(3, 0), (0, 0), (3, 0), (3, 0), (3, 0), (3, 0)]) hg (by decide)
  generalize hs13 : S12 ++ [(12, 0, [(3, 0), (0, 0), (3, 0), (3, 0), (3, 0), (3, 0)])] = S13 at hk hg hnew
  have hg2 : wG S13 (sX6 S13 (n + 34) (n + 33) (n + 2)) (n + 34) ((n + 34) + 4) (n + 33) := gX6 hg.1 hg.2.2.1 hnew (by omega)
  have hk := (hg2.2.2.2 k (by omega) (by omega)).trans hk
  have hnew : (sX6 S13 (n + 34) (n + 33) (n + 2))[(n + 33)]? = some (12, 0, [(2, (n + 2)), (0, 0), (2, (n + 34)), (2, ((n + 34) + 1)), (2, ((n + 34) + 2)), (2, ((n + 34) + 3))]) := qX6 hg.1 hg.2.2.1 hnew (by omega)
  have hg : wG S (sX6 S13 (n + 34) (n + 33) (n + 2)) n (n + 38) k := wG_call hg hg2 (by omega)
  generalize hs14 : sX6 S13 (n + 34) (n + 33) (n + 2) = S14 at hk hg hnew
  have hg : wG S (S14.set k (16, 0, [(2, n), (2, (n + 2)), (2, (n + 15)), (2, (n + 28)), (2, (n + 33)), (3, 0), (3, 0), (3, 0), (3, 0), (3, 0), (3, 0), (3, 0)])) n (n + 38) k := wG_set2 (j := 4) (r := (n + 33)) hg hk (by omega) (Or.inl rfl) rfl
  have hk := w_stk (x := (16, 0, [(2, n), (2, (n + 2)), (2, (n + 15)), (2, (n + 28)), (2, (n + 33)), (3, 0), (3, 0), (3, 0), (3, 0), (3, 0), (3, 0), (3, 0)])) hk
  have hnew := w_sto (k2 := k) (x := (16, 0, [(2, n), (2, (n + 2)), (2, (n + 15)), (2, (n + 28)), (2, (n + 33)), (3, 0), (3, 0), (3, 0), (3, 0), (3, 0), (3, 0), (3, 0)])) (by omega) hnew
  generalize hs15 : S14.set k (16, 0, [(2, n), (2, (n + 2)), (2, (n + 15)), (2, (n + 28)), (2, (n + 33)), (3, 0), (3, 0), (3, 0), (3, 0), (3, 0), (3, 0), (3, 0)]) = S15 at hk hg hnew
  have hnew := w_apn (x := (15, 0, [(0, 0), (3, 0)])) hg.1
  have hk := w_apk (x := (15, 0, [(0, 0), (3, 0)])) hk
  have hg : wG S (S15 ++ [(15, 0, [(0, 0), (3, 0)])]) n (n + 39) k := wG_app (t := 15) (N := 0) (fs := [(0, 0), (3, 0)]) hg (by decide)
  generalize hs16 : S15 ++ [(15, 0, [(0, 0), (3, 0)])] = S16 at hk hg hnew
  have hg2 : wG S16 (sX9 S16 (n + 39) (n + 38) ) (n + 39) ((n + 39) + 1) (n + 38) := gX9 hg.1 hg.2.2.1 hnew 
  have hk := (hg2.2.2.2 k (by omega) (by omega)).trans hk
  have hnew : (sX9 S16 (n + 39) (n + 38) )[(n + 38)]? = some (15, 0, [(0, 0), (2, (n + 39))]) := qX9 hg.1 hg.2.2.1 hnew 
  have hg : wG S (sX9 S16 (n + 39) (n + 38) ) n (n + 40) k := wG_call hg hg2 (by omega)
  generalize hs17 : sX9 S16 (n + 39) (n + 38) = S17 at hk hg hnew
  have hg : wG S (S17.set k (16, 0, [(2, n), (2, (n + 2)), (2, (n + 15)), (2, (n + 28)), (2, (n + 33)), (2, (n + 38)), (3, 0), (3, 0), (3, 0), (3, 0), (3, 0), (3, 0)])) n (n + 40) k := wG_set2 (j := 5) (r := (n + 38)) hg hk (by omega) (Or.inl rfl) rfl
  have hk := w_stk (x := (16, 0, [(2, n), (2, (n + 2)), (2, (n + 15)), (2, (n + 28)), (2, (n + 33)), (2, (n + 38)), (3, 0), (3, 0), (3, 0), (3, 0), (3, 0), (3, 0)])) hk
  have hnew := w_sto (k2 := k) (x := (16, 0, [(2, n), (2, (n + 2)), (2, (n + 15)), (2, (n + 28)), (2, (n + 33)), (2, (n + 38)), (3, 0), (3, 0), (3, 0), (3, 0), (3, 0), (3, 0)])) (by omega) hnew
  generalize hs18 : S17.set k (16, 0, [(2, n), (2, (n + 2)), (2, (n + 15)), (2, (n + 28)), (2, (n + 33)), (2, (n + 38)), (3, 0), (3, 0), (3, 0), (3, 0), (3, 0), (3, 0)]) = S18 at hk hg hnew
  have hnew := w_apn (x := (15, 0, [(0, 0), (3, 0)])) hg.1
  have hk := w_apk (x := (15, 0, [(0, 0), (3, 0)])) hk
  have hg : wG S (S18 ++ [(15, 0, [(0, 0), (3, 0)])]) n (n + 41) k := wG_app (t := 15) (N := 0) (fs := [(0, 0), (3, 0)]) hg (by decide)
  generalize hs19 : S18 ++ [(15, 0, [(0, 0), (3, 0)])] = S19 at hk hg hnew
  have hg2 : wG S19 (sX9 S19 (n + 41) (n + 40) ) (n + 41) ((n + 41) + 1) (n + 40) := gX9 hg.1 hg.2.2.1 hnew 
  have hk := (hg2.2.2.2 k (by omega) (by omega)).trans hk
  have hnew : (sX9 S19 (n + 41) (n + 40) )[(n + 40)]? = some (15, 0, [(0, 0), (2, (n + 41))]) := qX9 hg.1 hg.2.2.1 hnew 
  have hg : wG S (sX9 S19 (n + 41) (n + 40) ) n (n + 42) k := wG_call hg hg2 (by omega)
  generalize hs20 : sX9 S19 (n + 41) (n + 40) = S20 at hk hg hnew
  have hg : wG S (S20.set k (16, 0, [(2, n), (2, (n + 2)), (2, (n + 15)), (2, (n + 28)), (2, (n + 33)), (2, (n + 38)), (2, (n + 40)), (3, 0), (3, 0), (3, 0), (3, 0), (3, 0)])) n (n + 42) k := wG_set2 (j := 6) (r := (n + 40)) hg hk (by omega) (Or.inl rfl) rfl
  have hk := w_stk (x := (16, 0, [(2, n), (2, (n + 2)), (2, (n + 15)), (2, (n + 28)), (2, (n + 33)), (2, (n + 38)), (2, (n + 40)), (3, 0), (3, 0), (3, 0), (3, 0), (3, 0)])) hk
  have hnew := w_sto (k2 := k) (x := (16, 0, [(2, n), (2, (n + 2)), (2, (n + 15)), (2, (n + 28)), (2, (n + 33)), (2, (n + 38)), (2, (n + 40)), (3, 0), (3, 0), (3, 0), (3, 0), (3, 0)])) (by omega) hnew
  generalize hs21 : S20.set k (16, 0, [(2, n), (2, (n + 2)), (2, (n + 15)), (2, (n + 28)), (2, (n + 33)), (2, (n + 38)), (2, (n + 40)), (3, 0), (3, 0), (3, 0), (3, 0), (3, 0)]) = S21 at hk hg hnew
  have hnew := w_apn (x := (11, 0, [(0, 0), (3, 0), (3, 0), (3, 0), (3, 0)])) hg.1
  have hk := w_apk (x := (11, 0, [(0, 0), (3, 0), (3, 0), (3, 0), (3, 0)])) hk
  have hg : wG S (S21 ++ [(11, 0, [(0, 0), (3, 0), (3, 0), (3, 0), (3, 0)])]) n (n + 43) k := wG_app (t := 11) (N := 0) (fs := [(0, 0), (3, 0), (3, 0), (3, 0), (3, 0)]) hg (by decide)
  generalize hs22 : S21 ++ [(11, 0, [(0, 0), (3, 0), (3, 0), (3, 0), (3, 0)])] = S22 at hk hg hnew
  have hg2 : wG S22 (sX5 S22 (n + 43) (n + 42) ) (n + 43) ((n + 43) + 4) (n + 42) := gX5 hg.1 hg.2.2.1 hnew 
  have hk := (hg2.2.2.2 k (by omega) (by omega)).trans hk
  have hnew : (sX5 S22 (n + 43) (n + 42) )[(n + 42)]? = some (11, 0, [(0, 0), (2, (n + 43)), (2, ((n + 43) + 1)), (2, ((n + 43) + 2)), (2, ((n + 43) + 3))]) := qX5 hg.1 hg.2.2.1 hnew 
  have hg : wG S (sX5 S22 (n + 43) (n + 42) ) n (n + 47) k := wG_call hg hg2 (by omega)
  generalize hs23 : sX5 S22 (n + 43) (n + 42) = S23 at hk hg hnew
  have hg : wG S (S23.set k (16, 0, [(2, n), (2, (n + 2)), (2, (n + 15)), (2, (n + 28)), (2, (n + 33)), (2, (n + 38)), (2, (n + 40)), (2, (n + 42)), (3, 0), (3, 0), (3, 0), (3, 0)])) n (n + 47) k := wG_set2 (j := 7) (r := (n + 42)) hg hk (by omega) (Or.inl rfl) rfl
  have hk := w_stk (x := (16, 0, [(2, n), (2, (n + 2)), (2, (n + 15)), (2, (n + 28)), (2, (n + 33)), (2, (n + 38)), (2, (n + 40)), (2, (n + 42)), (3, 0), (3, 0), (3, 0), (3, 0)])) hk
  have hnew := w_sto (k2 := k) (x := (16, 0, [(2, n), (2, (n + 2)), (2, (n + 15)), (2, (n + 28)), (2, (n + 33)), (2, (n + 38)), (2, (n + 40)), (2, (n + 42)), (3, 0), (3, 0), (3, 0), (3, 0)])) (by omega) hnew
  generalize hs24 : S23.set k (16, 0, [(2, n), (2, (n + 2)), (2, (n + 15)), (2, (n + 28)), (2, (n + 33)), (2, (n + 38)), (2, (n + 40)), (2, (n + 42)), (3, 0), (3, 0), (3, 0), (3, 0)]) = S24 at hk hg hnew
  have hnew := w_apn (x := (14, 0, [(0, 0), (0, 0), (3, 0)])) hg.1
  have hk := w_apk (x := (14, 0, [(0, 0), (0, 0), (3, 0)])) hk
  have hg : wG S (S24 ++ [(14, 0, [(0, 0), (0, 0), (3, 0)])]) n (n + 48) k := wG_app (t := 14) (N := 0) (fs := [(0, 0), (0, 0), (3, 0)]) hg (by decide)
  generalize hs25 : S24 ++ [(14, 0, [(0, 0), (0, 0), (3, 0)])] = S25 at hk hg hnew
  have hg2 : wG S25 (sX8 S25 (n + 48) (n + 47) (n + 2)) (n + 48) ((n + 48) + 81) (n + 47) := gX8 hg.1 hg.2.2.1 hnew (by omega)
  have hk := (hg2.2.2.2 k (by omega) (by omega)).trans hk
  have hnew : (sX8 S25 (n + 48) (n + 47) (n + 2))[(n + 47)]? = some (14, 0, [(0, 0), (0, 0), (2, (n + 48))]) := qX8 hg.1 hg.2.2.1 hnew (by omega)
  have hg : wG S (sX8 S25 (n + 48) (n + 47) (n + 2)) n (n + 129) k := wG_call hg hg2 (by omega)
  generalize hs26 : sX8 S25 (n + 48) (n + 47) (n + 2) = S26 at hk hg hnew
  have hg : wG S (S26.set k (16, 0, [(2, n), (2, (n + 2)), (2, (n + 15)), (2, (n + 28)), (2, (n + 33)), (2, (n + 38)), (2, (n + 40)), (2, (n + 42)), (2, (n + 47)), (3, 0), (3, 0), (3, 0)])) n (n + 129) k := wG_set2 (j := 8) (r := (n + 47)) hg hk (by omega) (Or.inl rfl) rfl
  have hk := w_stk (x := (16, 0, [(2, n), (2, (n + 2)), (2, (n + 15)), (2, (n + 28)), (2, (n + 33)), (2, (n + 38)), (2, (n + 40)), (2, (n + 42)), (2, (n + 47)), (3, 0), (3, 0), (3, 0)])) hk
  have hnew := w_sto (k2 := k) (x := (16, 0, [(2, n), (2, (n + 2)), (2, (n + 15)), (2, (n + 28)), (2, (n + 33)), (2, (n + 38)), (2, (n + 40)), (2, (n + 42)), (2, (n + 47)), (3, 0), (3, 0), (3, 0)])) (by omega) hnew
  generalize hs27 : S26.set k (16, 0, [(2, n), (2, (n + 2)), (2, (n + 15)), (2, (n + 28)), (2, (n + 33)), (2, (n + 38)), (2, (n + 40)), (2, (n + 42)), (2, (n + 47)), (3, 0), (3, 0), (3, 0)]) = S27 at hk hg hnew
  have hnew := w_apn (x := (9, 0, [(3, 0), (0, 0), (3, 0), (3, 0), (0, 0), (3, 0), (0, 0)])) hg.1
  have hk := w_apk (x := (9, 0, [(3, 0), (0, 0), (3, 0), (3, 0), (0, 0), (3, 0), (0, 0)])) hk
  have hg : wG S (S27 ++ [(9, 0, [(3, 0), (0, 0), (3, 0), (3, 0), (0, 0), (3, 0), (0, 0)])]) n (n + 130) k := wG_app (t := 9) (N := 0) (fs := [(3, 0), (0, 0), (3, 0), (3, 0), (0, 0), (3, 0), (0, 0)]) hg (by decide)
  generalize hs28 : S27 ++ [(9, 0, [(3, 0), (0, 0), (3, 0), (3, 0), (0, 0), (3, 0), (0, 0)])] = S28 at hk hg hnew
  have hg2 : wG S28 (sX3 S28 (n + 130) (n + 129) (n + 2)) (n + 130) ((n + 130) + 3) (n + 129) := gX3 hg.1 hg.2.2.1 hnew (by omega)
  have hk := (hg2.2.2.2 k (by omega) (by omega)).trans hk
  have hnew : (sX3 S28 (n + 130) (n + 129) (n + 2))[(n + 129)]? = some (9, 0, [(2, (n + 2)), (0, 0), (2, (n + 130)), (2, ((n + 130) + 1)), (0, 0), (2, ((n + 130) + 2)), (0, 0)]) := qX3 hg.1 hg.2.2.1 hnew (by omega)
  have hg : wG S (sX3 S28 (n + 130) (n + 129) (n + 2)) n (n + 133) k := wG_call hg hg2 (by omega)
  generalize hs29 : sX3 S28 (n + 130) (n + 129) (n + 2) = S29 at hk hg hnew
  have hg : wG S (S29.set k (16, 0, [(2, n), (2, (n + 2)), (2, (n + 15)), (2, (n + 28)), (2, (n + 33)), (2, (n + 38)), (2, (n + 40)), (2, (n + 42)), (2, (n + 47)), (2, (n + 129)), (3, 0), (3, 0)])) n (n + 133) k := wG_set2 (j := 9) (r := (n + 129)) hg hk (by omega) (Or.inl rfl) rfl
  have hk := w_stk (x := (16, 0, [(2, n), (2, (n + 2)), (2, (n + 15)), (2, (n + 28)), (2, (n + 33)), (2, (n + 38)), (2, (n + 40)), (2, (n + 42)), (2, (n + 47)), (2, (n + 129)), (3, 0), (3, 0)])) hk
  have hnew := w_sto (k2 := k) (x := (16, 0, [(2, n), (2, (n + 2)), (2, (n + 15)), (2, (n + 28)), (2, (n + 33)), (2, (n + 38)), (2, (n + 40)), (2, (n + 42)), (2, (n + 47)), (2, (n + 129)), (3, 0), (3, 0)])) (by omega) hnew
  generalize hs30 : S29.set k (16, 0, [(2, n), (2, (n + 2)), (2, (n + 15)), (2, (n + 28)), (2, (n + 33)), (2, (n + 38)), (2, (n + 40)), (2, (n + 42)), (2, (n + 47)), (2, (n + 129)), (3, 0), (3, 0)]) = S30 at hk hg hnew
  have hnew := w_apn (x := (7, 0, [(1, 0)])) hg.1
  have hk := w_apk (x := (7, 0, [(1, 0)])) hk
  have hg : wG S (S30 ++ [(7, 0, [(1, 0)])]) n (n + 134) k := wG_app (t := 7) (N := 0) (fs := [(1, 0)]) hg (by decide)
  generalize hs31 : S30 ++ [(7, 0, [(1, 0)])] = S31 at hk hg hnew
  have hg2 : wG S31 (sX1 S31 (n + 134) (n + 133) ) (n + 134) ((n + 134) + 0) (n + 133) := gX1 hg.1 hg.2.2.1 hnew 
  have hk := (hg2.2.2.2 k (by omega) (by omega)).trans hk
  have hnew : (sX1 S31 (n + 134) (n + 133) )[(n + 133)]? = some (7, 0, [(1, 0)]) := qX1 hg.1 hg.2.2.1 hnew 
  have hg : wG S (sX1 S31 (n + 134) (n + 133) ) n (n + 134) k := wG_call hg hg2 (by omega)
  generalize hs32 : sX1 S31 (n + 134) (n + 133) = S32 at hk hg hnew
  have hg : wG S (S32.set k (16, 0, [(2, n), (2, (n + 2)), (2, (n + 15)), (2, (n + 28)), (2, (n + 33)), (2, (n + 38)), (2, (n + 40)), (2, (n + 42)), (2, (n + 47)), (2, (n + 129)), (2, (n + 133)), (3, 0)])) n (n + 134) k := wG_set2 (j := 10) (r := (n + 133)) hg hk (by omega) (Or.inl rfl) rfl
  have hk := w_stk (x := (16, 0, [(2, n), (2, (n + 2)), (2, (n + 15)), (2, (n + 28)), (2, (n + 33)), (2, (n + 38)), (2, (n + 40)), (2, (n + 42)), (2, (n + 47)), (2, (n + 129)), (2, (n + 133)), (3, 0)])) hk
  have hnew := w_sto (k2 := k) (x := (16, 0, [(2, n), (2, (n + 2)), (2, (n + 15)), (2, (n + 28)), (2, (n + 33)), (2, (n + 38)), (2, (n + 40)), (2, (n + 42)), (2, (n + 47)), (2, (n + 129)), (2, (n + 133)), (3, 0)])) (by omega) hnew
  generalize hs33 : S32.set k (16, 0, [(2, n), (2, (n + 2)), (2, (n + 15)), (2, (n + 28)), (2, (n + 33)), (2, (n + 38)), (2, (n + 40)), (2, (n + 42)), (2, (n + 47)), (2, (n + 129)), (2, (n + 133)), (3, 0)]) = S33 at hk hg hnew
  have harr := w_apn (x := (4, 4, [(3, 0), (3, 0), (3, 0), (3, 0)])) hg.1
  have hk := w_apk (x := (4, 4, [(3, 0), (3, 0), (3, 0), (3, 0)])) hk
  have hg : wG S (S33 ++ [(4, 4, [(3, 0), (3, 0), (3, 0), (3, 0)])]) n (n + 135) k := wG_app (t := 4) (N := 4) (fs := [(3, 0), (3, 0), (3, 0), (3, 0)]) hg (by decide)
  have hnew := w_apk (x := (4, 4, [(3, 0), (3, 0), (3, 0), (3, 0)])) hnew
  generalize hs34 : S33 ++ [(4, 4, [(3, 0), (3, 0), (3, 0), (3, 0)])] = S34 at hk hg harr hnew
  have hg : wG S (S34.set k (16, 0, [(2, n), (2, (n + 2)), (2, (n + 15)), (2, (n + 28)), (2, (n + 33)), (2, (n + 38)), (2, (n + 40)), (2, (n + 42)), (2, (n + 47)), (2, (n + 129)), (2, (n + 133)), (2, (n + 134))])) n (n + 135) k := wG_set2 (j := 11) (r := (n + 134)) hg hk (by omega) (Or.inl rfl) rfl
  have harr := w_sto (k2 := k) (x := (16, 0, [(2, n), (2, (n + 2)), (2, (n + 15)), (2, (n + 28)), (2, (n + 33)), (2, (n + 38)), (2, (n + 40)), (2, (n + 42)), (2, (n + 47)), (2, (n + 129)), (2, (n + 133)), (2, (n + 134))])) (by omega) harr
  have hk := w_stk (x := (16, 0, [(2, n), (2, (n + 2)), (2, (n + 15)), (2, (n + 28)), (2, (n + 33)), (2, (n + 38)), (2, (n + 40)), (2, (n + 42)), (2, (n + 47)), (2, (n + 129)), (2, (n + 133)), (2, (n + 134))])) hk
  have hnew := w_sto (k2 := k) (x := (16, 0, [(2, n), (2, (n + 2)), (2, (n + 15)), (2, (n + 28)), (2, (n + 33)), (2, (n + 38)), (2, (n + 40)), (2, (n + 42)), (2, (n + 47)), (2, (n + 129)), (2, (n + 133)), (2, (n + 134))])) (by omega) hnew
  generalize hs35 : S34.set k (16, 0, [(2, n), (2, (n + 2)), (2, (n + 15)), (2, (n + 28)), (2, (n + 33)), (2, (n + 38)), (2, (n + 40)), (2, (n + 42)), (2, (n + 47)), (2, (n + 129)), (2, (n + 133)), (2, (n + 134))]) = S35 at hk hg harr hnew
  have hnew := w_apn (x := (6, 0, [(0, 0), (3, 0), (3, 0), (3, 0)])) hg.1
  have hk := w_apk (x := (6, 0, [(0, 0), (3, 0), (3, 0), (3, 0)])) hk
  have hg : wG S (S35 ++ [(6, 0, [(0, 0), (3, 0), (3, 0), (3, 0)])]) n (n + 136) k := wG_app (t := 6) (N := 0) (fs := [(0, 0), (3, 0), (3, 0), (3, 0)]) hg (by decide)
  have harr := w_apk (x := (6, 0, [(0, 0), (3, 0), (3, 0), (3, 0)])) harr
  generalize hs36 : S35 ++ [(6, 0, [(0, 0), (3, 0), (3, 0), (3, 0)])] = S36 at hk hg harr hnew
  have hg2 : wG S36 (sX0 S36 (n + 136) (n + 135) (n + 2)) (n + 136) ((n + 136) + 12) (n + 135) := gX0 hg.1 hg.2.2.1 hnew (by omega)
  have hk := (hg2.2.2.2 k (by omega) (by omega)).trans hk
  have harr := (hg2.2.2.2 _ (by omega) (by omega)).trans harr
  have hnew : (sX0 S36 (n + 136) (n + 135) (n + 2))[(n + 135)]? = some (6, 0, [(0, 0), (2, ((n + 136) + 7)), (2, (n + 136)), (2, ((n + 136) + 2))]) := qX0 hg.1 hg.2.2.1 hnew (by omega)
  have hg : wG S (sX0 S36 (n + 136) (n + 135) (n + 2)) n (n + 148) k := wG_call hg hg2 (by omega)
  generalize hs37 : sX0 S36 (n + 136) (n + 135) (n + 2) = S37 at hk hg harr hnew
  have hg : wG S (S37.set (n + 134) (4, 4, [(2, (n + 135)), (3, 0), (3, 0), (3, 0)])) n (n + 148) k := wG_set2 (j := 0) (r := (n + 135)) hg harr (by omega) (Or.inr (by omega)) rfl
  have hk := w_sto (k2 := (n + 134)) (x := (4, 4, [(2, (n + 135)), (3, 0), (3, 0), (3, 0)])) (by omega) hk
  have harr := w_stk (x := (4, 4, [(2, (n + 135)), (3, 0), (3, 0), (3, 0)])) harr
  have hnew := w_sto (k2 := (n + 134)) (x := (4, 4, [(2, (n + 135)), (3, 0), (3, 0), (3, 0)])) (by omega) hnew
  generalize hs38 : S37.set (n + 134) (4, 4, [(2, (n + 135)), (3, 0), (3, 0), (3, 0)]) = S38 at hk hg harr hnew
  have hnew := w_apn (x := (6, 0, [(0, 0), (3, 0), (3, 0), (3, 0)])) hg.1
  have hk := w_apk (x := (6, 0, [(0, 0), (3, 0), (3, 0), (3, 0)])) hk
  have hg : wG S (S38 ++ [(6, 0, [(0, 0), (3, 0), (3, 0), (3, 0)])]) n (n + 149) k := wG_app (t := 6) (N := 0) (fs := [(0, 0), (3, 0), (3, 0), (3, 0)]) hg (by decide)
  have harr := w_apk (x := (6, 0, [(0, 0), (3, 0), (3, 0), (3, 0)])) harr
  generalize hs39 : S38 ++ [(6, 0, [(0, 0), (3, 0), (3, 0), (3, 0)])] = S39 at hk hg harr hnew
  have hg2 : wG S39 (sX0 S39 (n + 149) (n + 148) (n + 2)) (n + 149) ((n + 149) + 12) (n + 148) := gX0 hg.1 hg.2.2.1 hnew (by omega)
  have hk := (hg2.2.2.2 k (by omega) (by omega)).trans hk
  have harr := (hg2.2.2.2 _ (by omega) (by omega)).trans harr
  have hnew : (sX0 S39 (n + 149) (n + 148) (n + 2))[(n + 148)]? = some (6, 0, [(0, 0), (2, ((n + 149) + 7)), (2, (n + 149)), (2, ((n + 149) + 2))]) := qX0 hg.1 hg.2.2.1 hnew (by omega)
  have hg : wG S (sX0 S39 (n + 149) (n + 148) (n + 2)) n (n + 161) k := wG_call hg hg2 (by omega)
  generalize hs40 : sX0 S39 (n + 149) (n + 148) (n + 2) = S40 at hk hg harr hnew
  have hg : wG S (S40.set (n + 134) (4, 4, [(2, (n + 135)), (2, (n + 148)), (3, 0), (3, 0)])) n (n + 161) k := wG_set2 (j := 1) (r := (n + 148)) hg harr (by omega) (Or.inr (by omega)) rfl
  have hk := w_sto (k2 := (n + 134)) (x := (4, 4, [(2, (n + 135)), (2, (n + 148)), (3, 0), (3, 0)])) (by omega) hk
  have harr := w_stk (x := (4, 4, [(2, (n + 135)), (2, (n + 148)), (3, 0), (3, 0)])) harr
  have hnew := w_sto (k2 := (n + 134)) (x := (4, 4, [(2, (n + 135)), (2, (n + 148)), (3, 0), (3, 0)])) (by omega) hnew
  generalize hs41 : S40.set (n + 134) (4, 4, [(2, (n + 135)), (2, (n + 148)), (3, 0), (3, 0)]) = S41 at hk hg harr hnew
  have hnew := w_apn (x := (6, 0, [(0, 0), (3, 0), (3, 0), (3, 0)])) hg.1
  have hk := w_apk (x := (6, 0, [(0, 0), (3, 0), (3, 0), (3, 0)])) hk
  have hg : wG S (S41 ++ [(6, 0, [(0, 0), (3, 0), (3, 0), (3, 0)])]) n (n + 162) k := wG_app (t := 6) (N := 0) (fs := [(0, 0), (3, 0), (3, 0), (3, 0)]) hg (by decide)
  have harr := w_apk (x := (6, 0, [(0, 0), (3, 0), (3, 0), (3, 0)])) harr
  generalize hs42 : S41 ++ [(6, 0, [(0, 0), (3, 0), (3, 0), (3, 0)])] = S42 at hk hg harr hnew
  have hg2 : wG S42 (sX0 S42 (n + 162) (n + 161) (n + 2)) (n + 162) ((n + 162) + 12) (n + 161) := gX0 hg.1 hg.2.2.1 hnew (by omega)
  have hk := (hg2.2.2.2 k (by omega) (by omega)).trans hk
  have harr := (hg2.2.2.2 _ (by omega) (by omega)).trans harr
  have hnew : (sX0 S42 (n + 162) (n + 161) (n + 2))[(n + 161)]? = some (6, 0, [(0, 0), (2, ((n + 162) + 7)), (2, (n + 162)), (2, ((n + 162) + 2))]) := qX0 hg.1 hg.2.2.1 hnew (by omega)
  have hg : wG S (sX0 S42 (n + 162) (n + 161) (n + 2)) n (n + 174) k := wG_call hg hg2 (by omega)
  generalize hs43 : sX0 S42 (n + 162) (n + 161) (n + 2) = S43 at hk hg harr hnew
  have hg : wG S (S43.set (n + 134) (4, 4, [(2, (n + 135)), (2, (n + 148)), (2, (n + 161)), (3, 0)])) n (n + 174) k := wG_set2 (j := 2) (r := (n + 161)) hg harr (by omega) (Or.inr (by omega)) rfl
  have hk := w_sto (k2 := (n + 134)) (x := (4, 4, [(2, (n + 135)), (2, (n + 148)), (2, (n + 161)), (3, 0)])) (by omega) hk
  have harr := w_stk (x := (4, 4, [(2, (n + 135)), (2, (n + 148)), (2, (n + 161)), (3, 0)])) harr
  have hnew := w_sto (k2 := (n + 134)) (x := (4, 4, [(2, (n + 135)), (2, (n + 148)), (2, (n + 161)), (3, 0)])) (by omega) hnew
  generalize hs44 : S43.set (n + 134) (4, 4, [(2, (n + 135)), (2, (n + 148)), (2, (n + 161)), (3, 0)]) = S44 at hk hg harr hnew
  have hnew := w_apn (x := (6, 0, [(0, 0), (3, 0), (3, 0), (3, 0)])) hg.1
  have hk := w_apk (x := (6, 0, [(0, 0), (3, 0), (3, 0), (3, 0)])) hk
  have hg : wG S (S44 ++ [(6, 0, [(0, 0), (3, 0), (3, 0), (3, 0)])]) n (n + 175) k := wG_app (t := 6) (N := 0) (fs := [(0, 0), (3, 0), (3, 0), (3, 0)]) hg (by decide)
  have harr := w_apk (x := (6, 0, [(0, 0), (3, 0), (3, 0), (3, 0)])) harr
  generalize hs45 : S44 ++ [(6, 0, [(0, 0), (3, 0), (3, 0), (3, 0)])] = S45 at hk hg harr hnew
  have hg2 : wG S45 (sX0 S45 (n + 175) (n + 174) (n + 2)) (n + 175) ((n + 175) + 12) (n + 174) := gX0 hg.1 hg.2.2.1 hnew (by omega)
  have hk := (hg2.2.2.2 k (by omega) (by omega)).trans hk
  have harr := (hg2.2.2.2 _ (by omega) (by omega)).trans harr
  have hnew : (sX0 S45 (n + 175) (n + 174) (n + 2))[(n + 174)]? = some (6, 0, [(0, 0), (2, ((n + 175) + 7)), (2, (n + 175)), (2, ((n + 175) + 2))]) := qX0 hg.1 hg.2.2.1 hnew (by omega)
  have hg : wG S (sX0 S45 (n + 175) (n + 174) (n + 2)) n (n + 187) k := wG_call hg hg2 (by omega)
  generalize hs46 : sX0 S45 (n + 175) (n + 174) (n + 2) = S46 at hk hg harr hnew
  have hg : wG S (S46.set (n + 134) (4, 4, [(2, (n + 135)), (2, (n + 148)), (2, (n + 161)), (2, (n + 174))])) n (n + 187) k := wG_set2 (j := 3) (r := (n + 174)) hg harr (by omega) (Or.inr (by omega)) rfl
  have hk := w_sto (k2 := (n + 134)) (x := (4, 4, [(2, (n + 135)), (2, (n + 148)), (2, (n + 161)), (2, (n + 174))])) (by omega) hk
  have harr := w_stk (x := (4, 4, [(2, (n + 135)), (2, (n + 148)), (2, (n + 161)), (2, (n + 174))])) harr
  have hnew := w_sto (k2 := (n + 134)) (x := (4, 4, [(2, (n + 135)), (2, (n + 148)), (2, (n + 161)), (2, (n + 174))])) (by omega) hnew
  generalize hs47 : S46.set (n + 134) (4, 4, [(2, (n + 135)), (2, (n + 148)), (2, (n + 161)), (2, (n + 174))]) = S47 at hk hg harr hnew
  subst hs1
  subst hs2
  subst hs3
  subst hs4
  subst hs5
  subst hs6
  subst hs7
  subst hs8
  subst hs9
  subst hs10
  subst hs11
  subst hs12
  subst hs13
  subst hs14
  subst hs15
  subst hs16
  subst hs17
  subst hs18
  subst hs19
  subst hs20
  subst hs21
  subst hs22
  subst hs23
  subst hs24
  subst hs25
  subst hs26
  subst hs27
  subst hs28
  subst hs29
  subst hs30
  subst hs31
  subst hs32
  subst hs33
  subst hs34
  subst hs35
  subst hs36
  subst hs37
  subst hs38
  subst hs39
  subst hs40
  subst hs41
  subst hs42
  subst hs43
  subst hs44
  subst hs45
  subst hs46
  subst hs47
  exact ⟨hg, hk⟩
theorem gX10 {S : List wSh} {n k : Nat} (hn : S.length = n) (hw : wWf S) (hk : S[k]? = some (16, 0, [(3, 0), (3, 0), (3, 0), (3, 0), (3, 0), (3, 0), (3, 0), (3, 0), (3, 0), (3, 0), (3, 0), (3, 0)])) : wG S (sX10 S n k) n (n + 187) k := (gqX10 hn hw hk).1
theorem qX10 {S : List wSh} {n k : Nat} (hn : S.length = n) (hw : wWf S) (hk : S[k]? = some (16, 0, [(3, 0), (3, 0), (3, 0), (3, 0), (3, 0), (3, 0), (3, 0), (3, 0), (3, 0), (3, 0), (3, 0), (3, 0)])) : (sX10 S n k)[k]? = some (16, 0, [(2, n), (2, (n + 2)), (2, (n + 15)), (2, (n + 28)), (2, (n + 33)), (2, (n + 38)), (2, (n + 40)), (2, (n + 42)), (2, (n + 47)), (2, (n + 129)), (2, (n + 133)), (2, (n + 134))]) := (gqX10 hn hw hk).2
set_option maxRecDepth 20000 in
set_option maxHeartbeats 8000000 in
theorem iX10 (l : Launch) {S : List wSh} {n k : Nat} (hn : S.length = n) (hw : wWf S) (hk : S[k]? = some (16, 0, [(3, 0), (3, 0), (3, 0), (3, 0), (3, 0), (3, 0), (3, 0), (3, 0), (3, 0), (3, 0), (3, 0), (3, 0)])) (hn9 : n < 70000) : wCi l yX10_init cX10_init 2 3 187 4772 S n [.ref k] (sX10 S n k) := by
  have hkl : k < n := by rw [← hn]; exact (List.getElem?_eq_some_iff.mp hk).1
  refine w_methI 1 (by decide) (Nat.le_of_ble_eq_true rfl) (ls := [some (.ref k), none]) rfl ?_
  intro p e s m args below meth c D dA b0 ad X hr hin
  have hg : wG S S n n k := wG_rf hn hw
  have ha : ∀ q, (q < n ∨ 99999 ≤ q) → ad q = ad q := fun _ _ => rfl
  refine w_aload_n X dX10_init_0 rfl rfl rfl ?_
  refine w_obj X dX10_init_1 rfl wd_30 wd_31 wd_32 (Nat.le_of_ble_eq_true rfl) (Nat.le_of_ble_eq_true rfl) ?_
  refine w_aload_n X dX10_init_4 rfl rfl rfl ?_
  refine w_newo X (ci := 7) (N := 8) (C := RX7) (T := TX7) (ty := tyX7) (fs := [(3, 0), (0, 0), (0, 0), (0, 0), (0, 0), (0, 0), (1, 0), (0, 0)]) dX10_init_5 rfl rfl wcl_7 tyX7_ok wd_33 wd_34 wd_2 (by decide +kernel) (by decide +kernel) hg.2.2.1 hg.1 (by omega) (w_rl ⟨wRf_r (by omega), trivial⟩ ⟨wRf_r (by omega), trivial⟩) ⟨Nat.le_of_ble_eq_true rfl, Nat.le_of_ble_eq_true rfl⟩ (fun ad1 ha1 X => ?_)
  have ha : ∀ q, (q < n ∨ 99999 ≤ q) → ad1 q = ad q := fun q hq => (ha1 q (by omega)).trans (ha q hq)
  have hnew := w_apn (x := (13, 0, [(3, 0), (0, 0), (0, 0), (0, 0), (0, 0), (0, 0), (1, 0), (0, 0)])) hg.1
  have hk := w_apk (x := (13, 0, [(3, 0), (0, 0), (0, 0), (0, 0), (0, 0), (0, 0), (1, 0), (0, 0)])) hk
  have hg : wG S (S ++ [(13, 0, [(3, 0), (0, 0), (0, 0), (0, 0), (0, 0), (0, 0), (1, 0), (0, 0)])]) n (n + 1) k := wG_app (t := 13) (N := 0) (fs := [(3, 0), (0, 0), (0, 0), (0, 0), (0, 0), (0, 0), (1, 0), (0, 0)]) hg (by decide)
  generalize hs1 : S ++ [(13, 0, [(3, 0), (0, 0), (0, 0), (0, 0), (0, 0), (0, 0), (1, 0), (0, 0)])] = S1 at hk hg hnew ⊢
  refine w_dup X dX10_init_8 rfl rfl ?_
  refine w_callI X dX10_init_9 rfl il_X10_11 (iX7 l hg.1 hg.2.2.1 hnew (by omega) ) (As := []) (st := [.ref n, .ref k]) rfl rfl (w_rl ⟨wRf_r (by omega), trivial⟩ ⟨wRf_r (by omega), wRf_r (by omega), trivial⟩) (Nat.le_of_ble_eq_true rfl) ⟨Nat.le_of_ble_eq_true rfl, Nat.le_of_ble_eq_true rfl⟩ ⟨Nat.le_of_ble_eq_true rfl, Nat.le_of_ble_eq_true rfl⟩ (fun ad2 ha2 X => ?_)
  have ha : ∀ q, (q < n ∨ 99999 ≤ q) → ad2 q = ad q := fun q hq => (ha2 q (by omega)).trans (ha q hq)
  have hg2 : wG S1 (sX7 S1 (n + 1) n ) (n + 1) ((n + 1) + 1) n := gX7 hg.1 hg.2.2.1 hnew 
  have hk := (hg2.2.2.2 k (by omega) (by omega)).trans hk
  have hnew : (sX7 S1 (n + 1) n )[n]? = some (13, 0, [(2, (n + 1)), (0, 0), (0, 0), (0, 0), (0, 0), (0, 0), (1, 0), (0, 0)]) := qX7 hg.1 hg.2.2.1 hnew 
  have hg : wG S (sX7 S1 (n + 1) n ) n (n + 2) k := wG_call hg hg2 (by omega)
  generalize hs2 : sX7 S1 (n + 1) n = S2 at hk hg hnew ⊢
  refine w_putR2 X dX10_init_12 rfl (ci := 10) (C := RX10) (T := TX10) (N := 12) (ty0 := tyX10) (ty := tyX10 0) (j := 0) rfl wcl_10 tyX10_ok nmX10 (by decide) wd_314 rfl hin rfl (by decide +kernel) (fun _ => rfl) (fun _ => rfl) hk (Nat.le_of_ble_eq_true rfl) (fs2 := [(2, n), (3, 0), (3, 0), (3, 0), (3, 0), (3, 0), (3, 0), (3, 0), (3, 0), (3, 0), (3, 0), (3, 0)]) rfl ?_
  have hg : wG S (S2.set k (16, 0, [(2, n), (3, 0), (3, 0), (3, 0), (3, 0), (3, 0), (3, 0), (3, 0), (3, 0), (3, 0), (3, 0), (3, 0)])) n (n + 2) k := wG_set2 (j := 0) (r := n) hg hk (by omega) (Or.inl rfl) rfl
  have hk := w_stk (x := (16, 0, [(2, n), (3, 0), (3, 0), (3, 0), (3, 0), (3, 0), (3, 0), (3, 0), (3, 0), (3, 0), (3, 0), (3, 0)])) hk
  have hnew := w_sto (k2 := k) (x := (16, 0, [(2, n), (3, 0), (3, 0), (3, 0), (3, 0), (3, 0), (3, 0), (3, 0), (3, 0), (3, 0), (3, 0), (3, 0)])) (by omega) hnew
  generalize hs3 : S2.set k (16, 0, [(2, n), (3, 0), (3, 0), (3, 0), (3, 0), (3, 0), (3, 0), (3, 0), (3, 0), (3, 0), (3, 0), (3, 0)]) = S3 at hk hg hnew ⊢
  refine w_aload_n X dX10_init_15 rfl rfl rfl ?_
  refine w_newo X (ci := 4) (N := 13) (C := RX4) (T := TX4) (ty := tyX4) (fs := [(0, 0), (3, 0), (3, 0), (3, 0), (3, 0), (0, 0), (3, 0), (3, 0), (3, 0), (3, 0), (0, 0), (3, 0), (3, 0)]) dX10_init_16 rfl rfl wcl_4 tyX4_ok wd_71 wd_72 wd_3 (by decide +kernel) (by decide +kernel) hg.2.2.1 hg.1 (by omega) (w_rl ⟨wRf_r (by omega), trivial⟩ ⟨wRf_r (by omega), trivial⟩) ⟨Nat.le_of_ble_eq_true rfl, Nat.le_of_ble_eq_true rfl⟩ (fun ad3 ha3 X => ?_)
  have ha : ∀ q, (q < n ∨ 99999 ≤ q) → ad3 q = ad q := fun q hq => (ha3 q (by omega)).trans (ha q hq)
  have hnew := w_apn (x := (10, 0, [(0, 0), (3, 0), (3, 0), (3, 0), (3, 0), (0, 0), (3, 0), (3, 0), (3, 0), (3, 0), (0, 0), (3, 0), (3, 0)])) hg.1
  have hk := w_apk (x := (10, 0, [(0, 0), (3, 0), (3, 0), (3, 0), (3, 0), (0, 0), (3, 0), (3, 0), (3, 0), (3, 0), (0, 0), (3, 0), (3, 0)])) hk
  have hg : wG S (S3 ++ [(10, 0, [(0, 0), (3, 0), (3, 0), (3, 0), (3, 0), (0, 0), (3, 0), (3, 0), (3, 0), (3, 0), (0, 0), (3, 0), (3, 0)])]) n (n + 3) k := wG_app (t := 10) (N := 0) (fs := [(0, 0), (3, 0), (3, 0), (3, 0), (3, 0), (0, 0), (3, 0), (3, 0), (3, 0), (3, 0), (0, 0), (3, 0), (3, 0)]) hg (by decide)
  generalize hs4 : S3 ++ [(10, 0, [(0, 0), (3, 0), (3, 0), (3, 0), (3, 0), (0, 0), (3, 0), (3, 0), (3, 0), (3, 0), (0, 0), (3, 0), (3, 0)])] = S4 at hk hg hnew ⊢
  refine w_dup X dX10_init_19 rfl rfl ?_
  refine w_callI X dX10_init_20 rfl il_X10_18 (iX4 l hg.1 hg.2.2.1 hnew (by omega) ) (As := []) (st := [.ref (n + 2), .ref k]) rfl rfl (w_rl ⟨wRf_r (by omega), trivial⟩ ⟨wRf_r (by omega), wRf_r (by omega), trivial⟩) (Nat.le_of_ble_eq_true rfl) ⟨Nat.le_of_ble_eq_true rfl, Nat.le_of_ble_eq_true rfl⟩ ⟨Nat.le_of_ble_eq_true rfl, Nat.le_of_ble_eq_true rfl⟩ (fun ad4 ha4 X => ?_)
  have ha : ∀ q, (q < n ∨ 99999 ≤ q) → ad4 q = ad q := fun q hq => (ha4 q (by omega)).trans (ha q hq)
  have hg2 : wG S4 (sX4 S4 (n + 3) (n + 2) ) (n + 3) ((n + 3) + 12) (n + 2) := gX4 hg.1 hg.2.2.1 hnew 
  have hk := (hg2.2.2.2 k (by omega) (by omega)).trans hk
  have hnew : (sX4 S4 (n + 3) (n + 2) )[(n + 2)]? = some (10, 0, [(0, 0), (2, (n + 3)), (2, ((n + 3) + 1)), (2, ((n + 3) + 2)), (2, ((n + 3) + 3)), (0, 0), (2, ((n + 3) + 4)), (2, ((n + 3) + 5)), (2, ((n + 3) + 6)), (2, ((n + 3) + 7)), (0, 0), (2, ((n + 3) + 8)), (2, ((n + 3) + 9))]) := qX4 hg.1 hg.2.2.1 hnew 
  have hg : wG S (sX4 S4 (n + 3) (n + 2) ) n (n + 15) k := wG_call hg hg2 (by omega)
  generalize hs5 : sX4 S4 (n + 3) (n + 2) = S5 at hk hg hnew ⊢
  refine w_putR2 X dX10_init_23 rfl (ci := 10) (C := RX10) (T := TX10) (N := 12) (ty0 := tyX10) (ty := tyX10 1) (j := 1) rfl wcl_10 tyX10_ok nmX10 (by decide) wd_315 rfl hin rfl (by decide +kernel) (fun _ => rfl) (fun _ => rfl) hk (Nat.le_of_ble_eq_true rfl) (fs2 := [(2, n), (2, (n + 2)), (3, 0), (3, 0), (3, 0), (3, 0), (3, 0), (3, 0), (3, 0), (3, 0), (3, 0), (3, 0)]) rfl ?_
  have hg : wG S (S5.set k (16, 0, [(2, n), (2, (n + 2)), (3, 0), (3, 0), (3, 0), (3, 0), (3, 0), (3, 0), (3, 0), (3, 0), (3, 0), (3, 0)])) n (n + 15) k := wG_set2 (j := 1) (r := (n + 2)) hg hk (by omega) (Or.inl rfl) rfl
  have hk := w_stk (x := (16, 0, [(2, n), (2, (n + 2)), (3, 0), (3, 0), (3, 0), (3, 0), (3, 0), (3, 0), (3, 0), (3, 0), (3, 0), (3, 0)])) hk
  have hnew := w_sto (k2 := k) (x := (16, 0, [(2, n), (2, (n + 2)), (3, 0), (3, 0), (3, 0), (3, 0), (3, 0), (3, 0), (3, 0), (3, 0), (3, 0), (3, 0)])) (by omega) hnew
  generalize hs6 : S5.set k (16, 0, [(2, n), (2, (n + 2)), (3, 0), (3, 0), (3, 0), (3, 0), (3, 0), (3, 0), (3, 0), (3, 0), (3, 0), (3, 0)]) = S6 at hk hg hnew ⊢
  refine w_aload_n X dX10_init_26 rfl rfl rfl ?_
  refine w_newo X (ci := 4) (N := 13) (C := RX4) (T := TX4) (ty := tyX4) (fs := [(0, 0), (3, 0), (3, 0), (3, 0), (3, 0), (0, 0), (3, 0), (3, 0), (3, 0), (3, 0), (0, 0), (3, 0), (3, 0)]) dX10_init_27 rfl rfl wcl_4 tyX4_ok wd_71 wd_72 wd_3 (by decide +kernel) (by decide +kernel) hg.2.2.1 hg.1 (by omega) (w_rl ⟨wRf_r (by omega), trivial⟩ ⟨wRf_r (by omega), trivial⟩) ⟨Nat.le_of_ble_eq_true rfl, Nat.le_of_ble_eq_true rfl⟩ (fun ad5 ha5 X => ?_)
  have ha : ∀ q, (q < n ∨ 99999 ≤ q) → ad5 q = ad q := fun q hq => (ha5 q (by omega)).trans (ha q hq)
  have hnew := w_apn (x := (10, 0, [(0, 0), (3, 0), (3, 0), (3, 0), (3, 0), (0, 0), (3, 0), (3, 0), (3, 0), (3, 0), (0, 0), (3, 0), (3, 0)])) hg.1
  have hk := w_apk (x := (10, 0, [(0, 0), (3, 0), (3, 0), (3, 0), (3, 0), (0, 0), (3, 0), (3, 0), (3, 0), (3, 0), (0, 0), (3, 0), (3, 0)])) hk
  have hg : wG S (S6 ++ [(10, 0, [(0, 0), (3, 0), (3, 0), (3, 0), (3, 0), (0, 0), (3, 0), (3, 0), (3, 0), (3, 0), (0, 0), (3, 0), (3, 0)])]) n (n + 16) k := wG_app (t := 10) (N := 0) (fs := [(0, 0), (3, 0), (3, 0), (3, 0), (3, 0), (0, 0), (3, 0), (3, 0), (3, 0), (3, 0), (0, 0), (3, 0), (3, 0)]) hg (by decide)
  generalize hs7 : S6 ++ [(10, 0, [(0, 0), (3, 0), (3, 0), (3, 0), (3, 0), (0, 0), (3, 0), (3, 0), (3, 0), (3, 0), (0, 0), (3, 0), (3, 0)])] = S7 at hk hg hnew ⊢
  refine w_dup X dX10_init_30 rfl rfl ?_
  refine w_callI X dX10_init_31 rfl il_X10_18 (iX4 l hg.1 hg.2.2.1 hnew (by omega) ) (As := []) (st := [.ref (n + 15), .ref k]) rfl rfl (w_rl ⟨wRf_r (by omega), trivial⟩ ⟨wRf_r (by omega), wRf_r (by omega), trivial⟩) (Nat.le_of_ble_eq_true rfl) ⟨Nat.le_of_ble_eq_true rfl, Nat.le_of_ble_eq_true rfl⟩ ⟨Nat.le_of_ble_eq_true rfl, Nat.le_of_ble_eq_true rfl⟩ (fun ad6 ha6 X => ?_)
  have ha : ∀ q, (q < n ∨ 99999 ≤ q) → ad6 q = ad q := fun q hq => (ha6 q (by omega)).trans (ha q hq)
  have hg2 : wG S7 (sX4 S7 (n + 16) (n + 15) ) (n + 16) ((n + 16) + 12) (n + 15) := gX4 hg.1 hg.2.2.1 hnew 
  have hk := (hg2.2.2.2 k (by omega) (by omega)).trans hk
  have hnew : (sX4 S7 (n + 16) (n + 15) )[(n + 15)]? = some (10, 0, [(0, 0), (2, (n + 16)), (2, ((n + 16) + 1)), (2, ((n + 16) + 2)), (2, ((n + 16) + 3)), (0, 0), (2, ((n + 16) + 4)), (2, ((n + 16) + 5)), (2, ((n + 16) + 6)), (2, ((n + 16) + 7)), (0, 0), (2, ((n + 16) + 8)), (2, ((n + 16) + 9))]) := qX4 hg.1 hg.2.2.1 hnew 
  have hg : wG S (sX4 S7 (n + 16) (n + 15) ) n (n + 28) k := wG_call hg hg2 (by omega)
  generalize hs8 : sX4 S7 (n + 16) (n + 15) = S8 at hk hg hnew ⊢
  refine w_putR2 X dX10_init_34 rfl (ci := 10) (C := RX10) (T := TX10) (N := 12) (ty0 := tyX10) (ty := tyX10 2) (j := 2) rfl wcl_10 tyX10_ok nmX10 (by decide) wd_316 rfl hin rfl (by decide +kernel) (fun _ => rfl) (fun _ => rfl) hk (Nat.le_of_ble_eq_true rfl) (fs2 := [(2, n), (2, (n + 2)), (2, (n + 15)), (3, 0), (3, 0), (3, 0), (3, 0), (3, 0), (3, 0), (3, 0), (3, 0), (3, 0)]) rfl ?_
  have hg : wG S (S8.set k (16, 0, [(2, n), (2, (n + 2)), (2, (n + 15)), (3, 0), (3, 0), (3, 0), (3, 0), (3, 0), (3, 0), (3, 0), (3, 0), (3, 0)])) n (n + 28) k := wG_set2 (j := 2) (r := (n + 15)) hg hk (by omega) (Or.inl rfl) rfl
  have hk := w_stk (x := (16, 0, [(2, n), (2, (n + 2)), (2, (n + 15)), (3, 0), (3, 0), (3, 0), (3, 0), (3, 0), (3, 0), (3, 0), (3, 0), (3, 0)])) hk
  have hnew := w_sto (k2 := k) (x := (16, 0, [(2, n), (2, (n + 2)), (2, (n + 15)), (3, 0), (3, 0), (3, 0), (3, 0), (3, 0), (3, 0), (3, 0), (3, 0), (3, 0)])) (by omega) hnew
  generalize hs9 : S8.set k (16, 0, [(2, n), (2, (n + 2)), (2, (n + 15)), (3, 0), (3, 0), (3, 0), (3, 0), (3, 0), (3, 0), (3, 0), (3, 0), (3, 0)]) = S9 at hk hg hnew ⊢
  refine w_aload_n X dX10_init_37 rfl rfl rfl ?_
  refine w_newo X (ci := 6) (N := 6) (C := RX6) (T := TX6) (ty := tyX6) (fs := [(3, 0), (0, 0), (3, 0), (3, 0), (3, 0), (3, 0)]) dX10_init_38 rfl rfl wcl_6 tyX6_ok wd_156 wd_157 wd_5 (by decide +kernel) (by decide +kernel) hg.2.2.1 hg.1 (by omega) (w_rl ⟨wRf_r (by omega), trivial⟩ ⟨wRf_r (by omega), trivial⟩) ⟨Nat.le_of_ble_eq_true rfl, Nat.le_of_ble_eq_true rfl⟩ (fun ad7 ha7 X => ?_)
  have ha : ∀ q, (q < n ∨ 99999 ≤ q) → ad7 q = ad q := fun q hq => (ha7 q (by omega)).trans (ha q hq)
  have hnew := w_apn (x := (12, 0, [(3, 0), (0, 0), (3, 0), (3, 0), (3, 0), (3, 0)])) hg.1
  have hk := w_apk (x := (12, 0, [(3, 0), (0, 0), (3, 0), (3, 0), (3, 0), (3, 0)])) hk
  have hg : wG S (S9 ++ [(12, 0, [(3, 0), (0, 0), (3, 0), (3, 0), (3, 0), (3, 0)])]) n (n + 29) k := wG_app (t := 12) (N := 0) (fs := [(3, 0), (0, 0), (3, 0), (3, 0), (3, 0), (3, 0)]) hg (by decide)
  generalize hs10 : S9 ++ [(12, 0, [(3, 0), (0, 0), (3, 0), (3, 0), (3, 0), (3, 0)])] = S10 at hk hg hnew ⊢
  refine w_dup X dX10_init_41 rfl rfl ?_
  refine w_aload_n X dX10_init_42 rfl rfl rfl ?_
  refine w_getR X dX10_init_43 rfl fl_X10_19 hk rfl ?_
  refine w_callI X dX10_init_46 rfl il_X10_28 (iX6 l hg.1 hg.2.2.1 hnew (by omega) (by omega)) (As := [.ref (n + 2)]) (st := [.ref (n + 28), .ref k]) rfl rfl (w_rl ⟨wRf_r (by omega), trivial⟩ ⟨wRf_r (by omega), wRf_r (by omega), trivial⟩) (Nat.le_of_ble_eq_true rfl) ⟨Nat.le_of_ble_eq_true rfl, Nat.le_of_ble_eq_true rfl⟩ ⟨Nat.le_of_ble_eq_true rfl, Nat.le_of_ble_eq_true rfl⟩ (fun ad8 ha8 X => ?_)
  have ha : ∀ q, (q < n ∨ 99999 ≤ q) → ad8 q = ad q := fun q hq => (ha8 q (by omega)).trans (ha q hq)
  have hg2 : wG S10 (sX6 S10 (n + 29) (n + 28) (n + 2)) (n + 29) ((n + 29) + 4) (n + 28) := gX6 hg.1 hg.2.2.1 hnew (by omega)
  have hk := (hg2.2.2.2 k (by omega) (by omega)).trans hk
  have hnew : (sX6 S10 (n + 29) (n + 28) (n + 2))[(n + 28)]? = some (12, 0, [(2, (n + 2)), (0, 0), (2, (n + 29)), (2, ((n + 29) + 1)), (2, ((n + 29) + 2)), (2, ((n + 29) + 3))]) := qX6 hg.1 hg.2.2.1 hnew (by omega)
  have hg : wG S (sX6 S10 (n + 29) (n + 28) (n + 2)) n (n + 33) k := wG_call hg hg2 (by omega)
  generalize hs11 : sX6 S10 (n + 29) (n + 28) (n + 2) = S11 at hk hg hnew ⊢
  refine w_putR2 X dX10_init_49 rfl (ci := 10) (C := RX10) (T := TX10) (N := 12) (ty0 := tyX10) (ty := tyX10 3) (j := 3) rfl wcl_10 tyX10_ok nmX10 (by decide) wd_317 rfl hin rfl (by decide +kernel) (fun _ => rfl) (fun _ => rfl) hk (Nat.le_of_ble_eq_true rfl) (fs2 := [(2, n), (2, (n + 2)), (2, (n + 15)), (2, (n + 28)), (3, 0), (3, 0), (3, 0), (3, 0), (3, 0), (3, 0), (3, 0), (3, 0)]) rfl ?_
  have hg : wG S (S11.set k (16, 0, [(2, n), (2, (n + 2)), (2, (n + 15)), (2, (n + 28)), (3, 0), (3, 0), (3, 0), (3, 0), (3, 0), (3, 0), (3, 0), (3, 0)])) n (n + 33) k := wG_set2 (j := 3) (r := (n + 28)) hg hk (by omega) (Or.inl rfl) rfl
  have hk := w_stk (x := (16, 0, [(2, n), (2, (n + 2)), (2, (n + 15)), (2, (n + 28)), (3, 0), (3, 0), (3, 0), (3, 0), (3, 0), (3, 0), (3, 0), (3, 0)])) hk
  have hnew := w_sto (k2 := k) (x := (16, 0, [(2, n), (2, (n + 2)), (2, (n + 15)), (2, (n + 28)), (3, 0), (3, 0), (3, 0), (3, 0), (3, 0), (3, 0), (3, 0), (3, 0)])) (by omega) hnew
  generalize hs12 : S11.set k (16, 0, [(2, n), (2, (n + 2)), (2, (n + 15)), (2, (n + 28)), (3, 0), (3, 0), (3, 0), (3, 0), (3, 0), (3, 0), (3, 0), (3, 0)]) = S12 at hk hg hnew ⊢
  refine w_aload_n X dX10_init_52 rfl rfl rfl ?_
  refine w_newo X (ci := 6) (N := 6) (C := RX6) (T := TX6) (ty := tyX6) (fs := [(3, 0), (0, 0), (3, 0), (3, 0), (3, 0), (3, 0)]) dX10_init_53 rfl rfl wcl_6 tyX6_ok wd_156 wd_157 wd_5 (by decide +kernel) (by decide +kernel) hg.2.2.1 hg.1 (by omega) (w_rl ⟨wRf_r (by omega), trivial⟩ ⟨wRf_r (by omega), trivial⟩) ⟨Nat.le_of_ble_eq_true rfl, Nat.le_of_ble_eq_true rfl⟩ (fun ad9 ha9 X => ?_)
  have ha : ∀ q, (q < n ∨ 99999 ≤ q) → ad9 q = ad q := fun q hq => (ha9 q (by omega)).trans (ha q hq)
  have hnew := w_apn (x := (12, 0, [(3, 0), (0, 0), (3, 0), (3, 0), (3, 0), (3, 0)])) hg.1
  have hk := w_apk (x := (12, 0, [(3, 0), (0, 0), (3, 0), (3, 0), (3, 0), (3, 0)])) hk
  have hg : wG S (S12 ++ [(12, 0, [(3, 0), (0, 0), (3, 0), (3, 0), (3, 0), (3, 0)])]) n (n + 34) k := wG_app (t := 12) (N := 0) (fs := [(3, 0), (0, 0), (3, 0), (3, 0), (3, 0), (3, 0)]) hg (by decide)
  generalize hs13 : S12 ++ [(12, 0, [(3, 0), (0, 0), (3, 0), (3, 0), (3, 0), (3, 0)])] = S13 at hk hg hnew ⊢
  refine w_dup X dX10_init_56 rfl rfl ?_
  refine w_aload_n X dX10_init_57 rfl rfl rfl ?_
  refine w_getR X dX10_init_58 rfl fl_X10_19 hk rfl ?_
  refine w_callI X dX10_init_61 rfl il_X10_28 (iX6 l hg.1 hg.2.2.1 hnew (by omega) (by omega)) (As := [.ref (n + 2)]) (st := [.ref (n + 33), .ref k]) rfl rfl (w_rl ⟨wRf_r (by omega), trivial⟩ ⟨wRf_r (by omega), wRf_r (by omega), trivial⟩) (Nat.le_of_ble_eq_true rfl) ⟨Nat.le_of_ble_eq_true rfl, Nat.le_of_ble_eq_true rfl⟩ ⟨Nat.le_of_ble_eq_true rfl, Nat.le_of_ble_eq_true rfl⟩ (fun ad10 ha10 X => ?_)
  have ha : ∀ q, (q < n ∨ 99999 ≤ q) → ad10 q = ad q := fun q hq => (ha10 q (by omega)).trans (ha q hq)
  have hg2 : wG S13 (sX6 S13 (n + 34) (n + 33) (n + 2)) (n + 34) ((n + 34) + 4) (n + 33) := gX6 hg.1 hg.2.2.1 hnew (by omega)
  have hk := (hg2.2.2.2 k (by omega) (by omega)).trans hk
  have hnew : (sX6 S13 (n + 34) (n + 33) (n + 2))[(n + 33)]? = some (12, 0, [(2, (n + 2)), (0, 0), (2, (n + 34)), (2, ((n + 34) + 1)), (2, ((n + 34) + 2)), (2, ((n + 34) + 3))]) := qX6 hg.1 hg.2.2.1 hnew (by omega)
  have hg : wG S (sX6 S13 (n + 34) (n + 33) (n + 2)) n (n + 38) k := wG_call hg hg2 (by omega)
  generalize hs14 : sX6 S13 (n + 34) (n + 33) (n + 2) = S14 at hk hg hnew ⊢
  refine w_putR2 X dX10_init_64 rfl (ci := 10) (C := RX10) (T := TX10) (N := 12) (ty0 := tyX10) (ty := tyX10 4) (j := 4) rfl wcl_10 tyX10_ok nmX10 (by decide) wd_318 rfl hin rfl (by decide +kernel) (fun _ => rfl) (fun _ => rfl) hk (Nat.le_of_ble_eq_true rfl) (fs2 := [(2, n), (2, (n + 2)), (2, (n + 15)), (2, (n + 28)), (2, (n + 33)), (3, 0), (3, 0), (3, 0), (3, 0), (3, 0), (3, 0), (3, 0)]) rfl ?_
  have hg : wG S (S14.set k (16, 0, [(2, n), (2, (n + 2)), (2, (n + 15)), (2, (n + 28)), (2, (n + 33)), (3, 0), (3, 0), (3, 0), (3, 0), (3, 0), (3, 0), (3, 0)])) n (n + 38) k := wG_set2 (j := 4) (r := (n + 33)) hg hk (by omega) (Or.inl rfl) rfl
  have hk := w_stk (x := (16, 0, [(2, n), (2, (n + 2)), (2, (n + 15)), (2, (n + 28)), (2, (n + 33)), (3, 0), (3, 0), (3, 0), (3, 0), (3, 0), (3, 0), (3, 0)])) hk
  have hnew := w_sto (k2 := k) (x := (16, 0, [(2, n), (2, (n + 2)), (2, (n + 15)), (2, (n + 28)), (2, (n + 33)), (3, 0), (3, 0), (3, 0), (3, 0), (3, 0), (3, 0), (3, 0)])) (by omega) hnew
  generalize hs15 : S14.set k (16, 0, [(2, n), (2, (n + 2)), (2, (n + 15)), (2, (n + 28)), (2, (n + 33)), (3, 0), (3, 0), (3, 0), (3, 0), (3, 0), (3, 0), (3, 0)]) = S15 at hk hg hnew ⊢
  refine w_aload_n X dX10_init_67 rfl rfl rfl ?_
  refine w_newo X (ci := 9) (N := 2) (C := RX9) (T := TX9) (ty := tyX9) (fs := [(0, 0), (3, 0)]) dX10_init_68 rfl rfl wcl_9 tyX9_ok wd_186 wd_187 wd_6 (by decide +kernel) (by decide +kernel) hg.2.2.1 hg.1 (by omega) (w_rl ⟨wRf_r (by omega), trivial⟩ ⟨wRf_r (by omega), trivial⟩) ⟨Nat.le_of_ble_eq_true rfl, Nat.le_of_ble_eq_true rfl⟩ (fun ad11 ha11 X => ?_)
  have ha : ∀ q, (q < n ∨ 99999 ≤ q) → ad11 q = ad q := fun q hq => (ha11 q (by omega)).trans (ha q hq)
  have hnew := w_apn (x := (15, 0, [(0, 0), (3, 0)])) hg.1
  have hk := w_apk (x := (15, 0, [(0, 0), (3, 0)])) hk
  have hg : wG S (S15 ++ [(15, 0, [(0, 0), (3, 0)])]) n (n + 39) k := wG_app (t := 15) (N := 0) (fs := [(0, 0), (3, 0)]) hg (by decide)
  generalize hs16 : S15 ++ [(15, 0, [(0, 0), (3, 0)])] = S16 at hk hg hnew ⊢
  refine w_dup X dX10_init_71 rfl rfl ?_
  refine w_callI X dX10_init_72 rfl il_X10_40 (iX9 l hg.1 hg.2.2.1 hnew (by omega) ) (As := []) (st := [.ref (n + 38), .ref k]) rfl rfl (w_rl ⟨wRf_r (by omega), trivial⟩ ⟨wRf_r (by omega), wRf_r (by omega), trivial⟩) (Nat.le_of_ble_eq_true rfl) ⟨Nat.le_of_ble_eq_true rfl, Nat.le_of_ble_eq_true rfl⟩ ⟨Nat.le_of_ble_eq_true rfl, Nat.le_of_ble_eq_true rfl⟩ (fun ad12 ha12 X => ?_)
  have ha : ∀ q, (q < n ∨ 99999 ≤ q) → ad12 q = ad q := fun q hq => (ha12 q (by omega)).trans (ha q hq)
  have hg2 : wG S16 (sX9 S16 (n + 39) (n + 38) ) (n + 39) ((n + 39) + 1) (n + 38) := gX9 hg.1 hg.2.2.1 hnew 
  have hk := (hg2.2.2.2 k (by omega) (by omega)).trans hk
  have hnew : (sX9 S16 (n + 39) (n + 38) )[(n + 38)]? = some (15, 0, [(0, 0), (2, (n + 39))]) := qX9 hg.1 hg.2.2.1 hnew 
  have hg : wG S (sX9 S16 (n + 39) (n + 38) ) n (n + 40) k := wG_call hg hg2 (by omega)
  generalize hs17 : sX9 S16 (n + 39) (n + 38) = S17 at hk hg hnew ⊢
  refine w_putR2 X dX10_init_75 rfl (ci := 10) (C := RX10) (T := TX10) (N := 12) (ty0 := tyX10) (ty := tyX10 5) (j := 5) rfl wcl_10 tyX10_ok nmX10 (by decide) wd_319 rfl hin rfl (by decide +kernel) (fun _ => rfl) (fun _ => rfl) hk (Nat.le_of_ble_eq_true rfl) (fs2 := [(2, n), (2, (n + 2)), (2, (n + 15)), (2, (n + 28)), (2, (n + 33)), (2, (n + 38)), (3, 0), (3, 0), (3, 0), (3, 0), (3, 0), (3, 0)]) rfl ?_
  have hg : wG S (S17.set k (16, 0, [(2, n), (2, (n + 2)), (2, (n + 15)), (2, (n + 28)), (2, (n + 33)), (2, (n + 38)), (3, 0), (3, 0), (3, 0), (3, 0), (3, 0), (3, 0)])) n (n + 40) k := wG_set2 (j := 5) (r := (n + 38)) hg hk (by omega) (Or.inl rfl) rfl
  have hk := w_stk (x := (16, 0, [(2, n), (2, (n + 2)), (2, (n + 15)), (2, (n + 28)), (2, (n + 33)), (2, (n + 38)), (3, 0), (3, 0), (3, 0), (3, 0), (3, 0), (3, 0)])) hk
  have hnew := w_sto (k2 := k) (x := (16, 0, [(2, n), (2, (n + 2)), (2, (n + 15)), (2, (n + 28)), (2, (n + 33)), (2, (n + 38)), (3, 0), (3, 0), (3, 0), (3, 0), (3, 0), (3, 0)])) (by omega) hnew
  generalize hs18 : S17.set k (16, 0, [(2, n), (2, (n + 2)), (2, (n + 15)), (2, (n + 28)), (2, (n + 33)), (2, (n + 38)), (3, 0), (3, 0), (3, 0), (3, 0), (3, 0), (3, 0)]) = S18 at hk hg hnew ⊢
  refine w_aload_n X dX10_init_78 rfl rfl rfl ?_
  refine w_newo X (ci := 9) (N := 2) (C := RX9) (T := TX9) (ty := tyX9) (fs := [(0, 0), (3, 0)]) dX10_init_79 rfl rfl wcl_9 tyX9_ok wd_186 wd_187 wd_6 (by decide +kernel) (by decide +kernel) hg.2.2.1 hg.1 (by omega) (w_rl ⟨wRf_r (by omega), trivial⟩ ⟨wRf_r (by omega), trivial⟩) ⟨Nat.le_of_ble_eq_true rfl, Nat.le_of_ble_eq_true rfl⟩ (fun ad13 ha13 X => ?_)
  have ha : ∀ q, (q < n ∨ 99999 ≤ q) → ad13 q = ad q := fun q hq => (ha13 q (by omega)).trans (ha q hq)
  have hnew := w_apn (x := (15, 0, [(0, 0), (3, 0)])) hg.1
  have hk := w_apk (x := (15, 0, [(0, 0), (3, 0)])) hk
  have hg : wG S (S18 ++ [(15, 0, [(0, 0), (3, 0)])]) n (n + 41) k := wG_app (t := 15) (N := 0) (fs := [(0, 0), (3, 0)]) hg (by decide)
  generalize hs19 : S18 ++ [(15, 0, [(0, 0), (3, 0)])] = S19 at hk hg hnew ⊢
  refine w_dup X dX10_init_82 rfl rfl ?_
  refine w_callI X dX10_init_83 rfl il_X10_40 (iX9 l hg.1 hg.2.2.1 hnew (by omega) ) (As := []) (st := [.ref (n + 40), .ref k]) rfl rfl (w_rl ⟨wRf_r (by omega), trivial⟩ ⟨wRf_r (by omega), wRf_r (by omega), trivial⟩) (Nat.le_of_ble_eq_true rfl) ⟨Nat.le_of_ble_eq_true rfl, Nat.le_of_ble_eq_true rfl⟩ ⟨Nat.le_of_ble_eq_true rfl, Nat.le_of_ble_eq_true rfl⟩ (fun ad14 ha14 X => ?_)
  have ha : ∀ q, (q < n ∨ 99999 ≤ q) → ad14 q = ad q := fun q hq => (ha14 q (by omega)).trans (ha q hq)
  have hg2 : wG S19 (sX9 S19 (n + 41) (n + 40) ) (n + 41) ((n + 41) + 1) (n + 40) := gX9 hg.1 hg.2.2.1 hnew 
  have hk := (hg2.2.2.2 k (by omega) (by omega)).trans hk
  have hnew : (sX9 S19 (n + 41) (n + 40) )[(n + 40)]? = some (15, 0, [(0, 0), (2, (n + 41))]) := qX9 hg.1 hg.2.2.1 hnew 
  have hg : wG S (sX9 S19 (n + 41) (n + 40) ) n (n + 42) k := wG_call hg hg2 (by omega)
  generalize hs20 : sX9 S19 (n + 41) (n + 40) = S20 at hk hg hnew ⊢
  refine w_putR2 X dX10_init_86 rfl (ci := 10) (C := RX10) (T := TX10) (N := 12) (ty0 := tyX10) (ty := tyX10 6) (j := 6) rfl wcl_10 tyX10_ok nmX10 (by decide) wd_320 rfl hin rfl (by decide +kernel) (fun _ => rfl) (fun _ => rfl) hk (Nat.le_of_ble_eq_true rfl) (fs2 := [(2, n), (2, (n + 2)), (2, (n + 15)), (2, (n + 28)), (2, (n + 33)), (2, (n + 38)), (2, (n + 40)), (3, 0), (3, 0), (3, 0), (3, 0), (3, 0)]) rfl ?_
  have hg : wG S (S20.set k (16, 0, [(2, n), (2, (n + 2)), (2, (n + 15)), (2, (n + 28)), (2, (n + 33)), (2, (n + 38)), (2, (n + 40)), (3, 0), (3, 0), (3, 0), (3, 0), (3, 0)])) n (n + 42) k := wG_set2 (j := 6) (r := (n + 40)) hg hk (by omega) (Or.inl rfl) rfl
  have hk := w_stk (x := (16, 0, [(2, n), (2, (n + 2)), (2, (n + 15)), (2, (n + 28)), (2, (n + 33)), (2, (n + 38)), (2, (n + 40)), (3, 0), (3, 0), (3, 0), (3, 0), (3, 0)])) hk
  have hnew := w_sto (k2 := k) (x := (16, 0, [(2, n), (2, (n + 2)), (2, (n + 15)), (2, (n + 28)), (2, (n + 33)), (2, (n + 38)), (2, (n + 40)), (3, 0), (3, 0), (3, 0), (3, 0), (3, 0)])) (by omega) hnew
  generalize hs21 : S20.set k (16, 0, [(2, n), (2, (n + 2)), (2, (n + 15)), (2, (n + 28)), (2, (n + 33)), (2, (n + 38)), (2, (n + 40)), (3, 0), (3, 0), (3, 0), (3, 0), (3, 0)]) = S21 at hk hg hnew ⊢
  refine w_aload_n X dX10_init_89 rfl rfl rfl ?_
  refine w_newo X (ci := 5) (N := 5) (C := RX5) (T := TX5) (ty := tyX5) (fs := [(0, 0), (3, 0), (3, 0), (3, 0), (3, 0)]) dX10_init_90 rfl rfl wcl_5 tyX5_ok wd_201 wd_202 wd_7 (by decide +kernel) (by decide +kernel) hg.2.2.1 hg.1 (by omega) (w_rl ⟨wRf_r (by omega), trivial⟩ ⟨wRf_r (by omega), trivial⟩) ⟨Nat.le_of_ble_eq_true rfl, Nat.le_of_ble_eq_true rfl⟩ (fun ad15 ha15 X => ?_)
  have ha : ∀ q, (q < n ∨ 99999 ≤ q) → ad15 q = ad q := fun q hq => (ha15 q (by omega)).trans (ha q hq)
  have hnew := w_apn (x := (11, 0, [(0, 0), (3, 0), (3, 0), (3, 0), (3, 0)])) hg.1
  have hk := w_apk (x := (11, 0, [(0, 0), (3, 0), (3, 0), (3, 0), (3, 0)])) hk
  have hg : wG S (S21 ++ [(11, 0, [(0, 0), (3, 0), (3, 0), (3, 0), (3, 0)])]) n (n + 43) k := wG_app (t := 11) (N := 0) (fs := [(0, 0), (3, 0), (3, 0), (3, 0), (3, 0)]) hg (by decide)
  generalize hs22 : S21 ++ [(11, 0, [(0, 0), (3, 0), (3, 0), (3, 0), (3, 0)])] = S22 at hk hg hnew ⊢
  refine w_dup X dX10_init_93 rfl rfl ?_
  refine w_callI X dX10_init_94 rfl il_X10_50 (iX5 l hg.1 hg.2.2.1 hnew (by omega) ) (As := []) (st := [.ref (n + 42), .ref k]) rfl rfl (w_rl ⟨wRf_r (by omega), trivial⟩ ⟨wRf_r (by omega), wRf_r (by omega), trivial⟩) (Nat.le_of_ble_eq_true rfl) ⟨Nat.le_of_ble_eq_true rfl, Nat.le_of_ble_eq_true rfl⟩ ⟨Nat.le_of_ble_eq_true rfl, Nat.le_of_ble_eq_true rfl⟩ (fun ad16 ha16 X => ?_)
  have ha : ∀ q, (q < n ∨ 99999 ≤ q) → ad16 q = ad q := fun q hq => (ha16 q (by omega)).trans (ha q hq)
  have hg2 : wG S22 (sX5 S22 (n + 43) (n + 42) ) (n + 43) ((n + 43) + 4) (n + 42) := gX5 hg.1 hg.2.2.1 hnew 
  have hk := (hg2.2.2.2 k (by omega) (by omega)).trans hk
  have hnew : (sX5 S22 (n + 43) (n + 42) )[(n + 42)]? = some (11, 0, [(0, 0), (2, (n + 43)), (2, ((n + 43) + 1)), (2, ((n + 43) + 2)), (2, ((n + 43) + 3))]) := qX5 hg.1 hg.2.2.1 hnew 
  have hg : wG S (sX5 S22 (n + 43) (n + 42) ) n (n + 47) k := wG_call hg hg2 (by omega)
  generalize hs23 : sX5 S22 (n + 43) (n + 42) = S23 at hk hg hnew ⊢
  refine w_putR2 X dX10_init_97 rfl (ci := 10) (C := RX10) (T := TX10) (N := 12) (ty0 := tyX10) (ty := tyX10 7) (j := 7) rfl wcl_10 tyX10_ok nmX10 (by decide) wd_321 rfl hin rfl (by decide +kernel) (fun _ => rfl) (fun _ => rfl) hk (Nat.le_of_ble_eq_true rfl) (fs2 := [(2, n), (2, (n + 2)), (2, (n + 15)), (2, (n + 28)), (2, (n + 33)), (2, (n + 38)), (2, (n + 40)), (2, (n + 42)), (3, 0), (3, 0), (3, 0), (3, 0)]) rfl ?_
  have hg : wG S (S23.set k (16, 0, [(2, n), (2, (n + 2)), (2, (n + 15)), (2, (n + 28)), (2, (n + 33)), (2, (n + 38)), (2, (n + 40)), (2, (n + 42)), (3, 0), (3, 0), (3, 0), (3, 0)])) n (n + 47) k := wG_set2 (j := 7) (r := (n + 42)) hg hk (by omega) (Or.inl rfl) rfl
  have hk := w_stk (x := (16, 0, [(2, n), (2, (n + 2)), (2, (n + 15)), (2, (n + 28)), (2, (n + 33)), (2, (n + 38)), (2, (n + 40)), (2, (n + 42)), (3, 0), (3, 0), (3, 0), (3, 0)])) hk
  have hnew := w_sto (k2 := k) (x := (16, 0, [(2, n), (2, (n + 2)), (2, (n + 15)), (2, (n + 28)), (2, (n + 33)), (2, (n + 38)), (2, (n + 40)), (2, (n + 42)), (3, 0), (3, 0), (3, 0), (3, 0)])) (by omega) hnew
  generalize hs24 : S23.set k (16, 0, [(2, n), (2, (n + 2)), (2, (n + 15)), (2, (n + 28)), (2, (n + 33)), (2, (n + 38)), (2, (n + 40)), (2, (n + 42)), (3, 0), (3, 0), (3, 0), (3, 0)]) = S24 at hk hg hnew ⊢
  refine w_aload_n X dX10_init_100 rfl rfl rfl ?_
  refine w_newo X (ci := 8) (N := 3) (C := RX8) (T := TX8) (ty := tyX8) (fs := [(0, 0), (0, 0), (3, 0)]) dX10_init_101 rfl rfl wcl_8 tyX8_ok wd_224 wd_225 wd_8 (by decide +kernel) (by decide +kernel) hg.2.2.1 hg.1 (by omega) (w_rl ⟨wRf_r (by omega), trivial⟩ ⟨wRf_r (by omega), trivial⟩) ⟨Nat.le_of_ble_eq_true rfl, Nat.le_of_ble_eq_true rfl⟩ (fun ad17 ha17 X => ?_)
  have ha : ∀ q, (q < n ∨ 99999 ≤ q) → ad17 q = ad q := fun q hq => (ha17 q (by omega)).trans (ha q hq)
  have hnew := w_apn (x := (14, 0, [(0, 0), (0, 0), (3, 0)])) hg.1
  have hk := w_apk (x := (14, 0, [(0, 0), (0, 0), (3, 0)])) hk
  have hg : wG S (S24 ++ [(14, 0, [(0, 0), (0, 0), (3, 0)])]) n (n + 48) k := wG_app (t := 14) (N := 0) (fs := [(0, 0), (0, 0), (3, 0)]) hg (by decide)
  generalize hs25 : S24 ++ [(14, 0, [(0, 0), (0, 0), (3, 0)])] = S25 at hk hg hnew ⊢
  refine w_dup X dX10_init_104 rfl rfl ?_
  refine w_aload_n X dX10_init_105 rfl rfl rfl ?_
  refine w_getR X dX10_init_106 rfl fl_X10_19 hk rfl ?_
  refine w_callI X dX10_init_109 rfl il_X10_57 (iX8 l hg.1 hg.2.2.1 hnew (by omega) (by omega)) (As := [.ref (n + 2)]) (st := [.ref (n + 47), .ref k]) rfl rfl (w_rl ⟨wRf_r (by omega), trivial⟩ ⟨wRf_r (by omega), wRf_r (by omega), trivial⟩) (Nat.le_of_ble_eq_true rfl) ⟨Nat.le_of_ble_eq_true rfl, Nat.le_of_ble_eq_true rfl⟩ ⟨Nat.le_of_ble_eq_true rfl, Nat.le_of_ble_eq_true rfl⟩ (fun ad18 ha18 X => ?_)
  have ha : ∀ q, (q < n ∨ 99999 ≤ q) → ad18 q = ad q := fun q hq => (ha18 q (by omega)).trans (ha q hq)
  have hg2 : wG S25 (sX8 S25 (n + 48) (n + 47) (n + 2)) (n + 48) ((n + 48) + 81) (n + 47) := gX8 hg.1 hg.2.2.1 hnew (by omega)
  have hk := (hg2.2.2.2 k (by omega) (by omega)).trans hk
  have hnew : (sX8 S25 (n + 48) (n + 47) (n + 2))[(n + 47)]? = some (14, 0, [(0, 0), (0, 0), (2, (n + 48))]) := qX8 hg.1 hg.2.2.1 hnew (by omega)
  have hg : wG S (sX8 S25 (n + 48) (n + 47) (n + 2)) n (n + 129) k := wG_call hg hg2 (by omega)
  generalize hs26 : sX8 S25 (n + 48) (n + 47) (n + 2) = S26 at hk hg hnew ⊢
  refine w_putR2 X dX10_init_112 rfl (ci := 10) (C := RX10) (T := TX10) (N := 12) (ty0 := tyX10) (ty := tyX10 8) (j := 8) rfl wcl_10 tyX10_ok nmX10 (by decide) wd_322 rfl hin rfl (by decide +kernel) (fun _ => rfl) (fun _ => rfl) hk (Nat.le_of_ble_eq_true rfl) (fs2 := [(2, n), (2, (n + 2)), (2, (n + 15)), (2, (n + 28)), (2, (n + 33)), (2, (n + 38)), (2, (n + 40)), (2, (n + 42)), (2, (n + 47)), (3, 0), (3, 0), (3, 0)]) rfl ?_
  have hg : wG S (S26.set k (16, 0, [(2, n), (2, (n + 2)), (2, (n + 15)), (2, (n + 28)), (2, (n + 33)), (2, (n + 38)), (2, (n + 40)), (2, (n + 42)), (2, (n + 47)), (3, 0), (3, 0), (3, 0)])) n (n + 129) k := wG_set2 (j := 8) (r := (n + 47)) hg hk (by omega) (Or.inl rfl) rfl
  have hk := w_stk (x := (16, 0, [(2, n), (2, (n + 2)), (2, (n + 15)), (2, (n + 28)), (2, (n + 33)), (2, (n + 38)), (2, (n + 40)), (2, (n + 42)), (2, (n + 47)), (3, 0), (3, 0), (3, 0)])) hk
  have hnew := w_sto (k2 := k) (x := (16, 0, [(2, n), (2, (n + 2)), (2, (n + 15)), (2, (n + 28)), (2, (n + 33)), (2, (n + 38)), (2, (n + 40)), (2, (n + 42)), (2, (n + 47)), (3, 0), (3, 0), (3, 0)])) (by omega) hnew
  generalize hs27 : S26.set k (16, 0, [(2, n), (2, (n + 2)), (2, (n + 15)), (2, (n + 28)), (2, (n + 33)), (2, (n + 38)), (2, (n + 40)), (2, (n + 42)), (2, (n + 47)), (3, 0), (3, 0), (3, 0)]) = S27 at hk hg hnew ⊢
  refine w_aload_n X dX10_init_115 rfl rfl rfl ?_
  refine w_newo X (ci := 3) (N := 7) (C := RX3) (T := TX3) (ty := tyX3) (fs := [(3, 0), (0, 0), (3, 0), (3, 0), (0, 0), (3, 0), (0, 0)]) dX10_init_116 rfl rfl wcl_3 tyX3_ok wd_244 wd_245 wd_9 (by decide +kernel) (by decide +kernel) hg.2.2.1 hg.1 (by omega) (w_rl ⟨wRf_r (by omega), trivial⟩ ⟨wRf_r (by omega), trivial⟩) ⟨Nat.le_of_ble_eq_true rfl, Nat.le_of_ble_eq_true rfl⟩ (fun ad19 ha19 X => ?_)
  have ha : ∀ q, (q < n ∨ 99999 ≤ q) → ad19 q = ad q := fun q hq => (ha19 q (by omega)).trans (ha q hq)
  have hnew := w_apn (x := (9, 0, [(3, 0), (0, 0), (3, 0), (3, 0), (0, 0), (3, 0), (0, 0)])) hg.1
  have hk := w_apk (x := (9, 0, [(3, 0), (0, 0), (3, 0), (3, 0), (0, 0), (3, 0), (0, 0)])) hk
  have hg : wG S (S27 ++ [(9, 0, [(3, 0), (0, 0), (3, 0), (3, 0), (0, 0), (3, 0), (0, 0)])]) n (n + 130) k := wG_app (t := 9) (N := 0) (fs := [(3, 0), (0, 0), (3, 0), (3, 0), (0, 0), (3, 0), (0, 0)]) hg (by decide)
  generalize hs28 : S27 ++ [(9, 0, [(3, 0), (0, 0), (3, 0), (3, 0), (0, 0), (3, 0), (0, 0)])] = S28 at hk hg hnew ⊢
  refine w_dup X dX10_init_119 rfl rfl ?_
  refine w_aload_n X dX10_init_120 rfl rfl rfl ?_
  refine w_getR X dX10_init_121 rfl fl_X10_19 hk rfl ?_
  refine w_callI X dX10_init_124 rfl il_X10_64 (iX3 l hg.1 hg.2.2.1 hnew (by omega) (by omega)) (As := [.ref (n + 2)]) (st := [.ref (n + 129), .ref k]) rfl rfl (w_rl ⟨wRf_r (by omega), trivial⟩ ⟨wRf_r (by omega), wRf_r (by omega), trivial⟩) (Nat.le_of_ble_eq_true rfl) ⟨Nat.le_of_ble_eq_true rfl, Nat.le_of_ble_eq_true rfl⟩ ⟨Nat.le_of_ble_eq_true rfl, Nat.le_of_ble_eq_true rfl⟩ (fun ad20 ha20 X => ?_)
  have ha : ∀ q, (q < n ∨ 99999 ≤ q) → ad20 q = ad q := fun q hq => (ha20 q (by omega)).trans (ha q hq)
  have hg2 : wG S28 (sX3 S28 (n + 130) (n + 129) (n + 2)) (n + 130) ((n + 130) + 3) (n + 129) := gX3 hg.1 hg.2.2.1 hnew (by omega)
  have hk := (hg2.2.2.2 k (by omega) (by omega)).trans hk
  have hnew : (sX3 S28 (n + 130) (n + 129) (n + 2))[(n + 129)]? = some (9, 0, [(2, (n + 2)), (0, 0), (2, (n + 130)), (2, ((n + 130) + 1)), (0, 0), (2, ((n + 130) + 2)), (0, 0)]) := qX3 hg.1 hg.2.2.1 hnew (by omega)
  have hg : wG S (sX3 S28 (n + 130) (n + 129) (n + 2)) n (n + 133) k := wG_call hg hg2 (by omega)
  generalize hs29 : sX3 S28 (n + 130) (n + 129) (n + 2) = S29 at hk hg hnew ⊢
  refine w_putR2 X dX10_init_127 rfl (ci := 10) (C := RX10) (T := TX10) (N := 12) (ty0 := tyX10) (ty := tyX10 9) (j := 9) rfl wcl_10 tyX10_ok nmX10 (by decide) wd_323 rfl hin rfl (by decide +kernel) (fun _ => rfl) (fun _ => rfl) hk (Nat.le_of_ble_eq_true rfl) (fs2 := [(2, n), (2, (n + 2)), (2, (n + 15)), (2, (n + 28)), (2, (n + 33)), (2, (n + 38)), (2, (n + 40)), (2, (n + 42)), (2, (n + 47)), (2, (n + 129)), (3, 0), (3, 0)]) rfl ?_
  have hg : wG S (S29.set k (16, 0, [(2, n), (2, (n + 2)), (2, (n + 15)), (2, (n + 28)), (2, (n + 33)), (2, (n + 38)), (2, (n + 40)), (2, (n + 42)), (2, (n + 47)), (2, (n + 129)), (3, 0), (3, 0)])) n (n + 133) k := wG_set2 (j := 9) (r := (n + 129)) hg hk (by omega) (Or.inl rfl) rfl
  have hk := w_stk (x := (16, 0, [(2, n), (2, (n + 2)), (2, (n + 15)), (2, (n + 28)), (2, (n + 33)), (2, (n + 38)), (2, (n + 40)), (2, (n + 42)), (2, (n + 47)), (2, (n + 129)), (3, 0), (3, 0)])) hk
  have hnew := w_sto (k2 := k) (x := (16, 0, [(2, n), (2, (n + 2)), (2, (n + 15)), (2, (n + 28)), (2, (n + 33)), (2, (n + 38)), (2, (n + 40)), (2, (n + 42)), (2, (n + 47)), (2, (n + 129)), (3, 0), (3, 0)])) (by omega) hnew
  generalize hs30 : S29.set k (16, 0, [(2, n), (2, (n + 2)), (2, (n + 15)), (2, (n + 28)), (2, (n + 33)), (2, (n + 38)), (2, (n + 40)), (2, (n + 42)), (2, (n + 47)), (2, (n + 129)), (3, 0), (3, 0)]) = S30 at hk hg hnew ⊢
  refine w_aload_n X dX10_init_130 rfl rfl rfl ?_
  refine w_newo X (ci := 1) (N := 1) (C := RX1) (T := TX1) (ty := tyX1) (fs := [(1, 0)]) dX10_init_131 rfl rfl wcl_1 tyX1_ok wd_274 wd_275 wd_10 (by decide +kernel) (by decide +kernel) hg.2.2.1 hg.1 (by omega) (w_rl ⟨wRf_r (by omega), trivial⟩ ⟨wRf_r (by omega), trivial⟩) ⟨Nat.le_of_ble_eq_true rfl, Nat.le_of_ble_eq_true rfl⟩ (fun ad21 ha21 X => ?_)
  have ha : ∀ q, (q < n ∨ 99999 ≤ q) → ad21 q = ad q := fun q hq => (ha21 q (by omega)).trans (ha q hq)
  have hnew := w_apn (x := (7, 0, [(1, 0)])) hg.1
  have hk := w_apk (x := (7, 0, [(1, 0)])) hk
  have hg : wG S (S30 ++ [(7, 0, [(1, 0)])]) n (n + 134) k := wG_app (t := 7) (N := 0) (fs := [(1, 0)]) hg (by decide)
  generalize hs31 : S30 ++ [(7, 0, [(1, 0)])] = S31 at hk hg hnew ⊢
  refine w_dup X dX10_init_134 rfl rfl ?_
  refine w_callI X dX10_init_135 rfl il_X10_71 (iX1 l hg.1 hg.2.2.1 hnew (by omega) ) (As := []) (st := [.ref (n + 133), .ref k]) rfl rfl (w_rl ⟨wRf_r (by omega), trivial⟩ ⟨wRf_r (by omega), wRf_r (by omega), trivial⟩) (Nat.le_of_ble_eq_true rfl) ⟨Nat.le_of_ble_eq_true rfl, Nat.le_of_ble_eq_true rfl⟩ ⟨Nat.le_of_ble_eq_true rfl, Nat.le_of_ble_eq_true rfl⟩ (fun ad22 ha22 X => ?_)
  have ha : ∀ q, (q < n ∨ 99999 ≤ q) → ad22 q = ad q := fun q hq => (ha22 q (by omega)).trans (ha q hq)
  have hg2 : wG S31 (sX1 S31 (n + 134) (n + 133) ) (n + 134) ((n + 134) + 0) (n + 133) := gX1 hg.1 hg.2.2.1 hnew 
  have hk := (hg2.2.2.2 k (by omega) (by omega)).trans hk
  have hnew : (sX1 S31 (n + 134) (n + 133) )[(n + 133)]? = some (7, 0, [(1, 0)]) := qX1 hg.1 hg.2.2.1 hnew 
  have hg : wG S (sX1 S31 (n + 134) (n + 133) ) n (n + 134) k := wG_call hg hg2 (by omega)
  generalize hs32 : sX1 S31 (n + 134) (n + 133) = S32 at hk hg hnew ⊢
  refine w_putR2 X dX10_init_138 rfl (ci := 10) (C := RX10) (T := TX10) (N := 12) (ty0 := tyX10) (ty := tyX10 10) (j := 10) rfl wcl_10 tyX10_ok nmX10 (by decide) wd_324 rfl hin rfl (by decide +kernel) (fun _ => rfl) (fun _ => rfl) hk (Nat.le_of_ble_eq_true rfl) (fs2 := [(2, n), (2, (n + 2)), (2, (n + 15)), (2, (n + 28)), (2, (n + 33)), (2, (n + 38)), (2, (n + 40)), (2, (n + 42)), (2, (n + 47)), (2, (n + 129)), (2, (n + 133)), (3, 0)]) rfl ?_
  have hg : wG S (S32.set k (16, 0, [(2, n), (2, (n + 2)), (2, (n + 15)), (2, (n + 28)), (2, (n + 33)), (2, (n + 38)), (2, (n + 40)), (2, (n + 42)), (2, (n + 47)), (2, (n + 129)), (2, (n + 133)), (3, 0)])) n (n + 134) k := wG_set2 (j := 10) (r := (n + 133)) hg hk (by omega) (Or.inl rfl) rfl
  have hk := w_stk (x := (16, 0, [(2, n), (2, (n + 2)), (2, (n + 15)), (2, (n + 28)), (2, (n + 33)), (2, (n + 38)), (2, (n + 40)), (2, (n + 42)), (2, (n + 47)), (2, (n + 129)), (2, (n + 133)), (3, 0)])) hk
  have hnew := w_sto (k2 := k) (x := (16, 0, [(2, n), (2, (n + 2)), (2, (n + 15)), (2, (n + 28)), (2, (n + 33)), (2, (n + 38)), (2, (n + 40)), (2, (n + 42)), (2, (n + 47)), (2, (n + 129)), (2, (n + 133)), (3, 0)])) (by omega) hnew
  generalize hs33 : S32.set k (16, 0, [(2, n), (2, (n + 2)), (2, (n + 15)), (2, (n + 28)), (2, (n + 33)), (2, (n + 38)), (2, (n + 40)), (2, (n + 42)), (2, (n + 47)), (2, (n + 129)), (2, (n + 133)), (3, 0)]) = S33 at hk hg hnew ⊢
  refine w_aload_n X dX10_init_141 rfl rfl rfl ?_
  refine w_iconst X dX10_init_142 rfl ci_4 ?_
  refine w_newq2 X (t := 4) (by decide) dX10_init_143 rfl wd_284 (by decide) (N := 4) (by decide) (by decide) (fs3 := [(3, 0), (3, 0), (3, 0), (3, 0)]) rfl hg.2.2.1 hg.1 (by omega) (w_rl ⟨wRf_r (by omega), trivial⟩ ⟨wRf_r (by omega), trivial⟩) ⟨Nat.le_of_ble_eq_true rfl, Nat.le_of_ble_eq_true rfl⟩ (fun ad23 ha23 X => ?_)
  have ha : ∀ q, (q < n ∨ 99999 ≤ q) → ad23 q = ad q := fun q hq => (ha23 q (by omega)).trans (ha q hq)
  have harr := w_apn (x := (4, 4, [(3, 0), (3, 0), (3, 0), (3, 0)])) hg.1
  have hk := w_apk (x := (4, 4, [(3, 0), (3, 0), (3, 0), (3, 0)])) hk
  have hg : wG S (S33 ++ [(4, 4, [(3, 0), (3, 0), (3, 0), (3, 0)])]) n (n + 135) k := wG_app (t := 4) (N := 4) (fs := [(3, 0), (3, 0), (3, 0), (3, 0)]) hg (by decide)
  have hnew := w_apk (x := (4, 4, [(3, 0), (3, 0), (3, 0), (3, 0)])) hnew
  generalize hs34 : S33 ++ [(4, 4, [(3, 0), (3, 0), (3, 0), (3, 0)])] = S34 at hk hg harr hnew ⊢
  refine w_putR2 X dX10_init_146 rfl (ci := 10) (C := RX10) (T := TX10) (N := 12) (ty0 := tyX10) (ty := tyX10 11) (j := 11) rfl wcl_10 tyX10_ok nmX10 (by decide) wd_325 rfl hin rfl (by decide +kernel) (fun _ => rfl) (fun _ => rfl) hk (Nat.le_of_ble_eq_true rfl) (fs2 := [(2, n), (2, (n + 2)), (2, (n + 15)), (2, (n + 28)), (2, (n + 33)), (2, (n + 38)), (2, (n + 40)), (2, (n + 42)), (2, (n + 47)), (2, (n + 129)), (2, (n + 133)), (2, (n + 134))]) rfl ?_
  have hg : wG S (S34.set k (16, 0, [(2, n), (2, (n + 2)), (2, (n + 15)), (2, (n + 28)), (2, (n + 33)), (2, (n + 38)), (2, (n + 40)), (2, (n + 42)), (2, (n + 47)), (2, (n + 129)), (2, (n + 133)), (2, (n + 134))])) n (n + 135) k := wG_set2 (j := 11) (r := (n + 134)) hg hk (by omega) (Or.inl rfl) rfl
  have harr := w_sto (k2 := k) (x := (16, 0, [(2, n), (2, (n + 2)), (2, (n + 15)), (2, (n + 28)), (2, (n + 33)), (2, (n + 38)), (2, (n + 40)), (2, (n + 42)), (2, (n + 47)), (2, (n + 129)), (2, (n + 133)), (2, (n + 134))])) (by omega) harr
  have hk := w_stk (x := (16, 0, [(2, n), (2, (n + 2)), (2, (n + 15)), (2, (n + 28)), (2, (n + 33)), (2, (n + 38)), (2, (n + 40)), (2, (n + 42)), (2, (n + 47)), (2, (n + 129)), (2, (n + 133)), (2, (n + 134))])) hk
  have hnew := w_sto (k2 := k) (x := (16, 0, [(2, n), (2, (n + 2)), (2, (n + 15)), (2, (n + 28)), (2, (n + 33)), (2, (n + 38)), (2, (n + 40)), (2, (n + 42)), (2, (n + 47)), (2, (n + 129)), (2, (n + 133)), (2, (n + 134))])) (by omega) hnew
  generalize hs35 : S34.set k (16, 0, [(2, n), (2, (n + 2)), (2, (n + 15)), (2, (n + 28)), (2, (n + 33)), (2, (n + 38)), (2, (n + 40)), (2, (n + 42)), (2, (n + 47)), (2, (n + 129)), (2, (n + 133)), (2, (n + 134))]) = S35 at hk hg harr hnew ⊢
  refine w_iconst X dX10_init_149 rfl ci_0 ?_
  refine w_istore_n X dX10_init_150 rfl rfl rfl (Nat.le_of_ble_eq_true rfl) (ls' := [some (.ref k), some (.int 0)]) rfl ?_
  refine w_iload_n X dX10_init_151 rfl rfl rfl ?_
  refine w_iconst X dX10_init_152 rfl ci_4 ?_
  refine w_icmp_ge X dX10_init_153 rfl (t := 179) rfl (fun hc => absurd hc (by decide)) (fun _ => ?_)
  refine w_aload_n X dX10_init_156 rfl rfl rfl ?_
  refine w_getR X dX10_init_157 rfl fl_X10_78 hk rfl ?_
  refine w_iload_n X dX10_init_160 rfl rfl rfl ?_
  refine w_newo X (ci := 0) (N := 4) (C := RX0) (T := TX0) (ty := tyX0) (fs := [(0, 0), (3, 0), (3, 0), (3, 0)]) dX10_init_161 rfl rfl wcl_0 tyX0_ok wd_284 wd_286 wd_11 (by decide +kernel) (by decide +kernel) hg.2.2.1 hg.1 (by omega) (w_rl ⟨wRf_r (by omega), trivial, trivial⟩ ⟨trivial, wRf_r (by omega), trivial⟩) ⟨Nat.le_of_ble_eq_true rfl, Nat.le_of_ble_eq_true rfl⟩ (fun ad24 ha24 X => ?_)
  have ha : ∀ q, (q < n ∨ 99999 ≤ q) → ad24 q = ad q := fun q hq => (ha24 q (by omega)).trans (ha q hq)
  have hnew := w_apn (x := (6, 0, [(0, 0), (3, 0), (3, 0), (3, 0)])) hg.1
  have hk := w_apk (x := (6, 0, [(0, 0), (3, 0), (3, 0), (3, 0)])) hk
  have hg : wG S (S35 ++ [(6, 0, [(0, 0), (3, 0), (3, 0), (3, 0)])]) n (n + 136) k := wG_app (t := 6) (N := 0) (fs := [(0, 0), (3, 0), (3, 0), (3, 0)]) hg (by decide)
  have harr := w_apk (x := (6, 0, [(0, 0), (3, 0), (3, 0), (3, 0)])) harr
  generalize hs36 : S35 ++ [(6, 0, [(0, 0), (3, 0), (3, 0), (3, 0)])] = S36 at hk hg harr hnew ⊢
  refine w_dup X dX10_init_164 rfl rfl ?_
  refine w_aload_n X dX10_init_165 rfl rfl rfl ?_
  refine w_getR X dX10_init_166 rfl fl_X10_19 hk rfl ?_
  refine w_callI X dX10_init_169 rfl il_X10_82 (iX0 l hg.1 hg.2.2.1 hnew (by omega) (by omega)) (As := [.ref (n + 2)]) (st := [.ref (n + 135), .int 0, .ref (n + 134)]) rfl rfl (w_rl ⟨wRf_r (by omega), trivial, trivial⟩ ⟨wRf_r (by omega), trivial, wRf_r (by omega), trivial⟩) (Nat.le_of_ble_eq_true rfl) ⟨Nat.le_of_ble_eq_true rfl, Nat.le_of_ble_eq_true rfl⟩ ⟨Nat.le_of_ble_eq_true rfl, Nat.le_of_ble_eq_true rfl⟩ (fun ad25 ha25 X => ?_)
  have ha : ∀ q, (q < n ∨ 99999 ≤ q) → ad25 q = ad q := fun q hq => (ha25 q (by omega)).trans (ha q hq)
  have hg2 : wG S36 (sX0 S36 (n + 136) (n + 135) (n + 2)) (n + 136) ((n + 136) + 12) (n + 135) := gX0 hg.1 hg.2.2.1 hnew (by omega)
  have hk := (hg2.2.2.2 k (by omega) (by omega)).trans hk
  have harr := (hg2.2.2.2 _ (by omega) (by omega)).trans harr
  have hnew : (sX0 S36 (n + 136) (n + 135) (n + 2))[(n + 135)]? = some (6, 0, [(0, 0), (2, ((n + 136) + 7)), (2, (n + 136)), (2, ((n + 136) + 2))]) := qX0 hg.1 hg.2.2.1 hnew (by omega)
  have hg : wG S (sX0 S36 (n + 136) (n + 135) (n + 2)) n (n + 148) k := wG_call hg hg2 (by omega)
  generalize hs37 : sX0 S36 (n + 136) (n + 135) (n + 2) = S37 at hk hg harr hnew ⊢
  refine w_aastq2 X dX10_init_172 rfl (t := 4) (ci := 0) (C := RX0) (T := TX0) (N2 := 4) rfl rfl (by decide) harr hnew (j := 0) (by decide) (show wib 0 4 by decide) (by simp) (fs3 := [(2, (n + 135)), (3, 0), (3, 0), (3, 0)]) rfl ?_
  have hg : wG S (S37.set (n + 134) (4, 4, [(2, (n + 135)), (3, 0), (3, 0), (3, 0)])) n (n + 148) k := wG_set2 (j := 0) (r := (n + 135)) hg harr (by omega) (Or.inr (by omega)) rfl
  have hk := w_sto (k2 := (n + 134)) (x := (4, 4, [(2, (n + 135)), (3, 0), (3, 0), (3, 0)])) (by omega) hk
  have harr := w_stk (x := (4, 4, [(2, (n + 135)), (3, 0), (3, 0), (3, 0)])) harr
  have hnew := w_sto (k2 := (n + 134)) (x := (4, 4, [(2, (n + 135)), (3, 0), (3, 0), (3, 0)])) (by omega) hnew
  generalize hs38 : S37.set (n + 134) (4, 4, [(2, (n + 135)), (3, 0), (3, 0), (3, 0)]) = S38 at hk hg harr hnew ⊢
  refine w_iinc X dX10_init_173 rfl (v := 1) rfl rfl (Nat.le_of_ble_eq_true rfl) (by decide) (ls' := [some (.ref k), some (.int 1)]) rfl ?_
  refine w_goto X dX10_init_176 (t := 151) rfl ?_
  refine w_iload_n X dX10_init_151 rfl rfl rfl ?_
  refine w_iconst X dX10_init_152 rfl ci_4 ?_
  refine w_icmp_ge X dX10_init_153 rfl (t := 179) rfl (fun hc => absurd hc (by decide)) (fun _ => ?_)
  refine w_aload_n X dX10_init_156 rfl rfl rfl ?_
  refine w_getR X dX10_init_157 rfl fl_X10_78 hk rfl ?_
  refine w_iload_n X dX10_init_160 rfl rfl rfl ?_
  refine w_newo X (ci := 0) (N := 4) (C := RX0) (T := TX0) (ty := tyX0) (fs := [(0, 0), (3, 0), (3, 0), (3, 0)]) dX10_init_161 rfl rfl wcl_0 tyX0_ok wd_284 wd_286 wd_11 (by decide +kernel) (by decide +kernel) hg.2.2.1 hg.1 (by omega) (w_rl ⟨wRf_r (by omega), trivial, trivial⟩ ⟨trivial, wRf_r (by omega), trivial⟩) ⟨Nat.le_of_ble_eq_true rfl, Nat.le_of_ble_eq_true rfl⟩ (fun ad26 ha26 X => ?_)
  have ha : ∀ q, (q < n ∨ 99999 ≤ q) → ad26 q = ad q := fun q hq => (ha26 q (by omega)).trans (ha q hq)
  have hnew := w_apn (x := (6, 0, [(0, 0), (3, 0), (3, 0), (3, 0)])) hg.1
  have hk := w_apk (x := (6, 0, [(0, 0), (3, 0), (3, 0), (3, 0)])) hk
  have hg : wG S (S38 ++ [(6, 0, [(0, 0), (3, 0), (3, 0), (3, 0)])]) n (n + 149) k := wG_app (t := 6) (N := 0) (fs := [(0, 0), (3, 0), (3, 0), (3, 0)]) hg (by decide)
  have harr := w_apk (x := (6, 0, [(0, 0), (3, 0), (3, 0), (3, 0)])) harr
  generalize hs39 : S38 ++ [(6, 0, [(0, 0), (3, 0), (3, 0), (3, 0)])] = S39 at hk hg harr hnew ⊢
  refine w_dup X dX10_init_164 rfl rfl ?_
  refine w_aload_n X dX10_init_165 rfl rfl rfl ?_
  refine w_getR X dX10_init_166 rfl fl_X10_19 hk rfl ?_
  refine w_callI X dX10_init_169 rfl il_X10_82 (iX0 l hg.1 hg.2.2.1 hnew (by omega) (by omega)) (As := [.ref (n + 2)]) (st := [.ref (n + 148), .int 1, .ref (n + 134)]) rfl rfl (w_rl ⟨wRf_r (by omega), trivial, trivial⟩ ⟨wRf_r (by omega), trivial, wRf_r (by omega), trivial⟩) (Nat.le_of_ble_eq_true rfl) ⟨Nat.le_of_ble_eq_true rfl, Nat.le_of_ble_eq_true rfl⟩ ⟨Nat.le_of_ble_eq_true rfl, Nat.le_of_ble_eq_true rfl⟩ (fun ad27 ha27 X => ?_)
  have ha : ∀ q, (q < n ∨ 99999 ≤ q) → ad27 q = ad q := fun q hq => (ha27 q (by omega)).trans (ha q hq)
  have hg2 : wG S39 (sX0 S39 (n + 149) (n + 148) (n + 2)) (n + 149) ((n + 149) + 12) (n + 148) := gX0 hg.1 hg.2.2.1 hnew (by omega)
  have hk := (hg2.2.2.2 k (by omega) (by omega)).trans hk
  have harr := (hg2.2.2.2 _ (by omega) (by omega)).trans harr
  have hnew : (sX0 S39 (n + 149) (n + 148) (n + 2))[(n + 148)]? = some (6, 0, [(0, 0), (2, ((n + 149) + 7)), (2, (n + 149)), (2, ((n + 149) + 2))]) := qX0 hg.1 hg.2.2.1 hnew (by omega)
  have hg : wG S (sX0 S39 (n + 149) (n + 148) (n + 2)) n (n + 161) k := wG_call hg hg2 (by omega)
  generalize hs40 : sX0 S39 (n + 149) (n + 148) (n + 2) = S40 at hk hg harr hnew ⊢
  refine w_aastq2 X dX10_init_172 rfl (t := 4) (ci := 0) (C := RX0) (T := TX0) (N2 := 4) rfl rfl (by decide) harr hnew (j := 1) (by decide) (show wib 1 4 by decide) (by simp) (fs3 := [(2, (n + 135)), (2, (n + 148)), (3, 0), (3, 0)]) rfl ?_
  have hg : wG S (S40.set (n + 134) (4, 4, [(2, (n + 135)), (2, (n + 148)), (3, 0), (3, 0)])) n (n + 161) k := wG_set2 (j := 1) (r := (n + 148)) hg harr (by omega) (Or.inr (by omega)) rfl
  have hk := w_sto (k2 := (n + 134)) (x := (4, 4, [(2, (n + 135)), (2, (n + 148)), (3, 0), (3, 0)])) (by omega) hk
  have harr := w_stk (x := (4, 4, [(2, (n + 135)), (2, (n + 148)), (3, 0), (3, 0)])) harr
  have hnew := w_sto (k2 := (n + 134)) (x := (4, 4, [(2, (n + 135)), (2, (n + 148)), (3, 0), (3, 0)])) (by omega) hnew
  generalize hs41 : S40.set (n + 134) (4, 4, [(2, (n + 135)), (2, (n + 148)), (3, 0), (3, 0)]) = S41 at hk hg harr hnew ⊢
  refine w_iinc X dX10_init_173 rfl (v := 2) rfl rfl (Nat.le_of_ble_eq_true rfl) (by decide) (ls' := [some (.ref k), some (.int 2)]) rfl ?_
  refine w_goto X dX10_init_176 (t := 151) rfl ?_
  refine w_iload_n X dX10_init_151 rfl rfl rfl ?_
  refine w_iconst X dX10_init_152 rfl ci_4 ?_
  refine w_icmp_ge X dX10_init_153 rfl (t := 179) rfl (fun hc => absurd hc (by decide)) (fun _ => ?_)
  refine w_aload_n X dX10_init_156 rfl rfl rfl ?_
  refine w_getR X dX10_init_157 rfl fl_X10_78 hk rfl ?_
  refine w_iload_n X dX10_init_160 rfl rfl rfl ?_
  refine w_newo X (ci := 0) (N := 4) (C := RX0) (T := TX0) (ty := tyX0) (fs := [(0, 0), (3, 0), (3, 0), (3, 0)]) dX10_init_161 rfl rfl wcl_0 tyX0_ok wd_284 wd_286 wd_11 (by decide +kernel) (by decide +kernel) hg.2.2.1 hg.1 (by omega) (w_rl ⟨wRf_r (by omega), trivial, trivial⟩ ⟨trivial, wRf_r (by omega), trivial⟩) ⟨Nat.le_of_ble_eq_true rfl, Nat.le_of_ble_eq_true rfl⟩ (fun ad28 ha28 X => ?_)
  have ha : ∀ q, (q < n ∨ 99999 ≤ q) → ad28 q = ad q := fun q hq => (ha28 q (by omega)).trans (ha q hq)
  have hnew := w_apn (x := (6, 0, [(0, 0), (3, 0), (3, 0), (3, 0)])) hg.1
  have hk := w_apk (x := (6, 0, [(0, 0), (3, 0), (3, 0), (3, 0)])) hk
  have hg : wG S (S41 ++ [(6, 0, [(0, 0), (3, 0), (3, 0), (3, 0)])]) n (n + 162) k := wG_app (t := 6) (N := 0) (fs := [(0, 0), (3, 0), (3, 0), (3, 0)]) hg (by decide)
  have harr := w_apk (x := (6, 0, [(0, 0), (3, 0), (3, 0), (3, 0)])) harr
  generalize hs42 : S41 ++ [(6, 0, [(0, 0), (3, 0), (3, 0), (3, 0)])] = S42 at hk hg harr hnew ⊢
  refine w_dup X dX10_init_164 rfl rfl ?_
  refine w_aload_n X dX10_init_165 rfl rfl rfl ?_
  refine w_getR X dX10_init_166 rfl fl_X10_19 hk rfl ?_
  refine w_callI X dX10_init_169 rfl il_X10_82 (iX0 l hg.1 hg.2.2.1 hnew (by omega) (by omega)) (As := [.ref (n + 2)]) (st := [.ref (n + 161), .int 2, .ref (n + 134)]) rfl rfl (w_rl ⟨wRf_r (by omega), trivial, trivial⟩ ⟨wRf_r (by omega), trivial, wRf_r (by omega), trivial⟩) (Nat.le_of_ble_eq_true rfl) ⟨Nat.le_of_ble_eq_true rfl, Nat.le_of_ble_eq_true rfl⟩ ⟨Nat.le_of_ble_eq_true rfl, Nat.le_of_ble_eq_true rfl⟩ (fun ad29 ha29 X => ?_)
  have ha : ∀ q, (q < n ∨ 99999 ≤ q) → ad29 q = ad q := fun q hq => (ha29 q (by omega)).trans (ha q hq)
  have hg2 : wG S42 (sX0 S42 (n + 162) (n + 161) (n + 2)) (n + 162) ((n + 162) + 12) (n + 161) := gX0 hg.1 hg.2.2.1 hnew (by omega)
  have hk := (hg2.2.2.2 k (by omega) (by omega)).trans hk
  have harr := (hg2.2.2.2 _ (by omega) (by omega)).trans harr
  have hnew : (sX0 S42 (n + 162) (n + 161) (n + 2))[(n + 161)]? = some (6, 0, [(0, 0), (2, ((n + 162) + 7)), (2, (n + 162)), (2, ((n + 162) + 2))]) := qX0 hg.1 hg.2.2.1 hnew (by omega)
  have hg : wG S (sX0 S42 (n + 162) (n + 161) (n + 2)) n (n + 174) k := wG_call hg hg2 (by omega)
  generalize hs43 : sX0 S42 (n + 162) (n + 161) (n + 2) = S43 at hk hg harr hnew ⊢
  refine w_aastq2 X dX10_init_172 rfl (t := 4) (ci := 0) (C := RX0) (T := TX0) (N2 := 4) rfl rfl (by decide) harr hnew (j := 2) (by decide) (show wib 2 4 by decide) (by simp) (fs3 := [(2, (n + 135)), (2, (n + 148)), (2, (n + 161)), (3, 0)]) rfl ?_
  have hg : wG S (S43.set (n + 134) (4, 4, [(2, (n + 135)), (2, (n + 148)), (2, (n + 161)), (3, 0)])) n (n + 174) k := wG_set2 (j := 2) (r := (n + 161)) hg harr (by omega) (Or.inr (by omega)) rfl
  have hk := w_sto (k2 := (n + 134)) (x := (4, 4, [(2, (n + 135)), (2, (n + 148)), (2, (n + 161)), (3, 0)])) (by omega) hk
  have harr := w_stk (x := (4, 4, [(2, (n + 135)), (2, (n + 148)), (2, (n + 161)), (3, 0)])) harr
  have hnew := w_sto (k2 := (n + 134)) (x := (4, 4, [(2, (n + 135)), (2, (n + 148)), (2, (n + 161)), (3, 0)])) (by omega) hnew
  generalize hs44 : S43.set (n + 134) (4, 4, [(2, (n + 135)), (2, (n + 148)), (2, (n + 161)), (3, 0)]) = S44 at hk hg harr hnew ⊢
  refine w_iinc X dX10_init_173 rfl (v := 3) rfl rfl (Nat.le_of_ble_eq_true rfl) (by decide) (ls' := [some (.ref k), some (.int 3)]) rfl ?_
  refine w_goto X dX10_init_176 (t := 151) rfl ?_
  refine w_iload_n X dX10_init_151 rfl rfl rfl ?_
  refine w_iconst X dX10_init_152 rfl ci_4 ?_
  refine w_icmp_ge X dX10_init_153 rfl (t := 179) rfl (fun hc => absurd hc (by decide)) (fun _ => ?_)
  refine w_aload_n X dX10_init_156 rfl rfl rfl ?_
  refine w_getR X dX10_init_157 rfl fl_X10_78 hk rfl ?_
  refine w_iload_n X dX10_init_160 rfl rfl rfl ?_
  refine w_newo X (ci := 0) (N := 4) (C := RX0) (T := TX0) (ty := tyX0) (fs := [(0, 0), (3, 0), (3, 0), (3, 0)]) dX10_init_161 rfl rfl wcl_0 tyX0_ok wd_284 wd_286 wd_11 (by decide +kernel) (by decide +kernel) hg.2.2.1 hg.1 (by omega) (w_rl ⟨wRf_r (by omega), trivial, trivial⟩ ⟨trivial, wRf_r (by omega), trivial⟩) ⟨Nat.le_of_ble_eq_true rfl, Nat.le_of_ble_eq_true rfl⟩ (fun ad30 ha30 X => ?_)
  have ha : ∀ q, (q < n ∨ 99999 ≤ q) → ad30 q = ad q := fun q hq => (ha30 q (by omega)).trans (ha q hq)
  have hnew := w_apn (x := (6, 0, [(0, 0), (3, 0), (3, 0), (3, 0)])) hg.1
  have hk := w_apk (x := (6, 0, [(0, 0), (3, 0), (3, 0), (3, 0)])) hk
  have hg : wG S (S44 ++ [(6, 0, [(0, 0), (3, 0), (3, 0), (3, 0)])]) n (n + 175) k := wG_app (t := 6) (N := 0) (fs := [(0, 0), (3, 0), (3, 0), (3, 0)]) hg (by decide)
  have harr := w_apk (x := (6, 0, [(0, 0), (3, 0), (3, 0), (3, 0)])) harr
  generalize hs45 : S44 ++ [(6, 0, [(0, 0), (3, 0), (3, 0), (3, 0)])] = S45 at hk hg harr hnew ⊢
  refine w_dup X dX10_init_164 rfl rfl ?_
  refine w_aload_n X dX10_init_165 rfl rfl rfl ?_
  refine w_getR X dX10_init_166 rfl fl_X10_19 hk rfl ?_
  refine w_callI X dX10_init_169 rfl il_X10_82 (iX0 l hg.1 hg.2.2.1 hnew (by omega) (by omega)) (As := [.ref (n + 2)]) (st := [.ref (n + 174), .int 3, .ref (n + 134)]) rfl rfl (w_rl ⟨wRf_r (by omega), trivial, trivial⟩ ⟨wRf_r (by omega), trivial, wRf_r (by omega), trivial⟩) (Nat.le_of_ble_eq_true rfl) ⟨Nat.le_of_ble_eq_true rfl, Nat.le_of_ble_eq_true rfl⟩ ⟨Nat.le_of_ble_eq_true rfl, Nat.le_of_ble_eq_true rfl⟩ (fun ad31 ha31 X => ?_)
  have ha : ∀ q, (q < n ∨ 99999 ≤ q) → ad31 q = ad q := fun q hq => (ha31 q (by omega)).trans (ha q hq)
  have hg2 : wG S45 (sX0 S45 (n + 175) (n + 174) (n + 2)) (n + 175) ((n + 175) + 12) (n + 174) := gX0 hg.1 hg.2.2.1 hnew (by omega)
  have hk := (hg2.2.2.2 k (by omega) (by omega)).trans hk
  have harr := (hg2.2.2.2 _ (by omega) (by omega)).trans harr
  have hnew : (sX0 S45 (n + 175) (n + 174) (n + 2))[(n + 174)]? = some (6, 0, [(0, 0), (2, ((n + 175) + 7)), (2, (n + 175)), (2, ((n + 175) + 2))]) := qX0 hg.1 hg.2.2.1 hnew (by omega)
  have hg : wG S (sX0 S45 (n + 175) (n + 174) (n + 2)) n (n + 187) k := wG_call hg hg2 (by omega)
  generalize hs46 : sX0 S45 (n + 175) (n + 174) (n + 2) = S46 at hk hg harr hnew ⊢
  refine w_aastq2 X dX10_init_172 rfl (t := 4) (ci := 0) (C := RX0) (T := TX0) (N2 := 4) rfl rfl (by decide) harr hnew (j := 3) (by decide) (show wib 3 4 by decide) (by simp) (fs3 := [(2, (n + 135)), (2, (n + 148)), (2, (n + 161)), (2, (n + 174))]) rfl ?_
  have hg : wG S (S46.set (n + 134) (4, 4, [(2, (n + 135)), (2, (n + 148)), (2, (n + 161)), (2, (n + 174))])) n (n + 187) k := wG_set2 (j := 3) (r := (n + 174)) hg harr (by omega) (Or.inr (by omega)) rfl
  have hk := w_sto (k2 := (n + 134)) (x := (4, 4, [(2, (n + 135)), (2, (n + 148)), (2, (n + 161)), (2, (n + 174))])) (by omega) hk
  have harr := w_stk (x := (4, 4, [(2, (n + 135)), (2, (n + 148)), (2, (n + 161)), (2, (n + 174))])) harr
  have hnew := w_sto (k2 := (n + 134)) (x := (4, 4, [(2, (n + 135)), (2, (n + 148)), (2, (n + 161)), (2, (n + 174))])) (by omega) hnew
  generalize hs47 : S46.set (n + 134) (4, 4, [(2, (n + 135)), (2, (n + 148)), (2, (n + 161)), (2, (n + 174))]) = S47 at hk hg harr hnew ⊢
  refine w_iinc X dX10_init_173 rfl (v := 4) rfl rfl (Nat.le_of_ble_eq_true rfl) (by decide) (ls' := [some (.ref k), some (.int 4)]) rfl ?_
  refine w_goto X dX10_init_176 (t := 151) rfl ?_
  refine w_iload_n X dX10_init_151 rfl rfl rfl ?_
  refine w_iconst X dX10_init_152 rfl ci_4 ?_
  refine w_icmp_ge X dX10_init_153 rfl (t := 179) rfl (fun _ => ?_) (fun hc => absurd (by decide) hc)
  subst hs1
  subst hs2
  subst hs3
  subst hs4
  subst hs5
  subst hs6
  subst hs7
  subst hs8
  subst hs9
  subst hs10
  subst hs11
  subst hs12
  subst hs13
  subst hs14
  subst hs15
  subst hs16
  subst hs17
  subst hs18
  subst hs19
  subst hs20
  subst hs21
  subst hs22
  subst hs23
  subst hs24
  subst hs25
  subst hs26
  subst hs27
  subst hs28
  subst hs29
  subst hs30
  subst hs31
  subst hs32
  subst hs33
  subst hs34
  subst hs35
  subst hs36
  subst hs37
  subst hs38
  subst hs39
  subst hs40
  subst hs41
  subst hs42
  subst hs43
  subst hs44
  subst hs45
  subst hs46
  subst hs47
  exact w_vretI X dX10_init_179 hr ha (Nat.le_of_ble_eq_true rfl) (Nat.le_of_ble_eq_true rfl)
def sX11 (S : List wSh) (n k : Nat) : List wSh := (wst (wap (wst (wap (wst (wap (wst (wap (wst (wap (wst (wap (wst (wap (wst (wap (wst (wap (wst (wap (wst (wap (wst (wap (wst (wap (wst (wap (wst (wap (wst (wap (wst (wap (wst (wap (wst (wap (wst (wap (wst (wap (wst (wap (wst (wap (wst (wap (wst (wap (wst (wap (wst (wap (wst (wap (wst (wap (wst (wap (wst (wap (wst (wap (wst (wap (wst (wap (wst (wap (wst (wap (wst (wap (wst (wap (wst (wap (wst (wap (wst (wap (wst (wap (wst (wap (wst (wap S (0, 1000, [])) k (17, 0, [(0, 0), (0, 0), (2, n), (0, 0), (0, 0), (0, 0), (0, 0), (1, 0), (0, 0), (0, 0), (3, 0), (3, 0), (3, 0), (3, 0), (3, 0), (3, 0), (3, 0), (3, 0), (3, 0), (3, 0), (3, 0), (3, 0), (3, 0), (0, 0), (3, 0), (3, 0), (3, 0), (3, 0), (3, 0), (3, 0), (3, 0), (3, 0), (3, 0), (3, 0), (3, 0), (3, 0), (0, 0), (1, 0), (3, 0), (3, 0), (3, 0), (3, 0), (3, 0), (3, 0), (3, 0), (3, 0), (3, 0), (3, 0), (3, 0), (3, 0), (3, 0), (3, 0), (3, 0), (3, 0), (0, 0), (3, 0), (3, 0), (0, 0), (1, 0)])) (0, 6, [])) k (17, 0, [(0, 0), (0, 0), (2, n), (0, 0), (0, 0), (0, 0), (0, 0), (1, 0), (0, 0), (0, 0), (2, (n + 1)), (3, 0), (3, 0), (3, 0), (3, 0), (3, 0), (3, 0), (3, 0), (3, 0), (3, 0), (3, 0), (3, 0), (3, 0), (0, 0), (3, 0), (3, 0), (3, 0), (3, 0), (3, 0), (3, 0), (3, 0), (3, 0), (3, 0), (3, 0), (3, 0), (3, 0), (0, 0), (1, 0), (3, 0), (3, 0), (3, 0), (3, 0), (3, 0), (3, 0), (3, 0), (3, 0), (3, 0), (3, 0), (3, 0), (3, 0), (3, 0), (3, 0), (3, 0), (3, 0), (0, 0), (3, 0), (3, 0), (0, 0), (1, 0)])) (3, 6, [])) k (17, 0, [(0, 0), (0, 0), (2, n), (0, 0), (0, 0), (0, 0), (0, 0), (1, 0), (0, 0), (0, 0), (2, (n + 1)), (2, (n + 2)), (3, 0), (3, 0), (3, 0), (3, 0), (3, 0), (3, 0), (3, 0), (3, 0), (3, 0), (3, 0), (3, 0), (0, 0), (3, 0), (3, 0), (3, 0), (3, 0), (3, 0), (3, 0), (3, 0), (3, 0), (3, 0), (3, 0), (3, 0), (3, 0), (0, 0), (1, 0), (3, 0), (3, 0), (3, 0), (3, 0), (3, 0), (3, 0), (3, 0), (3, 0), (3, 0), (3, 0), (3, 0), (3, 0), (3, 0), (3, 0), (3, 0), (3, 0), (0, 0), (3, 0), (3, 0), (0, 0), (1, 0)])) (3, 12, [])) k (17, 0, [(0, 0), (0, 0), (2, n), (0, 0), (0, 0), (0, 0), (0, 0), (1, 0), (0, 0), (0, 0), (2, (n + 1)), (2, (n + 2)), (2, (n + 3)), (3, 0), (3, 0), (3, 0), (3, 0), (3, 0), (3, 0), (3, 0), (3, 0), (3, 0), (3, 0), (0, 0), (3, 0), (3, 0), (3, 0), (3, 0), (3, 0), (3, 0), (3, 0), (3, 0), (3, 0), (3, 0), (3, 0), (3, 0), (0, 0), (1, 0), (3, 0), (3, 0), (3, 0), (3, 0), (3, 0), (3, 0), (3, 0), (3, 0), (3, 0), (3, 0), (3, 0), (3, 0), (3, 0), (3, 0), (3, 0), (3, 0), (0, 0), (3, 0), (3, 0), (0, 0), (1, 0)])) (0, 6, [])) k (17, 0, [(0, 0), (0, 0), (2, n), (0, 0), (0, 0), (0, 0), (0, 0), (1, 0), (0, 0), (0, 0), (2, (n + 1)), (2, (n + 2)), (2, (n + 3)), (2, (n + 4)), (3, 0), (3, 0), (3, 0), (3, 0), (3, 0), (3, 0), (3, 0), (3, 0), (3, 0), (0, 0), (3, 0), (3, 0), (3, 0), (3, 0), (3, 0), (3, 0), (3, 0), (3, 0), (3, 0), (3, 0), (3, 0), (3, 0), (0, 0), (1, 0), (3, 0), (3, 0), (3, 0), (3, 0), (3, 0), (3, 0), (3, 0), (3, 0), (3, 0), (3, 0), (3, 0), (3, 0), (3, 0), (3, 0), (3, 0), (3, 0), (0, 0), (3, 0), (3, 0), (0, 0), (1, 0)])) (0, 6, [])) k (17, 0, [(0, 0), (0, 0), (2, n), (0, 0), (0, 0), (0, 0), (0, 0), (1, 0), (0, 0), (0, 0), (2, (n + 1)), (2, (n + 2)), (2, (n + 3)), (2, (n + 4)), (2, (n + 5)), (3, 0), (3, 0), (3, 0), (3, 0), (3, 0), (3, 0), (3, 0), (3, 0), (0, 0), (3, 0), (3, 0), (3, 0), (3, 0), (3, 0), (3, 0), (3, 0), (3, 0), (3, 0), (3, 0), (3, 0), (3, 0), (0, 0), (1, 0), (3, 0), (3, 0), (3, 0), (3, 0), (3, 0), (3, 0), (3, 0), (3, 0), (3, 0), (3, 0), (3, 0), (3, 0), (3, 0), (3, 0), (3, 0), (3, 0), (0, 0), (3, 0), (3, 0), (0, 0), (1, 0)])) (0, 6, [])) k (17, 0, [(0, 0), (0, 0), (2, n), (0, 0), (0, 0), (0, 0), (0, 0), (1, 0), (0, 0), (0, 0), (2, (n + 1)), (2, (n + 2)), (2, (n + 3)), (2, (n + 4)), (2, (n + 5)), (2, (n + 6)), (3, 0), (3, 0), (3, 0), (3, 0), (3, 0), (3, 0), (3, 0), (0, 0), (3, 0), (3, 0), (3, 0), (3, 0), (3, 0), (3, 0), (3, 0), (3, 0), (3, 0), (3, 0), (3, 0), (3, 0), (0, 0), (1, 0), (3, 0), (3, 0), (3, 0), (3, 0), (3, 0), (3, 0), (3, 0), (3, 0), (3, 0), (3, 0), (3, 0), (3, 0), (3, 0), (3, 0), (3, 0), (3, 0), (0, 0), (3, 0), (3, 0), (0, 0), (1, 0)])) (0, 12, [])) k (17, 0, [(0, 0), (0, 0), (2, n), (0, 0), (0, 0), (0, 0), (0, 0), (1, 0), (0, 0), (0, 0), (2, (n + 1)), (2, (n + 2)), (2, (n + 3)), (2, (n + 4)), (2, (n + 5)), (2, (n + 6)), (2, (n + 7)), (3, 0), (3, 0), (3, 0), (3, 0), (3, 0), (3, 0), (0, 0), (3, 0), (3, 0), (3, 0), (3, 0), (3, 0), (3, 0), (3, 0), (3, 0), (3, 0), (3, 0), (3, 0), (3, 0), (0, 0), (1, 0), (3, 0), (3, 0), (3, 0), (3, 0), (3, 0), (3, 0), (3, 0), (3, 0), (3, 0), (3, 0), (3, 0), (3, 0), (3, 0), (3, 0), (3, 0), (3, 0), (0, 0), (3, 0), (3, 0), (0, 0), (1, 0)])) (0, 12, [])) k (17, 0, [(0, 0), (0, 0), (2, n), (0, 0), (0, 0), (0, 0), (0, 0), (1, 0), (0, 0), (0, 0), (2, (n + 1)), (2, (n + 2)), (2, (n + 3)), (2, (n + 4)), (2, (n + 5)), (2, (n + 6)), (2, (n + 7)), (2, (n + 8)), (3, 0), (3, 0), (3, 0), (3, 0), (3, 0), (0, 0), (3, 0), (3, 0), (3, 0), (3, 0), (3, 0), (3, 0), (3, 0), (3, 0), (3, 0), (3, 0), (3, 0), (3, 0), (0, 0), (1, 0), (3, 0), (3, 0), (3, 0), (3, 0), (3, 0), (3, 0), (3, 0), (3, 0), (3, 0), (3, 0), (3, 0), (3, 0), (3, 0), (3, 0), (3, 0), (3, 0), (0, 0), (3, 0), (3, 0), (0, 0), (1, 0)])) (0, 12, [])) k (17, 0, [(0, 0), (0, 0), (2, n), (0, 0), (0, 0), (0, 0), (0, 0), (1, 0), (0, 0), (0, 0), (2, (n + 1)), (2, (n + 2)), (2, (n + 3)), (2, (n + 4)), (2, (n + 5)), (2, (n + 6)), (2, (n + 7)), (2, (n + 8)), (2, (n + 9)), (3, 0), (3, 0), (3, 0), (3, 0), (0, 0), (3, 0), (3, 0), (3, 0), (3, 0), (3, 0), (3, 0), (3, 0), (3, 0), (3, 0), (3, 0), (3, 0), (3, 0), (0, 0), (1, 0), (3, 0), (3, 0), (3, 0), (3, 0), (3, 0), (3, 0), (3, 0), (3, 0), (3, 0), (3, 0), (3, 0), (3, 0), (3, 0), (3, 0), (3, 0), (3, 0), (0, 0), (3, 0), (3, 0), (0, 0), (1, 0)])) (0, 24, [])) k (17, 0, [(0, 0), (0, 0), (2, n), (0, 0), (0, 0), (0, 0), (0, 0), (1, 0), (0, 0), (0, 0), (2, (n + 1)), (2, (n + 2)), (2, (n + 3)), (2, (n + 4)), (2, (n + 5)), (2, (n + 6)), (2, (n + 7)), (2, (n + 8)), (2, (n + 9)), (2, (n + 10)), (3, 0), (3, 0), (3, 0), (0, 0), (3, 0), (3, 0), (3, 0), (3, 0), (3, 0), (3, 0), (3, 0), (3, 0), (3, 0), (3, 0), (3, 0), (3, 0), (0, 0), (1, 0), (3, 0), (3, 0), (3, 0), (3, 0), (3, 0), (3, 0), (3, 0), (3, 0), (3, 0), (3, 0), (3, 0), (3, 0), (3, 0), (3, 0), (3, 0), (3, 0), (0, 0), (3, 0), (3, 0), (0, 0), (1, 0)])) (0, 2, [])) k (17, 0, [(0, 0), (0, 0), (2, n), (0, 0), (0, 0), (0, 0), (0, 0), (1, 0), (0, 0), (0, 0), (2, (n + 1)), (2, (n + 2)), (2, (n + 3)), (2, (n + 4)), (2, (n + 5)), (2, (n + 6)), (2, (n + 7)), (2, (n + 8)), (2, (n + 9)), (2, (n + 10)), (2, (n + 11)), (3, 0), (3, 0), (0, 0), (3, 0), (3, 0), (3, 0), (3, 0), (3, 0), (3, 0), (3, 0), (3, 0), (3, 0), (3, 0), (3, 0), (3, 0), (0, 0), (1, 0), (3, 0), (3, 0), (3, 0), (3, 0), (3, 0), (3, 0), (3, 0), (3, 0), (3, 0), (3, 0), (3, 0), (3, 0), (3, 0), (3, 0), (3, 0), (3, 0), (0, 0), (3, 0), (3, 0), (0, 0), (1, 0)])) (0, 2, [])) k (17, 0, [(0, 0), (0, 0), (2, n), (0, 0), (0, 0), (0, 0), (0, 0), (1, 0), (0, 0), (0, 0), (2, (n + 1)), (2, (n + 2)), (2, (n + 3)), (2, (n + 4)), (2, (n + 5)), (2, (n + 6)), (2, (n + 7)), (2, (n + 8)), (2, (n + 9)), (2, (n + 10)), (2, (n + 11)), (2, (n + 12)), (3, 0), (0, 0), (3, 0), (3, 0), (3, 0), (3, 0), (3, 0), (3, 0), (3, 0), (3, 0), (3, 0), (3, 0), (3, 0), (3, 0), (0, 0), (1, 0), (3, 0), (3, 0), (3, 0), (3, 0), (3, 0), (3, 0), (3, 0), (3, 0), (3, 0), (3, 0), (3, 0), (3, 0), (3, 0), (3, 0), (3, 0), (3, 0), (0, 0), (3, 0), (3, 0), (0, 0), (1, 0)])) (0, 2000, [])) k (17, 0, [(0, 0), (0, 0), (2, n), (0, 0), (0, 0), (0, 0), (0, 0), (1, 0), (0, 0), (0, 0), (2, (n + 1)), (2, (n + 2)), (2, (n + 3)), (2, (n + 4)), (2, (n + 5)), (2, (n + 6)), (2, (n + 7)), (2, (n + 8)), (2, (n + 9)), (2, (n + 10)), (2, (n + 11)), (2, (n + 12)), (2, (n + 13)), (0, 0), (3, 0), (3, 0), (3, 0), (3, 0), (3, 0), (3, 0), (3, 0), (3, 0), (3, 0), (3, 0), (3, 0), (3, 0), (0, 0), (1, 0), (3, 0), (3, 0), (3, 0), (3, 0), (3, 0), (3, 0), (3, 0), (3, 0), (3, 0), (3, 0), (3, 0), (3, 0), (3, 0), (3, 0), (3, 0), (3, 0), (0, 0), (3, 0), (3, 0), (0, 0), (1, 0)])) (0, 7, [])) k (17, 0, [(0, 0), (0, 0), (2, n), (0, 0), (0, 0), (0, 0), (0, 0), (1, 0), (0, 0), (0, 0), (2, (n + 1)), (2, (n + 2)), (2, (n + 3)), (2, (n + 4)), (2, (n + 5)), (2, (n + 6)), (2, (n + 7)), (2, (n + 8)), (2, (n + 9)), (2, (n + 10)), (2, (n + 11)), (2, (n + 12)), (2, (n + 13)), (0, 0), (2, (n + 14)), (3, 0), (3, 0), (3, 0), (3, 0), (3, 0), (3, 0), (3, 0), (3, 0), (3, 0), (3, 0), (3, 0), (0, 0), (1, 0), (3, 0), (3, 0), (3, 0), (3, 0), (3, 0), (3, 0), (3, 0), (3, 0), (3, 0), (3, 0), (3, 0), (3, 0), (3, 0), (3, 0), (3, 0), (3, 0), (0, 0), (3, 0), (3, 0), (0, 0), (1, 0)])) (2, 7, [])) k (17, 0, [(0, 0), (0, 0), (2, n), (0, 0), (0, 0), (0, 0), (0, 0), (1, 0), (0, 0), (0, 0), (2, (n + 1)), (2, (n + 2)), (2, (n + 3)), (2, (n + 4)), (2, (n + 5)), (2, (n + 6)), (2, (n + 7)), (2, (n + 8)), (2, (n + 9)), (2, (n + 10)), (2, (n + 11)), (2, (n + 12)), (2, (n + 13)), (0, 0), (2, (n + 14)), (2, (n + 15)), (3, 0), (3, 0), (3, 0), (3, 0), (3, 0), (3, 0), (3, 0), (3, 0), (3, 0), (3, 0), (0, 0), (1, 0), (3, 0), (3, 0), (3, 0), (3, 0), (3, 0), (3, 0), (3, 0), (3, 0), (3, 0), (3, 0), (3, 0), (3, 0), (3, 0), (3, 0), (3, 0), (3, 0), (0, 0), (3, 0), (3, 0), (0, 0), (1, 0)])) (0, 7, [])) k (17, 0, [(0, 0), (0, 0), (2, n), (0, 0), (0, 0), (0, 0), (0, 0), (1, 0), (0, 0), (0, 0), (2, (n + 1)), (2, (n + 2)), (2, (n + 3)), (2, (n + 4)), (2, (n + 5)), (2, (n + 6)), (2, (n + 7)), (2, (n + 8)), (2, (n + 9)), (2, (n + 10)), (2, (n + 11)), (2, (n + 12)), (2, (n + 13)), (0, 0), (2, (n + 14)), (2, (n + 15)), (2, (n + 16)), (3, 0), (3, 0), (3, 0), (3, 0), (3, 0), (3, 0), (3, 0), (3, 0), (3, 0), (0, 0), (1, 0), (3, 0), (3, 0), (3, 0), (3, 0), (3, 0), (3, 0), (3, 0), (3, 0), (3, 0), (3, 0), (3, 0), (3, 0), (3, 0), (3, 0), (3, 0), (3, 0), (0, 0), (3, 0), (3, 0), (0, 0), (1, 0)])) (0, 7, [])) k (17, 0, [(0, 0), (0, 0), (2, n), (0, 0), (0, 0), (0, 0), (0, 0), (1, 0), (0, 0), (0, 0), (2, (n + 1)), (2, (n + 2)), (2, (n + 3)), (2, (n + 4)), (2, (n + 5)), (2, (n + 6)), (2, (n + 7)), (2, (n + 8)), (2, (n + 9)), (2, (n + 10)), (2, (n + 11)), (2, (n + 12)), (2, (n + 13)), (0, 0), (2, (n + 14)), (2, (n + 15)), (2, (n + 16)), (2, (n + 17)), (3, 0), (3, 0), (3, 0), (3, 0), (3, 0), (3, 0), (3, 0), (3, 0), (0, 0), (1, 0), (3, 0), (3, 0), (3, 0), (3, 0), (3, 0), (3, 0), (3, 0), (3, 0), (3, 0), (3, 0), (3, 0), (3, 0), (3, 0), (3, 0), (3, 0), (3, 0), (0, 0), (3, 0), (3, 0), (0, 0), (1, 0)])) (0, 7, [])) k (17, 0, [(0, 0), (0, 0), (2, n), (0, 0), (0, 0), (0, 0), (0, 0), (1, 0), (0, 0), (0, 0), (2, (n + 1)), (2, (n + 2)), (2, (n + 3)), (2, (n + 4)), (2, (n + 5)), (2, (n + 6)), (2, (n + 7)), (2, (n + 8)), (2, (n + 9)), (2, (n + 10)), (2, (n + 11)), (2, (n + 12)), (2, (n + 13)), (0, 0), (2, (n + 14)), (2, (n + 15)), (2, (n + 16)), (2, (n + 17)), (2, (n + 18)), (3, 0), (3, 0), (3, 0), (3, 0), (3, 0), (3, 0), (3, 0), (0, 0), (1, 0), (3, 0), (3, 0), (3, 0), (3, 0), (3, 0), (3, 0), (3, 0), (3, 0), (3, 0), (3, 0), (3, 0), (3, 0), (3, 0), (3, 0), (3, 0), (3, 0), (0, 0), (3, 0), (3, 0), (0, 0), (1, 0)])) (0, 7, [])) k (17, 0, [(0, 0), (0, 0), (2, n), (0, 0), (0, 0), (0, 0), (0, 0), (1, 0), (0, 0), (0, 0), (2, (n + 1)), (2, (n + 2)), (2, (n + 3)), (2, (n + 4)), (2, (n + 5)), (2, (n + 6)), (2, (n + 7)), (2, (n + 8)), (2, (n + 9)), (2, (n + 10)), (2, (n + 11)), (2, (n + 12)), (2, (n + 13)), (0, 0), (2, (n + 14)), (2, (n + 15)), (2, (n + 16)), (2, (n + 17)), (2, (n + 18)), (2, (n + 19)), (3, 0), (3, 0), (3, 0), (3, 0), (3, 0), (3, 0), (0, 0), (1, 0), (3, 0), (3, 0), (3, 0), (3, 0), (3, 0), (3, 0), (3, 0), (3, 0), (3, 0), (3, 0), (3, 0), (3, 0), (3, 0), (3, 0), (3, 0), (3, 0), (0, 0), (3, 0), (3, 0), (0, 0), (1, 0)])) (0, 7, [])) k (17, 0, [(0, 0), (0, 0), (2, n), (0, 0), (0, 0), (0, 0), (0, 0), (1, 0), (0, 0), (0, 0), (2, (n + 1)), (2, (n + 2)), (2, (n + 3)), (2, (n + 4)), (2, (n + 5)), (2, (n + 6)), (2, (n + 7)), (2, (n + 8)), (2, (n + 9)), (2, (n + 10)), (2, (n + 11)), (2, (n + 12)), (2, (n + 13)), (0, 0), (2, (n + 14)), (2, (n + 15)), (2, (n + 16)), (2, (n + 17)), (2, (n + 18)), (2, (n + 19)), (2, (n + 20)), (3, 0), (3, 0), (3, 0), (3, 0), (3, 0), (0, 0), (1, 0), (3, 0), (3, 0), (3, 0), (3, 0), (3, 0), (3, 0), (3, 0), (3, 0), (3, 0), (3, 0), (3, 0), (3, 0), (3, 0), (3, 0), (3, 0), (3, 0), (0, 0), (3, 0), (3, 0), (0, 0), (1, 0)])) (0, 7, [])) k (17, 0, [(0, 0), (0, 0), (2, n), (0, 0), (0, 0), (0, 0), (0, 0), (1, 0), (0, 0), (0, 0), (2, (n + 1)), (2, (n + 2)), (2, (n + 3)), (2, (n + 4)), (2, (n + 5)), (2, (n + 6)), (2, (n + 7)), (2, (n + 8)), (2, (n + 9)), (2, (n + 10)), (2, (n + 11)), (2, (n + 12)), (2, (n + 13)), (0, 0), (2, (n + 14)), (2, (n + 15)), (2, (n + 16)), (2, (n + 17)), (2, (n + 18)), (2, (n + 19)), (2, (n + 20)), (2, (n + 21)), (3, 0), (3, 0), (3, 0), (3, 0), (0, 0), (1, 0), (3, 0), (3, 0), (3, 0), (3, 0), (3, 0), (3, 0), (3, 0), (3, 0), (3, 0), (3, 0), (3, 0), (3, 0), (3, 0), (3, 0), (3, 0), (3, 0), (0, 0), (3, 0), (3, 0), (0, 0), (1, 0)])) (0, 7, [])) k (17, 0, [(0, 0), (0, 0), (2, n), (0, 0), (0, 0), (0, 0), (0, 0), (1, 0), (0, 0), (0, 0), (2, (n + 1)), (2, (n + 2)), (2, (n + 3)), (2, (n + 4)), (2, (n + 5)), (2, (n + 6)), (2, (n + 7)), (2, (n + 8)), (2, (n + 9)), (2, (n + 10)), (2, (n + 11)), (2, (n + 12)), (2, (n + 13)), (0, 0), (2, (n + 14)), (2, (n + 15)), (2, (n + 16)), (2, (n + 17)), (2, (n + 18)), (2, (n + 19)), (2, (n + 20)), (2, (n + 21)), (2, (n + 22)), (3, 0), (3, 0), (3, 0), (0, 0), (1, 0), (3, 0), (3, 0), (3, 0), (3, 0), (3, 0), (3, 0), (3, 0), (3, 0), (3, 0), (3, 0), (3, 0), (3, 0), (3, 0), (3, 0), (3, 0), (3, 0), (0, 0), (3, 0), (3, 0), (0, 0), (1, 0)])) (0, 7, [])) k (17, 0, [(0, 0), (0, 0), (2, n), (0, 0), (0, 0), (0, 0), (0, 0), (1, 0), (0, 0), (0, 0), (2, (n + 1)), (2, (n + 2)), (2, (n + 3)), (2, (n + 4)), (2, (n + 5)), (2, (n + 6)), (2, (n + 7)), (2, (n + 8)), (2, (n + 9)), (2, (n + 10)), (2, (n + 11)), (2, (n + 12)), (2, (n + 13)), (0, 0), (2, (n + 14)), (2, (n + 15)), (2, (n + 16)), (2, (n + 17)), (2, (n + 18)), (2, (n + 19)), (2, (n + 20)), (2, (n + 21)), (2, (n + 22)), (2, (n + 23)), (3, 0), (3, 0), (0, 0), (1, 0), (3, 0), (3, 0), (3, 0), (3, 0), (3, 0), (3, 0), (3, 0), (3, 0), (3, 0), (3, 0), (3, 0), (3, 0), (3, 0), (3, 0), (3, 0), (3, 0), (0, 0), (3, 0), (3, 0), (0, 0), (1, 0)])) (0, 7, [])) k (17, 0, [(0, 0), (0, 0), (2, n), (0, 0), (0, 0), (0, 0), (0, 0), (1, 0), (0, 0), (0, 0), (2, (n + 1)), (2, (n + 2)), (2, (n + 3)), (2, (n + 4)), (2, (n + 5)), (2, (n + 6)), (2, (n + 7)), (2, (n + 8)), (2, (n + 9)), (2, (n + 10)), (2, (n + 11)), (2, (n + 12)), (2, (n + 13)), (0, 0), (2, (n + 14)), (2, (n + 15)), (2, (n + 16)), (2, (n + 17)), (2, (n + 18)), (2, (n + 19)), (2, (n + 20)), (2, (n + 21)), (2, (n + 22)), (2, (n + 23)), (2, (n + 24)), (3, 0), (0, 0), (1, 0), (3, 0), (3, 0), (3, 0), (3, 0), (3, 0), (3, 0), (3, 0), (3, 0), (3, 0), (3, 0), (3, 0), (3, 0), (3, 0), (3, 0), (3, 0), (3, 0), (0, 0), (3, 0), (3, 0), (0, 0), (1, 0)])) (0, 20, [])) k (17, 0, [(0, 0), (0, 0), (2, n), (0, 0), (0, 0), (0, 0), (0, 0), (1, 0), (0, 0), (0, 0), (2, (n + 1)), (2, (n + 2)), (2, (n + 3)), (2, (n + 4)), (2, (n + 5)), (2, (n + 6)), (2, (n + 7)), (2, (n + 8)), (2, (n + 9)), (2, (n + 10)), (2, (n + 11)), (2, (n + 12)), (2, (n + 13)), (0, 0), (2, (n + 14)), (2, (n + 15)), (2, (n + 16)), (2, (n + 17)), (2, (n + 18)), (2, (n + 19)), (2, (n + 20)), (2, (n + 21)), (2, (n + 22)), (2, (n + 23)), (2, (n + 24)), (2, (n + 25)), (0, 0), (1, 0), (3, 0), (3, 0), (3, 0), (3, 0), (3, 0), (3, 0), (3, 0), (3, 0), (3, 0), (3, 0), (3, 0), (3, 0), (3, 0), (3, 0), (3, 0), (3, 0), (0, 0), (3, 0), (3, 0), (0, 0), (1, 0)])) (0, 6, [])) k (17, 0, [(0, 0), (0, 0), (2, n), (0, 0), (0, 0), (0, 0), (0, 0), (1, 0), (0, 0), (0, 0), (2, (n + 1)), (2, (n + 2)), (2, (n + 3)), (2, (n + 4)), (2, (n + 5)), (2, (n + 6)), (2, (n + 7)), (2, (n + 8)), (2, (n + 9)), (2, (n + 10)), (2, (n + 11)), (2, (n + 12)), (2, (n + 13)), (0, 0), (2, (n + 14)), (2, (n + 15)), (2, (n + 16)), (2, (n + 17)), (2, (n + 18)), (2, (n + 19)), (2, (n + 20)), (2, (n + 21)), (2, (n + 22)), (2, (n + 23)), (2, (n + 24)), (2, (n + 25)), (0, 0), (1, 0), (2, (n + 26)), (3, 0), (3, 0), (3, 0), (3, 0), (3, 0), (3, 0), (3, 0), (3, 0), (3, 0), (3, 0), (3, 0), (3, 0), (3, 0), (3, 0), (3, 0), (0, 0), (3, 0), (3, 0), (0, 0), (1, 0)])) (0, 240, [])) k (17, 0, [(0, 0), (0, 0), (2, n), (0, 0), (0, 0), (0, 0), (0, 0), (1, 0), (0, 0), (0, 0), (2, (n + 1)), (2, (n + 2)), (2, (n + 3)), (2, (n + 4)), (2, (n + 5)), (2, (n + 6)), (2, (n + 7)), (2, (n + 8)), (2, (n + 9)), (2, (n + 10)), (2, (n + 11)), (2, (n + 12)), (2, (n + 13)), (0, 0), (2, (n + 14)), (2, (n + 15)), (2, (n + 16)), (2, (n + 17)), (2, (n + 18)), (2, (n + 19)), (2, (n + 20)), (2, (n + 21)), (2, (n + 22)), (2, (n + 23)), (2, (n + 24)), (2, (n + 25)), (0, 0), (1, 0), (2, (n + 26)), (2, (n + 27)), (3, 0), (3, 0), (3, 0), (3, 0), (3, 0), (3, 0), (3, 0), (3, 0), (3, 0), (3, 0), (3, 0), (3, 0), (3, 0), (3, 0), (0, 0), (3, 0), (3, 0), (0, 0), (1, 0)])) (0, 240, [])) k (17, 0, [(0, 0), (0, 0), (2, n), (0, 0), (0, 0), (0, 0), (0, 0), (1, 0), (0, 0), (0, 0), (2, (n + 1)), (2, (n + 2)), (2, (n + 3)), (2, (n + 4)), (2, (n + 5)), (2, (n + 6)), (2, (n + 7)), (2, (n + 8)), (2, (n + 9)), (2, (n + 10)), (2, (n + 11)), (2, (n + 12)), (2, (n + 13)), (0, 0), (2, (n + 14)), (2, (n + 15)), (2, (n + 16)), (2, (n + 17)), (2, (n + 18)), (2, (n + 19)), (2, (n + 20)), (2, (n + 21)), (2, (n + 22)), (2, (n + 23)), (2, (n + 24)), (2, (n + 25)), (0, 0), (1, 0), (2, (n + 26)), (2, (n + 27)), (2, (n + 28)), (3, 0), (3, 0), (3, 0), (3, 0), (3, 0), (3, 0), (3, 0), (3, 0), (3, 0), (3, 0), (3, 0), (3, 0), (3, 0), (0, 0), (3, 0), (3, 0), (0, 0), (1, 0)])) (0, 240, [])) k (17, 0, [(0, 0), (0, 0), (2, n), (0, 0), (0, 0), (0, 0), (0, 0), (1, 0), (0, 0), (0, 0), (2, (n + 1)), (2, (n + 2)), (2, (n + 3)), (2, (n + 4)), (2, (n + 5)), (2, (n + 6)), (2, (n + 7)), (2, (n + 8)), (2, (n + 9)), (2, (n + 10)), (2, (n + 11)), (2, (n + 12)), (2, (n + 13)), (0, 0), (2, (n + 14)), (2, (n + 15)), (2, (n + 16)), (2, (n + 17)), (2, (n + 18)), (2, (n + 19)), (2, (n + 20)), (2, (n + 21)), (2, (n + 22)), (2, (n + 23)), (2, (n + 24)), (2, (n + 25)), (0, 0), (1, 0), (2, (n + 26)), (2, (n + 27)), (2, (n + 28)), (2, (n + 29)), (3, 0), (3, 0), (3, 0), (3, 0), (3, 0), (3, 0), (3, 0), (3, 0), (3, 0), (3, 0), (3, 0), (3, 0), (0, 0), (3, 0), (3, 0), (0, 0), (1, 0)])) (0, 240, [])) k (17, 0, [(0, 0), (0, 0), (2, n), (0, 0), (0, 0), (0, 0), (0, 0), (1, 0), (0, 0), (0, 0), (2, (n + 1)), (2, (n + 2)), (2, (n + 3)), (2, (n + 4)), (2, (n + 5)), (2, (n + 6)), (2, (n + 7)), (2, (n + 8)), (2, (n + 9)), (2, (n + 10)), (2, (n + 11)), (2, (n + 12)), (2, (n + 13)), (0, 0), (2, (n + 14)), (2, (n + 15)), (2, (n + 16)), (2, (n + 17)), (2, (n + 18)), (2, (n + 19)), (2, (n + 20)), (2, (n + 21)), (2, (n + 22)), (2, (n + 23)), (2, (n + 24)), (2, (n + 25)), (0, 0), (1, 0), (2, (n + 26)), (2, (n + 27)), (2, (n + 28)), (2, (n + 29)), (2, (n + 30)), (3, 0), (3, 0), (3, 0), (3, 0), (3, 0), (3, 0), (3, 0), (3, 0), (3, 0), (3, 0), (3, 0), (0, 0), (3, 0), (3, 0), (0, 0), (1, 0)])) (0, 5, [])) k (17, 0, [(0, 0), (0, 0), (2, n), (0, 0), (0, 0), (0, 0), (0, 0), (1, 0), (0, 0), (0, 0), (2, (n + 1)), (2, (n + 2)), (2, (n + 3)), (2, (n + 4)), (2, (n + 5)), (2, (n + 6)), (2, (n + 7)), (2, (n + 8)), (2, (n + 9)), (2, (n + 10)), (2, (n + 11)), (2, (n + 12)), (2, (n + 13)), (0, 0), (2, (n + 14)), (2, (n + 15)), (2, (n + 16)), (2, (n + 17)), (2, (n + 18)), (2, (n + 19)), (2, (n + 20)), (2, (n + 21)), (2, (n + 22)), (2, (n + 23)), (2, (n + 24)), (2, (n + 25)), (0, 0), (1, 0), (2, (n + 26)), (2, (n + 27)), (2, (n + 28)), (2, (n + 29)), (2, (n + 30)), (2, (n + 31)), (3, 0), (3, 0), (3, 0), (3, 0), (3, 0), (3, 0), (3, 0), (3, 0), (3, 0), (3, 0), (0, 0), (3, 0), (3, 0), (0, 0), (1, 0)])) (0, 40, [])) k (17, 0, [(0, 0), (0, 0), (2, n), (0, 0), (0, 0), (0, 0), (0, 0), (1, 0), (0, 0), (0, 0), (2, (n + 1)), (2, (n + 2)), (2, (n + 3)), (2, (n + 4)), (2, (n + 5)), (2, (n + 6)), (2, (n + 7)), (2, (n + 8)), (2, (n + 9)), (2, (n + 10)), (2, (n + 11)), (2, (n + 12)), (2, (n + 13)), (0, 0), (2, (n + 14)), (2, (n + 15)), (2, (n + 16)), (2, (n + 17)), (2, (n + 18)), (2, (n + 19)), (2, (n + 20)), (2, (n + 21)), (2, (n + 22)), (2, (n + 23)), (2, (n + 24)), (2, (n + 25)), (0, 0), (1, 0), (2, (n + 26)), (2, (n + 27)), (2, (n + 28)), (2, (n + 29)), (2, (n + 30)), (2, (n + 31)), (2, (n + 32)), (3, 0), (3, 0), (3, 0), (3, 0), (3, 0), (3, 0), (3, 0), (3, 0), (3, 0), (0, 0), (3, 0), (3, 0), (0, 0), (1, 0)])) (0, 40, [])) k (17, 0, [(0, 0), (0, 0), (2, n), (0, 0), (0, 0), (0, 0), (0, 0), (1, 0), (0, 0), (0, 0), (2, (n + 1)), (2, (n + 2)), (2, (n + 3)), (2, (n + 4)), (2, (n + 5)), (2, (n + 6)), (2, (n + 7)), (2, (n + 8)), (2, (n + 9)), (2, (n + 10)), (2, (n + 11)), (2, (n + 12)), (2, (n + 13)), (0, 0), (2, (n + 14)), (2, (n + 15)), (2, (n + 16)), (2, (n + 17)), (2, (n + 18)), (2, (n + 19)), (2, (n + 20)), (2, (n + 21)), (2, (n + 22)), (2, (n + 23)), (2, (n + 24)), (2, (n + 25)), (0, 0), (1, 0), (2, (n + 26)), (2, (n + 27)), (2, (n + 28)), (2, (n + 29)), (2, (n + 30)), (2, (n + 31)), (2, (n + 32)), (2, (n + 33)), (3, 0), (3, 0), (3, 0), (3, 0), (3, 0), (3, 0), (3, 0), (3, 0), (0, 0), (3, 0), (3, 0), (0, 0), (1, 0)])) (0, 40, [])) k (17, 0, [(0, 0), (0, 0), (2, n), (0, 0), (0, 0), (0, 0), (0, 0), (1, 0), (0, 0), (0, 0), (2, (n + 1)), (2, (n + 2)), (2, (n + 3)), (2, (n + 4)), (2, (n + 5)), (2, (n + 6)), (2, (n + 7)), (2, (n + 8)), (2, (n + 9)), (2, (n + 10)), (2, (n + 11)), (2, (n + 12)), (2, (n + 13)), (0, 0), (2, (n + 14)), (2, (n + 15)), (2, (n + 16)), (2, (n + 17)), (2, (n + 18)), (2, (n + 19)), (2, (n + 20)), (2, (n + 21)), (2, (n + 22)), (2, (n + 23)), (2, (n + 24)), (2, (n + 25)), (0, 0), (1, 0), (2, (n + 26)), (2, (n + 27)), (2, (n + 28)), (2, (n + 29)), (2, (n + 30)), (2, (n + 31)), (2, (n + 32)), (2, (n + 33)), (2, (n + 34)), (3, 0), (3, 0), (3, 0), (3, 0), (3, 0), (3, 0), (3, 0), (0, 0), (3, 0), (3, 0), (0, 0), (1, 0)])) (2, 40, [])) k (17, 0, [(0, 0), (0, 0), (2, n), (0, 0), (0, 0), (0, 0), (0, 0), (1, 0), (0, 0), (0, 0), (2, (n + 1)), (2, (n + 2)), (2, (n + 3)), (2, (n + 4)), (2, (n + 5)), (2, (n + 6)), (2, (n + 7)), (2, (n + 8)), (2, (n + 9)), (2, (n + 10)), (2, (n + 11)), (2, (n + 12)), (2, (n + 13)), (0, 0), (2, (n + 14)), (2, (n + 15)), (2, (n + 16)), (2, (n + 17)), (2, (n + 18)), (2, (n + 19)), (2, (n + 20)), (2, (n + 21)), (2, (n + 22)), (2, (n + 23)), (2, (n + 24)), (2, (n + 25)), (0, 0), (1, 0), (2, (n + 26)), (2, (n + 27)), (2, (n + 28)), (2, (n + 29)), (2, (n + 30)), (2, (n + 31)), (2, (n + 32)), (2, (n + 33)), (2, (n + 34)), (2, (n + 35)), (3, 0), (3, 0), (3, 0), (3, 0), (3, 0), (3, 0), (0, 0), (3, 0), (3, 0), (0, 0), (1, 0)])) (0, 25, [])) k (17, 0, [(0, 0), (0, 0), (2, n), (0, 0), (0, 0), (0, 0), (0, 0), (1, 0), (0, 0), (0, 0), (2, (n + 1)), (2, (n + 2)), (2, (n + 3)), (2, (n + 4)), (2, (n + 5)), (2, (n + 6)), (2, (n + 7)), (2, (n + 8)), (2, (n + 9)), (2, (n + 10)), (2, (n + 11)), (2, (n + 12)), (2, (n + 13)), (0, 0), (2, (n + 14)), (2, (n + 15)), (2, (n + 16)), (2, (n + 17)), (2, (n + 18)), (2, (n + 19)), (2, (n + 20)), (2, (n + 21)), (2, (n + 22)), (2, (n + 23)), (2, (n + 24)), (2, (n + 25)), (0, 0), (1, 0), (2, (n + 26)), (2, (n + 27)), (2, (n + 28)), (2, (n + 29)), (2, (n + 30)), (2, (n + 31)), (2, (n + 32)), (2, (n + 33)), (2, (n + 34)), (2, (n + 35)), (2, (n + 36)), (3, 0), (3, 0), (3, 0), (3, 0), (3, 0), (0, 0), (3, 0), (3, 0), (0, 0), (1, 0)])) (0, 25, [])) k (17, 0, [(0, 0), (0, 0), (2, n), (0, 0), (0, 0), (0, 0), (0, 0), (1, 0), (0, 0), (0, 0), (2, (n + 1)), (2, (n + 2)), (2, (n + 3)), (2, (n + 4)), (2, (n + 5)), (2, (n + 6)), (2, (n + 7)), (2, (n + 8)), (2, (n + 9)), (2, (n + 10)), (2, (n + 11)), (2, (n + 12)), (2, (n + 13)), (0, 0), (2, (n + 14)), (2, (n + 15)), (2, (n + 16)), (2, (n + 17)), (2, (n + 18)), (2, (n + 19)), (2, (n + 20)), (2, (n + 21)), (2, (n + 22)), (2, (n + 23)), (2, (n + 24)), (2, (n + 25)), (0, 0), (1, 0), (2, (n + 26)), (2, (n + 27)), (2, (n + 28)), (2, (n + 29)), (2, (n + 30)), (2, (n + 31)), (2, (n + 32)), (2, (n + 33)), (2, (n + 34)), (2, (n + 35)), (2, (n + 36)), (2, (n + 37)), (3, 0), (3, 0), (3, 0), (3, 0), (0, 0), (3, 0), (3, 0), (0, 0), (1, 0)])) (0, 25, [])) k (17, 0, [(0, 0), (0, 0), (2, n), (0, 0), (0, 0), (0, 0), (0, 0), (1, 0), (0, 0), (0, 0), (2, (n + 1)), (2, (n + 2)), (2, (n + 3)), (2, (n + 4)), (2, (n + 5)), (2, (n + 6)), (2, (n + 7)), (2, (n + 8)), (2, (n + 9)), (2, (n + 10)), (2, (n + 11)), (2, (n + 12)), (2, (n + 13)), (0, 0), (2, (n + 14)), (2, (n + 15)), (2, (n + 16)), (2, (n + 17)), (2, (n + 18)), (2, (n + 19)), (2, (n + 20)), (2, (n + 21)), (2, (n + 22)), (2, (n + 23)), (2, (n + 24)), (2, (n + 25)), (0, 0), (1, 0), (2, (n + 26)), (2, (n + 27)), (2, (n + 28)), (2, (n + 29)), (2, (n + 30)), (2, (n + 31)), (2, (n + 32)), (2, (n + 33)), (2, (n + 34)), (2, (n + 35)), (2, (n + 36)), (2, (n + 37)), (2, (n + 38)), (3, 0), (3, 0), (3, 0), (0, 0), (3, 0), (3, 0), (0, 0), (1, 0)])) (0, 100, [])) k (17, 0, [(0, 0), (0, 0), (2, n), (0, 0), (0, 0), (0, 0), (0, 0), (1, 0), (0, 0), (0, 0), (2, (n + 1)), (2, (n + 2)), (2, (n + 3)), (2, (n + 4)), (2, (n + 5)), (2, (n + 6)), (2, (n + 7)), (2, (n + 8)), (2, (n + 9)), (2, (n + 10)), (2, (n + 11)), (2, (n + 12)), (2, (n + 13)), (0, 0), (2, (n + 14)), (2, (n + 15)), (2, (n + 16)), (2, (n + 17)), (2, (n + 18)), (2, (n + 19)), (2, (n + 20)), (2, (n + 21)), (2, (n + 22)), (2, (n + 23)), (2, (n + 24)), (2, (n + 25)), (0, 0), (1, 0), (2, (n + 26)), (2, (n + 27)), (2, (n + 28)), (2, (n + 29)), (2, (n + 30)), (2, (n + 31)), (2, (n + 32)), (2, (n + 33)), (2, (n + 34)), (2, (n + 35)), (2, (n + 36)), (2, (n + 37)), (2, (n + 38)), (2, (n + 39)), (3, 0), (3, 0), (0, 0), (3, 0), (3, 0), (0, 0), (1, 0)])) (0, 400, [])) k (17, 0, [(0, 0), (0, 0), (2, n), (0, 0), (0, 0), (0, 0), (0, 0), (1, 0), (0, 0), (0, 0), (2, (n + 1)), (2, (n + 2)), (2, (n + 3)), (2, (n + 4)), (2, (n + 5)), (2, (n + 6)), (2, (n + 7)), (2, (n + 8)), (2, (n + 9)), (2, (n + 10)), (2, (n + 11)), (2, (n + 12)), (2, (n + 13)), (0, 0), (2, (n + 14)), (2, (n + 15)), (2, (n + 16)), (2, (n + 17)), (2, (n + 18)), (2, (n + 19)), (2, (n + 20)), (2, (n + 21)), (2, (n + 22)), (2, (n + 23)), (2, (n + 24)), (2, (n + 25)), (0, 0), (1, 0), (2, (n + 26)), (2, (n + 27)), (2, (n + 28)), (2, (n + 29)), (2, (n + 30)), (2, (n + 31)), (2, (n + 32)), (2, (n + 33)), (2, (n + 34)), (2, (n + 35)), (2, (n + 36)), (2, (n + 37)), (2, (n + 38)), (2, (n + 39)), (2, (n + 40)), (3, 0), (0, 0), (3, 0), (3, 0), (0, 0), (1, 0)])) (2, 4, [])) k (17, 0, [(0, 0), (0, 0), (2, n), (0, 0), (0, 0), (0, 0), (0, 0), (1, 0), (0, 0), (0, 0), (2, (n + 1)), (2, (n + 2)), (2, (n + 3)), (2, (n + 4)), (2, (n + 5)), (2, (n + 6)), (2, (n + 7)), (2, (n + 8)), (2, (n + 9)), (2, (n + 10)), (2, (n + 11)), (2, (n + 12)), (2, (n + 13)), (0, 0), (2, (n + 14)), (2, (n + 15)), (2, (n + 16)), (2, (n + 17)), (2, (n + 18)), (2, (n + 19)), (2, (n + 20)), (2, (n + 21)), (2, (n + 22)), (2, (n + 23)), (2, (n + 24)), (2, (n + 25)), (0, 0), (1, 0), (2, (n + 26)), (2, (n + 27)), (2, (n + 28)), (2, (n + 29)), (2, (n + 30)), (2, (n + 31)), (2, (n + 32)), (2, (n + 33)), (2, (n + 34)), (2, (n + 35)), (2, (n + 36)), (2, (n + 37)), (2, (n + 38)), (2, (n + 39)), (2, (n + 40)), (2, (n + 41)), (0, 0), (3, 0), (3, 0), (0, 0), (1, 0)])) (0, 6, [])) k (17, 0, [(0, 0), (0, 0), (2, n), (0, 0), (0, 0), (0, 0), (0, 0), (1, 0), (0, 0), (0, 0), (2, (n + 1)), (2, (n + 2)), (2, (n + 3)), (2, (n + 4)), (2, (n + 5)), (2, (n + 6)), (2, (n + 7)), (2, (n + 8)), (2, (n + 9)), (2, (n + 10)), (2, (n + 11)), (2, (n + 12)), (2, (n + 13)), (0, 0), (2, (n + 14)), (2, (n + 15)), (2, (n + 16)), (2, (n + 17)), (2, (n + 18)), (2, (n + 19)), (2, (n + 20)), (2, (n + 21)), (2, (n + 22)), (2, (n + 23)), (2, (n + 24)), (2, (n + 25)), (0, 0), (1, 0), (2, (n + 26)), (2, (n + 27)), (2, (n + 28)), (2, (n + 29)), (2, (n + 30)), (2, (n + 31)), (2, (n + 32)), (2, (n + 33)), (2, (n + 34)), (2, (n + 35)), (2, (n + 36)), (2, (n + 37)), (2, (n + 38)), (2, (n + 39)), (2, (n + 40)), (2, (n + 41)), (0, 0), (2, (n + 42)), (3, 0), (0, 0), (1, 0)])) (0, 6, [])) k (17, 0, [(0, 0), (0, 0), (2, n), (0, 0), (0, 0), (0, 0), (0, 0), (1, 0), (0, 0), (0, 0), (2, (n + 1)), (2, (n + 2)), (2, (n + 3)), (2, (n + 4)), (2, (n + 5)), (2, (n + 6)), (2, (n + 7)), (2, (n + 8)), (2, (n + 9)), (2, (n + 10)), (2, (n + 11)), (2, (n + 12)), (2, (n + 13)), (0, 0), (2, (n + 14)), (2, (n + 15)), (2, (n + 16)), (2, (n + 17)), (2, (n + 18)), (2, (n + 19)), (2, (n + 20)), (2, (n + 21)), (2, (n + 22)), (2, (n + 23)), (2, (n + 24)), (2, (n + 25)), (0, 0), (1, 0), (2, (n + 26)), (2, (n + 27)), (2, (n + 28)), (2, (n + 29)), (2, (n + 30)), (2, (n + 31)), (2, (n + 32)), (2, (n + 33)), (2, (n + 34)), (2, (n + 35)), (2, (n + 36)), (2, (n + 37)), (2, (n + 38)), (2, (n + 39)), (2, (n + 40)), (2, (n + 41)), (0, 0), (2, (n + 42)), (2, (n + 43)), (0, 0), (1, 0)]))
set_option maxRecDepth 20000 in
set_option maxHeartbeats 4000000 in
theorem gqX11 {S : List wSh} {n k : Nat} (hn : S.length = n) (hw : wWf S) (hk : S[k]? = some (17, 0, [(0, 0), (0, 0), (3, 0), (0, 0), (0, 0), (0, 0), (0, 0), (1, 0), (0, 0), (0, 0), (3, 0), (3, 0), (3, 0), (3, 0), (3, 0), (3, 0), (3, 0), (3, 0), (3, 0), (3, 0), (3, 0), (3, 0), (3, 0), (0, 0), (3, 0), (3, 0), (3, 0), (3, 0), (3, 0), (3, 0), (3, 0), (3, 0), (3, 0), (3, 0), (3, 0), (3, 0), (0, 0), (1, 0), (3, 0), (3, 0), (3, 0), (3, 0), (3, 0), (3, 0), (3, 0), (3, 0), (3, 0), (3, 0), (3, 0), (3, 0), (3, 0), (3, 0), (3, 0), (3, 0), (0, 0), (3, 0), (3, 0), (0, 0), (1, 0)])) : wG S (sX11 S n k) n (n + 44) k ∧ (sX11 S n k)[k]? = some (17, 0, [(0, 0), (0, 0), (2, n), (0, 0), (0, 0), (0, 0), (0, 0), (1, 0), (0, 0), (0, 0), (2, (n + 1)), (2, (n + 2)), (2, (n + 3)), (2, (n + 4)), (2, (n + 5)), (2, (n + 6)), (2, (n + 7)), (2, (n + 8)), (2, (n + 9)), (2, (n + 10)), (2, (n + 11)), (2, (n + 12)), (2, (n + 13)), (0, 0), (2, (n + 14)), (2, (n + 15)), (2, (n + 16)), (2, (n + 17)), (2, (n + 18)), (2, (n + 19)), (2, (n + 20)), (2, (n + 21)), (2, (n + 22)), (2, (n + 23)), (2, (n + 24)), (2, (n + 25)), (0, 0), (1, 0), (2, (n + 26)), (2, (n + 27)), (2, (n + 28)), (2, (n + 29)), (2, (n + 30)), (2, (n + 31)), (2, (n + 32)), (2, (n + 33)), (2, (n + 34)), (2, (n + 35)), (2, (n + 36)), (2, (n + 37)), (2, (n + 38)), (2, (n + 39)), (2, (n + 40)), (2, (n + 41)), (0, 0), (2, (n + 42)), (2, (n + 43)), (0, 0), (1, 0)]) := by
  have hkl : k < n := by rw [← hn]; exact (List.getElem?_eq_some_iff.mp hk).1
  have hg : wG S S n n k := wG_rf hn hw
  have hk := w_apk (x := (0, 1000, [])) hk
  have hg : wG S (S ++ [(0, 1000, [])]) n (n + 1) k := wG_app (t := 0) (N := 1000) (fs := []) hg (by simp)
  generalize hs1 : S ++ [(0, 1000, [])] = S1 at hk hg
  have hg : wG S (S1.set k (17, 0, [(0, 0), (0, 0), (2, n), (0, 0), (0, 0), (0, 0), (0, 0), (1, 0), (0, 0), (0, 0), (3, 0), (3, 0), (3, 0), (3, 0), (3, 0), (3, 0), (3, 0), (3, 0), (3, 0), (3, 0), (3, 0), (3, 0), (3, 0), (0, 0), (3, 0), (3, 0), (3, 0), (3, 0), (3, 0), (3, 0), (3, 0), (3, 0), (3, 0), (3, 0), (3, 0), (3, 0), (0, 0), (1, 0), (3, 0), (3, 0), (3, 0), (3, 0), (3, 0), (3, 0), (3, 0), (3, 0), (3, 0), (3, 0), (3, 0), (3, 0), (3, 0), (3, 0), (3, 0), (3, 0), (0, 0), (3, 0), (3, 0), (0, 0), (1, 0)])) n (n + 1) k := wG_set2 (j := 2) (r := n) hg hk (by omega) (Or.inl rfl) rfl
  have hk := w_stk (x := (17, 0, [(0, 0), (0, 0), (2, n), (0, 0), (0, 0), (0, 0), (0, 0), (1, 0), (0, 0), (0, 0), (3, 0), (3, 0), (3, 0), (3, 0), (3, 0), (3, 0), (3, 0), (3, 0), (3, 0), (3, 0), (3, 0), (3, 0), (3, 0), (0, 0), (3, 0), (3, 0), (3, 0), (3, 0), (3, 0), (3, 0), (3, 0), (3, 0), (3, 0), (3, 0), (3, 0), (3, 0), (0, 0), (1, 0), (3, 0), (3, 0), (3, 0), (3, 0), (3, 0), (3, 0), (3, 0), (3, 0), (3, 0), (3, 0), (3, 0), (3, 0), (3, 0), (3, 0), (3, 0), (3, 0), (0, 0), (3, 0), (3, 0), (0, 0), (1, 0)])) hk
  generalize hs2 : S1.set k (17, 0, [(0, 0), (0, 0), (2, n), (0, 0), (0, 0), (0, 0), (0, 0), (1, 0), (0, 0), (0, 0), (3, 0), (3, 0), (3, 0), (3, 0), (3, 0), (3, 0), (3, 0), (3, 0), (3, 0), (3, 0), (3, 0), (3, 0), (3, 0), (0, 0), (3, 0), (3, 0), (3, 0), (3, 0), (3, 0), (3, 0), (3, 0), (3, 0), (3, 0), (3, 0), (3, 0), (3, 0), (0, 0), (1, 0), (3, 0), (3, 0), (3, 0), (3, 0), (3, 0), (3, 0), (3, 0), (3, 0), (3, 0), (3, 0), (3, 0), (3, 0), (3, 0), (3, 0), (3, 0), (3, 0), (0, 0), (3, 0), (3, 0), (0, 0), (1, 0)]) = S2 at hk hg
  have hk := w_apk (x := (0, 6, [])) hk
  have hg : wG S (S2 ++ [(0, 6, [])]) n (n + 2) k := wG_app (t := 0) (N := 6) (fs := []) hg (by simp)
  generalize hs3 : S2 ++ [(0, 6, [])] = S3 at hk hg
  have hg : wG S (S3.set k (17, 0, [(0, 0), (0, 0), (2, n), (0, 0), (0, 0), (0, 0), (0, 0), (1, 0), (0, 0), (0, 0), (2, (n + 1)), (3, 0), (3, 0), (3, 0), (3, 0), (3, 0), (3, 0), (3, 0), (3, 0), (3, 0), (3, 0), (3, 0), (3, 0), (0, 0), (3, 0), (3, 0), (3, 0), (3, 0), (3, 0), (3, 0), (3, 0), (3, 0), (3, 0), (3, 0), (3, 0), (3, 0), (0, 0), (1, 0), (3, 0), (3, 0), (3, 0), (3, 0), (3, 0), (3, 0), (3, 0), (3, 0), (3, 0), (3, 0), (3, 0), (3, 0), (3, 0), (3, 0), (3, 0), (3, 0), (0, 0), (3, 0), (3, 0), (0, 0), (1, 0)])) n (n + 2) k := wG_set2 (j := 10) (r := (n + 1)) hg hk (by omega) (Or.inl rfl) rfl
  have hk := w_stk (x := (17, 0, [(0, 0), (0, 0), (2, n), (0, 0), (0, 0), (0, 0), (0, 0), (1, 0), (0, 0), (0, 0), (2, (n + 1)), (3, 0), (3, 0), (3, 0), (3, 0), (3, 0), (3, 0), (3, 0), (3, 0), (3, 0), (3, 0), (3, 0), (3, 0), (0, 0), (3, 0), (3, 0), (3, 0), (3, 0), (3, 0), (3, 0), (3, 0), (3, 0), (3, 0), (3, 0), (3, 0), (3, 0), (0, 0), (1, 0), (3, 0), (3, 0), (3, 0), (3, 0), (3, 0), (3, 0), (3, 0), (3, 0), (3, 0), (3, 0), (3, 0), (3, 0), (3, 0), (3, 0), (3, 0), (3, 0), (0, 0), (3, 0), (3, 0), (0, 0), (1, 0)])) hk
  generalize hs4 : S3.set k (17, 0, [(0, 0), (0, 0), (2, n), (0, 0), (0, 0), (0, 0), (0, 0), (1, 0), (0, 0), (0, 0), (2, (n + 1)), (3, 0), (3, 0), (3, 0), (3, 0), (3, 0), (3, 0), (3, 0), (3, 0), (3, 0), (3, 0), (3, 0), (3, 0), (0, 0), (3, 0), (3, 0), (3, 0), (3, 0), (3, 0), (3, 0), (3, 0), (3, 0), (3, 0), (3, 0), (3, 0), (3, 0), (0, 0), (1, 0), (3, 0), (3, 0), (3, 0), (3, 0), (3, 0), (3, 0), (3, 0), (3, 0), (3, 0), (3, 0), (3, 0), (3, 0), (3, 0), (3, 0), (3, 0), (3, 0), (0, 0), (3, 0), (3, 0), (0, 0), (1, 0)]) = S4 at hk hg
  have hk := w_apk (x := (3, 6, [])) hk
  have hg : wG S (S4 ++ [(3, 6, [])]) n (n + 3) k := wG_app (t := 3) (N := 6) (fs := []) hg (by simp)
  generalize hs5 : S4 ++ [(3, 6, [])] = S5 at hk hg
  have hg : wG S (S5.set k (17, 0, [(0, 0), (0, 0), (2, n), (0, 0), (0, 0), (0, 0), (0, 0), (1, 0), (0, 0), (0, 0), (2, (n + 1)), (2, (n + 2)), (3, 0), (3, 0), (3, 0), (3, 0), (3, 0), (3, 0), (3, 0), (3, 0), (3, 0), (3, 0), (3, 0), (0, 0), (3, 0), (3, 0), (3, 0), (3, 0), (3, 0), (3, 0), (3, 0), (3, 0), (3, 0), (3, 0), (3, 0), (3, 0), (0, 0), (1, 0), (3, 0), (3, 0), (3, 0), (3, 0), (3, 0), (3, 0), (3, 0), (3, 0), (3, 0), (3, 0), (3, 0), (3, 0), (3, 0), (3, 0), (3, 0), (3, 0), (0, 0), (3, 0), (3, 0), (0, 0), (1, 0)])) n (n + 3) k := wG_set2 (j := 11) (r := (n + 2)) hg hk (by omega) (Or.inl rfl) rfl
  have hk := w_stk (x := (17, 0, [(0, 0), (0, 0), (2, n), (0, 0), (0, 0), (0, 0), (0, 0), (1, 0), (0, 0), (0, 0), (2, (n + 1)), (2, (n + 2)), (3, 0), (3, 0), (3, 0), (3, 0), (3, 0), (3, 0), (3, 0), (3, 0), (3, 0), (3, 0), (3, 0), (0, 0), (3, 0), (3, 0), (3, 0), (3, 0), (3, 0), (3, 0), (3, 0), (3, 0), (3, 0), (3, 0), (3, 0), (3, 0), (0, 0), (1, 0), (3, 0), (3, 0), (3, 0), (3, 0), (3, 0), (3, 0), (3, 0), (3, 0), (3, 0), (3, 0), (3, 0), (3, 0), (3, 0), (3, 0), (3, 0), (3, 0), (0, 0), (3, 0), (3, 0), (0, 0), (1, 0)])) hk
  generalize hs6 : S5.set k (17, 0, [(0, 0), (0, 0), (2, n), (0, 0), (0, 0), (0, 0), (0, 0), (1, 0), (0, 0), (0, 0), (2, (n + 1)), (2, (n + 2)), (3, 0), (3, 0), (3, 0), (3, 0), (3, 0), (3, 0), (3, 0), (3, 0), (3, 0), (3, 0), (3, 0), (0, 0), (3, 0), (3, 0), (3, 0), (3, 0), (3, 0), (3, 0), (3, 0), (3, 0), (3, 0), (3, 0), (3, 0), (3, 0), (0, 0), (1, 0), (3, 0), (3, 0), (3, 0), (3, 0), (3, 0), (3, 0), (3, 0), (3, 0), (3, 0), (3, 0), (3, 0), (3, 0), (3, 0), (3, 0), (3, 0), (3, 0), (0, 0), (3, 0), (3, 0), (0, 0), (1, 0)]) = S6 at hk hg
  have hk := w_apk (x := (3, 12, [])) hk
  have hg : wG S (S6 ++ [(3, 12, [])]) n (n + 4) k := wG_app (t := 3) (N := 12) (fs := []) hg (by simp)
  generalize hs7 : S6 ++ [(3, 12, [])] = S7 at hk hg
  have hg : wG S (S7.set k (17, 0, [(0, 0), (0, 0), (2, n), (0, 0), (0, 0), (0, 0), (0, 0), (1, 0), (0, 0), (0, 0), (2, (n + 1)), (2, (n + 2)), (2, (n + 3)), (3, 0), (3, 0), (3, 0), (3, 0), (3, 0), (3, 0), (3, 0), (3, 0), (3, 0), (3, 0), (0, 0), (3, 0), (3, 0), (3, 0), (3, 0), (3, 0), (3, 0), (3, 0), (3, 0), (3, 0), (3, 0), (3, 0), (3, 0), (0, 0), (1, 0), (3, 0), (3, 0), (3, 0), (3, 0), (3, 0), (3, 0), (3, 0), (3, 0), (3, 0), (3, 0), (3, 0), (3, 0), (3, 0), (3, 0), (3, 0), (3, 0), (0, 0), (3, 0), (3, 0), (0, 0), (1, 0)])) n (n + 4) k := wG_set2 (j := 12) (r := (n + 3)) hg hk (by omega) (Or.inl rfl) rfl
  have hk := w_stk (x := (17, 0, [(0, 0), (0, 0), (2, n), (0, 0), (0, 0), (0, 0), (0, 0), (1, 0), (0, 0), (0, 0), (2, (n + 1)), (2, (n + 2)), (2, (n + 3)), (3, 0), (3, 0), (3, 0), (3, 0), (3, 0), (3, 0), (3, 0), (3, 0), (3, 0), (3, 0), (0, 0), (3, 0), (3, 0), (3, 0), (3, 0), (3, 0), (3, 0), (3, 0), (3, 0), (3, 0), (3, 0), (3, 0), (3, 0), (0, 0), (1, 0), (3, 0), (3, 0), (3, 0), (3, 0), (3, 0), (3, 0), (3, 0), (3, 0), (3, 0), (3, 0), (3, 0), (3, 0), (3, 0), (3, 0), (3, 0), (3, 0), (0, 0), (3, 0), (3, 0), (0, 0), (1, 0)])) hk
  generalize hs8 : S7.set k (17, 0, [(0, 0), (0, 0), (2, n), (0, 0), (0, 0), (0, 0), (0, 0), (1, 0), (0, 0), (0, 0), (2, (n + 1)), (2, (n + 2)), (2, (n + 3)), (3, 0), (3, 0), (3, 0), (3, 0), (3, 0), (3, 0), (3, 0), (3, 0), (3, 0), (3, 0), (0, 0), (3, 0), (3, 0), (3, 0), (3, 0), (3, 0), (3, 0), (3, 0), (3, 0), (3, 0), (3, 0), (3, 0), (3, 0), (0, 0), (1, 0), (3, 0), (3, 0), (3, 0), (3, 0), (3, 0), (3, 0), (3, 0), (3, 0), (3, 0), (3, 0), (3, 0), (3, 0), (3, 0), (3, 0), (3, 0), (3, 0), (0, 0), (3, 0), (3, 0), (0, 0), (1, 0)]) = S8 at hk hg
  have hk := w_apk (x := (0, 6, [])) hk
  have hg : wG S (S8 ++ [(0, 6, [])]) n (n + 5) k := wG_app (t := 0) (N := 6) (fs := []) hg (by simp)
  generalize hs9 : S8 ++ [(0, 6, [])] = S9 at hk hg
  have hg : wG S (S9.set k (17, 0, [(0, 0), (0, 0), (2, n), (0, 0), (0, 0), (0, 0), (0, 0), (1, 0), (0, 0), (0, 0), (2, (n + 1)), (2, (n + 2)), (2, (n + 3)), (2, (n + 4)), (3, 0), (3, 0), (3, 0), (3, 0), (3, 0), (3, 0), (3, 0), (3, 0), (3, 0), (0, 0), (3, 0), (3, 0), (3, 0), (3, 0), (3, 0), (3, 0), (3, 0), (3, 0), (3, 0), (3, 0), (3, 0), (3, 0), (0, 0), (1, 0), (3, 0), (3, 0), (3, 0), (3, 0), (3, 0), (3, 0), (3, 0), (3, 0), (3, 0), (3, 0), (3, 0), (3, 0), (3, 0), (3, 0), (3, 0), (3, 0), (0, 0), (3, 0), (3, 0), (0, 0), (1, 0)])) n (n + 5) k := wG_set2 (j := 13) (r := (n + 4)) hg hk (by omega) (Or.inl rfl) rfl
  have hk := w_stk (x := (17, 0, [(0, 0), (0, 0), (2, n), (0, 0), (0, 0), (0, 0), (0, 0), (1, 0), (0, 0), (0, 0), (2, (n + 1)), (2, (n + 2)), (2, (n + 3)), (2, (n + 4)), (3, 0), (3, 0), (3, 0), (3, 0), (3, 0), (3, 0), (3, 0), (3, 0), (3, 0), (0, 0), (3, 0), (3, 0), (3, 0), (3, 0), (3, 0), (3, 0), (3, 0), (3, 0), (3, 0), (3, 0), (3, 0), (3, 0), (0, 0), (1, 0), (3, 0), (3, 0), (3, 0), (3, 0), (3, 0), (3, 0), (3, 0), (3, 0), (3, 0), (3, 0), (3, 0), (3, 0), (3, 0), (3, 0), (3, 0), (3, 0), (0, 0), (3, 0), (3, 0), (0, 0), (1, 0)])) hk
  generalize hs10 : S9.set k (17, 0, [(0, 0), (0, 0), (2, n), (0, 0), (0, 0), (0, 0), (0, 0), (1, 0), (0, 0), (0, 0), (2, (n + 1)), (2, (n + 2)), (2, (n + 3)), (2, (n + 4)), (3, 0), (3, 0), (3, 0), (3, 0), (3, 0), (3, 0), (3, 0), (3, 0), (3, 0), (0, 0), (3, 0), (3, 0), (3, 0), (3, 0), (3, 0), (3, 0), (3, 0), (3, 0), (3, 0), (3, 0), (3, 0), (3, 0), (0, 0), (1, 0), (3, 0), (3, 0), (3, 0), (3, 0), (3, 0), (3, 0), (3, 0), (3, 0), (3, 0), (3, 0), (3, 0), (3, 0), (3, 0), (3, 0), (3, 0), (3, 0), (0, 0), (3, 0), (3, 0), (0, 0), (1, 0)]) = S10 at hk hg
  have hk := w_apk (x := (0, 6, [])) hk
  have hg : wG S (S10 ++ [(0, 6, [])]) n (n + 6) k := wG_app (t := 0) (N := 6) (fs := []) hg (by simp)
  generalize hs11 : S10 ++ [(0, 6, [])] = S11 at hk hg
  have hg : wG S (S11.set k (17, 0, [(0, 0), (0, 0), (2, n), (0, 0), (0, 0), (0, 0), (0, 0), (1, 0), (0, 0), (0, 0), (2, (n + 1)), (2, (n + 2)), (2, (n + 3)), (2, (n + 4)), (2, (n + 5)), (3, 0), (3, 0), (3, 0), (3, 0), (3, 0), (3, 0), (3, 0), (3, 0), (0, 0), (3, 0), (3, 0), (3, 0), (3, 0), (3, 0), (3, 0), (3, 0), (3, 0), (3, 0), (3, 0), (3, 0), (3, 0), (0, 0), (1, 0), (3, 0), (3, 0), (3, 0), (3, 0), (3, 0), (3, 0), (3, 0), (3, 0), (3, 0), (3, 0), (3, 0), (3, 0), (3, 0), (3, 0), (3, 0), (3, 0), (0, 0), (3, 0), (3, 0), (0, 0), (1, 0)])) n (n + 6) k := wG_set2 (j := 14) (r := (n + 5)) hg hk (by omega) (Or.inl rfl) rfl
  have hk := w_stk (x := (17, 0, [(0, 0), (0, 0), (2, n), (0, 0), (0, 0), (0, 0), (0, 0), (1, 0), (0, 0), (0, 0), (2, (n + 1)), (2, (n + 2)), (2, (n + 3)), (2, (n + 4)), (2, (n + 5)), (3, 0), (3, 0), (3, 0), (3, 0), (3, 0), (3, 0), (3, 0), (3, 0), (0, 0), (3, 0), (3, 0), (3, 0), (3, 0), (3, 0), (3, 0), (3, 0), (3, 0), (3, 0), (3, 0), (3, 0), (3, 0), (0, 0), (1, 0), (3, 0), (3, 0), (3, 0), (3, 0), (3, 0), (3, 0), (3, 0), (3, 0), (3, 0), (3, 0), (3, 0), (3, 0), (3, 0), (3, 0), (3, 0), (3, 0), (0, 0), (3, 0), (3, 0), (0, 0), (1, 0)])) hk
  generalize hs12 : S11.set k (17, 0, [(0, 0), (0, 0), (2, n), (0, 0), (0, 0), (0, 0), (0, 0), (1, 0), (0, 0), (0, 0), (2, (n + 1)), (2, (n + 2)), (2, (n + 3)), (2, (n + 4)), (2, (n + 5)), (3, 0), (3, 0), (3, 0), (3, 0), (3, 0), (3, 0), (3, 0), (3, 0), (0, 0), (3, 0), (3, 0), (3, 0), (3, 0), (3, 0), (3, 0), (3, 0), (3, 0), (3, 0), (3, 0), (3, 0), (3, 0), (0, 0), (1, 0), (3, 0), (3, 0), (3, 0), (3, 0), (3, 0), (3, 0), (3, 0), (3, 0), (3, 0), (3, 0), (3, 0), (3, 0), (3, 0), (3, 0), (3, 0), (3, 0), (0, 0), (3, 0), (3, 0), (0, 0), (1, 0)]) = S12 at hk hg
  have hk := w_apk (x := (0, 6, [])) hk
  have hg : wG S (S12 ++ [(0, 6, [])]) n (n + 7) k := wG_app (t := 0) (N := 6) (fs := []) hg (by simp)
  generalize hs13 : S12 ++ [(0, 6, [])] = S13 at hk hg
  have hg : wG S (S13.set k (17, 0, [(0, 0), (0, 0), (2, n), (0, 0), (0, 0), (0, 0), (0, 0), (1, 0), (0, 0), (0, 0), (2, (n + 1)), (2, (n + 2)), (2, (n + 3)), (2, (n + 4)), (2, (n + 5)), (2, (n + 6)), (3, 0), (3, 0), (3, 0), (3, 0), (3, 0), (3, 0), (3, 0), (0, 0), (3, 0), (3, 0), (3, 0), (3, 0), (3, 0), (3, 0), (3, 0), (3, 0), (3, 0), (3, 0), (3, 0), (3, 0), (0, 0), (1, 0), (3, 0), (3, 0), (3, 0), (3, 0), (3, 0), (3, 0), (3, 0), (3, 0), (3, 0), (3, 0), (3, 0), (3, 0), (3, 0), (3, 0), (3, 0), (3, 0), (0, 0), (3, 0), (3, 0), (0, 0), (1, 0)])) n (n + 7) k := wG_set2 (j := 15) (r := (n + 6)) hg hk (by omega) (Or.inl rfl) rfl
  have hk := w_stk (x := (17, 0, [(0, 0), (0, 0), (2, n), (0, 0), (0, 0), (0, 0), (0, 0), (1, 0), (0, 0), (0, 0), (2, (n + 1)), (2, (n + 2)), (2, (n + 3)), (2, (n + 4)), (2, (n + 5)), (2, (n + 6)), (3, 0), (3, 0), (3, 0), (3, 0), (3, 0), (3, 0), (3, 0), (0, 0), (3, 0), (3, 0), (3, 0), (3, 0), (3, 0), (3, 0), (3, 0), (3, 0), (3, 0), (3, 0), (3, 0), (3, 0), (0, 0), (1, 0), (3, 0), (3, 0), (3, 0), (3, 0), (3, 0), (3, 0), (3, 0), (3, 0), (3, 0), (3, 0), (3, 0), (3, 0), (3, 0), (3, 0), (3, 0), (3, 0), (0, 0), (3, 0), (3, 0), (0, 0), (1, 0)])) hk
  generalize hs14 : S13.set k (17, 0, [(0, 0), (0, 0), (2, n), (0, 0), (0, 0), (0, 0), (0, 0), (1, 0), (0, 0), (0, 0), (2, (n + 1)), (2, (n + 2)), (2, (n + 3)), (2, (n + 4)), (2, (n + 5)), (2, (n + 6)), (3, 0), (3, 0), (3, 0), (3, 0), (3, 0), (3, 0), (3, 0), (0, 0), (3, 0), (3, 0), (3, 0), (3, 0), (3, 0), (3, 0), (3, 0), (3, 0), (3, 0), (3, 0), (3, 0), (3, 0), (0, 0), (1, 0), (3, 0), (3, 0), (3, 0), (3, 0), (3, 0), (3, 0), (3, 0), (3, 0), (3, 0), (3, 0), (3, 0), (3, 0), (3, 0), (3, 0), (3, 0), (3, 0), (0, 0), (3, 0), (3, 0), (0, 0), (1, 0)]) = S14 at hk hg
  have hk := w_apk (x := (0, 12, [])) hk
  have hg : wG S (S14 ++ [(0, 12, [])]) n (n + 8) k := wG_app (t := 0) (N := 12) (fs := []) hg (by simp)
  generalize hs15 : S14 ++ [(0, 12, [])] = S15 at hk hg
  have hg : wG S (S15.set k (17, 0, [(0, 0), (0, 0), (2, n), (0, 0), (0, 0), (0, 0), (0, 0), (1, 0), (0, 0), (0, 0), (2, (n + 1)), (2, (n + 2)), (2, (n + 3)), (2, (n + 4)), (2, (n + 5)), (2, (n + 6)), (2, (n + 7)), (3, 0), (3, 0), (3, 0), (3, 0), (3, 0), (3, 0), (0, 0), (3, 0), (3, 0), (3, 0), (3, 0), (3, 0), (3, 0), (3, 0), (3, 0), (3, 0), (3, 0), (3, 0), (3, 0), (0, 0), (1, 0), (3, 0), (3, 0), (3, 0), (3, 0), (3, 0), (3, 0), (3, 0), (3, 0), (3, 0), (3, 0), (3, 0), (3, 0), (3, 0), (3, 0), (3, 0), (3, 0), (0, 0), (3, 0), (3, 0), (0, 0), (1, 0)])) n (n + 8) k := wG_set2 (j := 16) (r := (n + 7)) hg hk (by omega) (Or.inl rfl) rfl
  have hk := w_stk (x := (17, 0, [(0, 0), (0, 0), (2, n), (0, 0), (0, 0), (0, 0), (0, 0), (1, 0), (0, 0), (0, 0), (2, (n + 1)), (2, (n + 2)), (2, (n + 3)), (2, (n + 4)), (2, (n + 5)), (2, (n + 6)), (2, (n + 7)), (3, 0), (3, 0), (3, 0), (3, 0), (3, 0), (3, 0), (0, 0), (3, 0), (3, 0), (3, 0), (3, 0), (3, 0), (3, 0), (3, 0), (3, 0), (3, 0), (3, 0), (3, 0), (3, 0), (0, 0), (1, 0), (3, 0), (3, 0), (3, 0), (3, 0), (3, 0), (3, 0), (3, 0), (3, 0), (3, 0), (3, 0), (3, 0), (3, 0), (3, 0), (3, 0), (3, 0), (3, 0), (0, 0), (3, 0), (3, 0), (0, 0), (1, 0)])) hk
  generalize hs16 : S15.set k (17, 0, [(0, 0), (0, 0), (2, n), (0, 0), (0, 0), (0, 0), (0, 0), (1, 0), (0, 0), (0, 0), (2, (n + 1)), (2, (n + 2)), (2, (n + 3)), (2, (n + 4)), (2, (n + 5)), (2, (n + 6)), (2, (n + 7)), (3, 0), (3, 0), (3, 0), (3, 0), (3, 0), (3, 0), (0, 0), (3, 0), (3, 0), (3, 0), (3, 0), (3, 0), (3, 0), (3, 0), (3, 0), (3, 0), (3, 0), (3, 0), (3, 0), (0, 0), (1, 0), (3, 0), (3, 0), (3, 0), (3, 0), (3, 0), (3, 0), (3, 0), (3, 0), (3, 0), (3, 0), (3, 0), (3, 0), (3, 0), (3, 0), (3, 0), (3, 0), (0, 0), (3, 0), (3, 0), (0, 0), (1, 0)]) = S16 at hk hg
  have hk := w_apk (x := (0, 12, [])) hk
  have hg : wG S (S16 ++ [(0, 12, [])]) n (n + 9) k := wG_app (t := 0) (N := 12) (fs := []) hg (by simp)
  generalize hs17 : S16 ++ [(0, 12, [])] = S17 at hk hg
  have hg : wG S (S17.set k (17, 0, [(0, 0), (0, 0), (2, n), (0, 0), (0, 0), (0, 0), (0, 0), (1, 0), (0, 0), (0, 0), (2, (n + 1)), (2, (n + 2)), (2, (n + 3)), (2, (n + 4)), (2, (n + 5)), (2, (n + 6)), (2, (n + 7)), (2, (n + 8)), (3, 0), (3, 0), (3, 0), (3, 0), (3, 0), (0, 0), (3, 0), (3, 0), (3, 0), (3, 0), (3, 0), (3, 0), (3, 0), (3, 0), (3, 0), (3, 0), (3, 0), (3, 0), (0, 0), (1, 0), (3, 0), (3, 0), (3, 0), (3, 0), (3, 0), (3, 0), (3, 0), (3, 0), (3, 0), (3, 0), (3, 0), (3, 0), (3, 0), (3, 0), (3, 0), (3, 0), (0, 0), (3, 0), (3, 0), (0, 0), (1, 0)])) n (n + 9) k := wG_set2 (j := 17) (r := (n + 8)) hg hk (by omega) (Or.inl rfl) rfl
  have hk := w_stk (x := (17, 0, [(0, 0), (0, 0), (2, n), (0, 0), (0, 0), (0, 0), (0, 0), (1, 0), (0, 0), (0, 0), (2, (n + 1)), (2, (n + 2)), (2, (n + 3)), (2, (n + 4)), (2, (n + 5)), (2, (n + 6)), (2, (n + 7)), (2, (n + 8)), (3, 0), (3, 0), (3, 0), (3, 0), (3, 0), (0, 0), (3, 0), (3, 0), (3, 0), (3, 0), (3, 0), (3, 0), (3, 0), (3, 0), (3, 0), (3, 0), (3, 0), (3, 0), (0, 0), (1, 0), (3, 0), (3, 0), (3, 0), (3, 0), (3, 0), (3, 0), (3, 0), (3, 0), (3, 0), (3, 0), (3, 0), (3, 0), (3, 0), (3, 0), (3, 0), (3, 0), (0, 0), (3, 0), (3, 0), (0, 0), (1, 0)])) hk
  generalize hs18 : S17.set k (17, 0, [(0, 0), (0, 0), (2, n), (0, 0), (0, 0), (0, 0), (0, 0), (1, 0), (0, 0), (0, 0), (2, (n + 1)), (2, (n + 2)), (2, (n + 3)), (2, (n + 4)), (2, (n + 5)), (2, (n + 6)), (2, (n + 7)), (2, (n + 8)), (3, 0), (3, 0), (3, 0), (3, 0), (3, 0), (0, 0), (3, 0), (3, 0), (3, 0), (3, 0), (3, 0), (3, 0), (3, 0), (3, 0), (3, 0), (3, 0), (3, 0), (3, 0), (0, 0), (1, 0), (3, 0), (3, 0), (3, 0), (3, 0), (3, 0), (3, 0), (3, 0), (3, 0), (3, 0), (3, 0), (3, 0), (3, 0), (3, 0), (3, 0), (3, 0), (3, 0), (0, 0), (3, 0), (3, 0), (0, 0), (1, 0)]) = S18 at hk hg
  have hk := w_apk (x := (0, 12, [])) hk
  have hg : wG S (S18 ++ [(0, 12, [])]) n (n + 10) k := wG_app (t := 0) (N := 12) (fs := []) hg (by simp)
  generalize hs19 : S18 ++ [(0, 12, [])] = S19 at hk hg
  have hg : wG S (S19.set k (17, 0, [(0, 0), (0, 0), (2, n), (0, 0), (0, 0), (0, 0), (0, 0), (1, 0), (0, 0), (0, 0), (2, (n + 1)), (2, (n + 2)), (2, (n + 3)), (2, (n + 4)), (2, (n + 5)), (2, (n + 6)), (2, (n + 7)), (2, (n + 8)), (2, (n + 9)), (3, 0), (3, 0), (3, 0), (3, 0), (0, 0), (3, 0), (3, 0), (3, 0), (3, 0), (3, 0), (3, 0), (3, 0), (3, 0), (3, 0), (3, 0), (3, 0), (3, 0), (0, 0), (1, 0), (3, 0), (3, 0), (3, 0), (3, 0), (3, 0), (3, 0), (3, 0), (3, 0), (3, 0), (3, 0), (3, 0), (3, 0), (3, 0), (3, 0), (3, 0), (3, 0), (0, 0), (3, 0), (3, 0), (0, 0), (1, 0)])) n (n + 10) k := wG_set2 (j := 18) (r := (n + 9)) hg hk (by omega) (Or.inl rfl) rfl
  have hk := w_stk (x := (17, 0, [(0, 0), (0, 0), (2, n), (0, 0), (0, 0), (0, 0), (0, 0), (1, 0), (0, 0), (0, 0), (2, (n + 1)), (2, (n + 2)), (2, (n + 3)), (2, (n + 4)), (2, (n + 5)), (2, (n + 6)), (2, (n + 7)), (2, (n + 8)), (2, (n + 9)), (3, 0), (3, 0), (3, 0), (3, 0), (0, 0), (3, 0), (3, 0), (3, 0), (3, 0), (3, 0), (3, 0), (3, 0), (3, 0), (3, 0), (3, 0), (3, 0), (3, 0), (0, 0), (1, 0), (3, 0), (3, 0), (3, 0), (3, 0), (3, 0), (3, 0), (3, 0), (3, 0), (3, 0), (3, 0), (3, 0), (3, 0), (3, 0), (3, 0), (3, 0), (3, 0), (0, 0), (3, 0), (3, 0), (0, 0), (1, 0)])) hk
  generalize hs20 : S19.set k (17, 0, [(0, 0), (0, 0), (2, n), (0, 0), (0, 0), (0, 0), (0, 0), (1, 0), (0, 0), (0, 0), (2, (n + 1)), (2, (n + 2)), (2, (n + 3)), (2, (n + 4)), (2, (n + 5)), (2, (n + 6)), (2, (n + 7)), (2, (n + 8)), (2, (n + 9)), (3, 0), (3, 0), (3, 0), (3, 0), (0, 0), (3, 0), (3, 0), (3, 0), (3, 0), (3, 0), (3, 0), (3, 0), (3, 0), (3, 0), (3, 0), (3, 0), (3, 0), (0, 0), (1, 0), (3, 0), (3, 0), (3, 0), (3, 0), (3, 0), (3, 0), (3, 0), (3, 0), (3, 0), (3, 0), (3, 0), (3, 0), (3, 0), (3, 0), (3, 0), (3, 0), (0, 0), (3, 0), (3, 0), (0, 0), (1, 0)]) = S20 at hk hg
  have hk := w_apk (x := (0, 24, [])) hk
  have hg : wG S (S20 ++ [(0, 24, [])]) n (n + 11) k := wG_app (t := 0) (N := 24) (fs := []) hg (by simp)
  generalize hs21 : S20 ++ [(0, 24, [])] = S21 at hk hg
  have hg : wG S (S21.set k (17, 0, [(0, 0), (0, 0), (2, n), (0, 0), (0, 0), (0, 0), (0, 0), (1, 0), (0, 0), (0, 0), (2, (n + 1)), (2, (n + 2)), (2, (n + 3)), (2, (n + 4)), (2, (n + 5)), (2, (n + 6)), (2, (n + 7)), (2, (n + 8)), (2, (n + 9)), (2, (n + 10)), (3, 0), (3, 0), (3, 0), (0, 0), (3, 0), (3, 0), (3, 0), (3, 0), (3, 0), (3, 0), (3, 0), (3, 0), (3, 0), (3, 0), (3, 0), (3, 0), (0, 0), (1, 0), (3, 0), (3, 0), (3, 0), (3, 0), (3, 0), (3, 0), (3, 0), (3, 0), (3, 0), (3, 0), (3, 0), (3, 0), (3, 0), (3, 0), (3, 0), (3, 0), (0, 0), (3, 0), (3, 0), (0, 0), (1, 0)])) n (n + 11) k := wG_set2 (j := 19) (r := (n + 10)) hg hk (by omega) (Or.inl rfl) rfl
  have hk := w_stk (x := (17, 0, [(0, 0), (0, 0), (2, n), (0, 0), (0, 0), (0, 0), (0, 0), (1, 0), (0, 0), (0, 0), (2, (n + 1)), (2, (n + 2)), (2, (n + 3)), (2, (n + 4)), (2, (n + 5)), (2, (n + 6)), (2, (n + 7)), (2, (n + 8)), (2, (n + 9)), (2, (n + 10)), (3, 0), (3, 0), (3, 0), (0, 0), (3, 0), (3, 0), (3, 0), (3, 0), (3, 0), (3, 0), (3, 0), (3, 0), (3, 0), (3, 0), (3, 0), (3, 0), (0, 0), (1, 0), (3, 0), (3, 0), (3, 0), (3, 0), (3, 0), (3, 0), (3, 0), (3, 0), (3, 0), (3, 0), (3, 0), (3, 0), (3, 0), (3, 0), (3, 0), (3, 0), (0, 0), (3, 0), (3, 0), (0, 0), (1, 0)])) hk
  generalize hs22 : S21.set k (17, 0, [(0, 0), (0, 0), (2, n), (0, 0), (0, 0), (0, 0), (0, 0), (1, 0), (0, 0), (0, 0), (2, (n + 1)), (2, (n + 2)), (2, (n + 3)), (2, (n + 4)), (2, (n + 5)), (2, (n + 6)), (2, (n + 7)), (2, (n + 8)), (2, (n + 9)), (2, (n + 10)), (3, 0), (3, 0), (3, 0), (0, 0), (3, 0), (3, 0), (3, 0), (3, 0), (3, 0), (3, 0), (3, 0), (3, 0), (3, 0), (3, 0), (3, 0), (3, 0), (0, 0), (1, 0), (3, 0), (3, 0), (3, 0), (3, 0), (3, 0), (3, 0), (3, 0), (3, 0), (3, 0), (3, 0), (3, 0), (3, 0), (3, 0), (3, 0), (3, 0), (3, 0), (0, 0), (3, 0), (3, 0), (0, 0), (1, 0)]) = S22 at hk hg
  have hk := w_apk (x := (0, 2, [])) hk
  have hg : wG S (S22 ++ [(0, 2, [])]) n (n + 12) k := wG_app (t := 0) (N := 2) (fs := []) hg (by simp)
  generalize hs23 : S22 ++ [(0, 2, [])] = S23 at hk hg
  have hg : wG S (S23.set k (17, 0, [(0, 0), (0, 0), (2, n), (0, 0), (0, 0), (0, 0), (0, 0), (1, 0), (0, 0), (0, 0), (2, (n + 1)), (2, (n + 2)), (2, (n + 3)), (2, (n + 4)), (2, (n + 5)), (2, (n + 6)), (2, (n + 7)), (2, (n + 8)), (2, (n + 9)), (2, (n + 10)), (2, (n + 11)), (3, 0), (3, 0), (0, 0), (3, 0), (3, 0), (3, 0), (3, 0), (3, 0), (3, 0), (3, 0), (3, 0), (3, 0), (3, 0), (3, 0), (3, 0), (0, 0), (1, 0), (3, 0), (3, 0), (3, 0), (3, 0), (3, 0), (3, 0), (3, 0), (3, 0), (3, 0), (3, 0), (3, 0), (3, 0), (3, 0), (3, 0), (3, 0), (3, 0), (0, 0), (3, 0), (3, 0), (0, 0), (1, 0)])) n (n + 12) k := wG_set2 (j := 20) (r := (n + 11)) hg hk (by omega) (Or.inl rfl) rfl
  have hk := w_stk (x := (17, 0, [(0, 0), (0, 0), (2, n), (0, 0), (0, 0), (0, 0), (0, 0), (1, 0), (0, 0), (0, 0), (2, (n + 1)), (2, (n + 2)), (2, (n + 3)), (2, (n + 4)), (2, (n + 5)), (2, (n + 6)), (2, (n + 7)), (2, (n + 8)), (2, (n + 9)), (2, (n + 10)), (2, (n + 11)), (3, 0), (3, 0), (0, 0), (3, 0), (3, 0), (3, 0), (3, 0), (3, 0), (3, 0), (3, 0), (3, 0), (3, 0), (3, 0), (3, 0), (3, 0), (0, 0), (1, 0), (3, 0), (3, 0), (3, 0), (3, 0), (3, 0), (3, 0), (3, 0), (3, 0), (3, 0), (3, 0), (3, 0), (3, 0), (3, 0), (3, 0), (3, 0), (3, 0), (0, 0), (3, 0), (3, 0), (0, 0), (1, 0)])) hk
  generalize hs24 : S23.set k (17, 0, [(0, 0), (0, 0), (2, n), (0, 0), (0, 0), (0, 0), (0, 0), (1, 0), (0, 0), (0, 0), (2, (n + 1)), (2, (n + 2)), (2, (n + 3)), (2, (n + 4)), (2, (n + 5)), (2, (n + 6)), (2, (n + 7)), (2, (n + 8)), (2, (n + 9)), (2, (n + 10)), (2, (n + 11)), (3, 0), (3, 0), (0, 0), (3, 0), (3, 0), (3, 0), (3, 0), (3, 0), (3, 0), (3, 0), (3, 0), (3, 0), (3, 0), (3, 0), (3, 0), (0, 0), (1, 0), (3, 0), (3, 0), (3, 0), (3, 0), (3, 0), (3, 0), (3, 0), (3, 0), (3, 0), (3, 0), (3, 0), (3, 0), (3, 0), (3, 0), (3, 0), (3, 0), (0, 0), (3, 0), (3, 0), (0, 0), (1, 0)]) = S24 at hk hg
  have hk := w_apk (x := (0, 2, [])) hk
  have hg : wG S (S24 ++ [(0, 2, [])]) n (n + 13) k := wG_app (t := 0) (N := 2) (fs := []) hg (by simp)
  generalize hs25 : S24 ++ [(0, 2, [])] = S25 at hk hg
  have hg : wG S (S25.set k (17, 0, [(0, 0), (0, 0), (2, n), (0, 0), (0, 0), (0, 0), (0, 0), (1, 0), (0, 0), (0, 0), (2, (n + 1)), (2, (n + 2)), (2, (n + 3)), (2, (n + 4)), (2, (n + 5)), (2, (n + 6)), (2, (n + 7)), (2, (n + 8)), (2, (n + 9)), (2, (n + 10)), (2, (n + 11)), (2, (n + 12)), (3, 0), (0, 0), (3, 0), (3, 0), (3, 0), (3, 0), (3, 0), (3, 0), (3, 0), (3, 0), (3, 0), (3, 0), (3, 0), (3, 0), (0, 0), (1, 0), (3, 0), (3, 0), (3, 0), (3, 0), (3, 0), (3, 0), (3, 0), (3, 0), (3, 0), (3, 0), (3, 0), (3, 0), (3, 0), (3, 0), (3, 0), (3, 0), (0, 0), (3, 0), (3, 0), (0, 0), (1, 0)])) n (n + 13) k := wG_set2 (j := 21) (r := (n + 12)) hg hk (by omega) (Or.inl rfl) rfl
  have hk := w_stk (x := (17, 0, [(0, 0), (0, 0), (2, n), (0, 0), (0, 0), (0, 0), (0, 0), (1, 0), (0, 0), (0, 0), (2, (n + 1)), (2, (n + 2)), (2, (n + 3)), (2, (n + 4)), (2, (n + 5)), (2, (n + 6)), (2, (n + 7)), (2, (n + 8)), (2, (n + 9)), (2, (n + 10)), (2, (n + 11)), (2, (n + 12)), (3, 0), (0, 0), (3, 0), (3, 0), (3, 0), (3, 0), (3, 0), (3, 0), (3, 0), (3, 0), (3, 0), (3, 0), (3, 0), (3, 0), (0, 0), (1, 0), (3, 0), (3, 0), (3, 0), (3, 0), (3, 0), (3, 0), (3, 0), (3, 0), (3, 0), (3, 0), (3, 0), (3, 0), (3, 0), (3, 0), (3, 0), (3, 0), (0, 0), (3, 0), (3, 0), (0, 0), (1, 0)])) hk
  generalize hs26 : S25.set k (17, 0, [(0, 0), (0, 0), (2, n), (0, 0), (0, 0), (0, 0), (0, 0), (1, 0), (0, 0), (0, 0), (2, (n + 1)), (2, (n + 2)), (2, (n + 3)), (2, (n + 4)), (2, (n + 5)), (2, (n + 6)), (2, (n + 7)), (2, (n + 8)), (2, (n + 9)), (2, (n + 10)), (2, (n + 11)), (2, (n + 12)), (3, 0), (0, 0), (3, 0), (3, 0), (3, 0), (3, 0), (3, 0), (3, 0), (3, 0), (3, 0), (3, 0), (3, 0), (3, 0), (3, 0), (0, 0), (1, 0), (3, 0), (3, 0), (3, 0), (3, 0), (3, 0), (3, 0), (3, 0), (3, 0), (3, 0), (3, 0), (3, 0), (3, 0), (3, 0), (3, 0), (3, 0), (3, 0), (0, 0), (3, 0), (3, 0), (0, 0), (1, 0)]) = S26 at hk hg
  have hk := w_apk (x := (0, 2000, [])) hk
  have hg : wG S (S26 ++ [(0, 2000, [])]) n (n + 14) k := wG_app (t := 0) (N := 2000) (fs := []) hg (by simp)
  generalize hs27 : S26 ++ [(0, 2000, [])] = S27 at hk hg
  have hg : wG S (S27.set k (17, 0, [(0, 0), (0, 0), (2, n), (0, 0), (0, 0), (0, 0), (0, 0), (1, 0), (0, 0), (0, 0), (2, (n + 1)), (2, (n + 2)), (2, (n + 3)), (2, (n + 4)), (2, (n + 5)), (2, (n + 6)), (2, (n + 7)), (2, (n + 8)), (2, (n + 9)), (2, (n + 10)), (2, (n + 11)), (2, (n + 12)), (2, (n + 13)), (0, 0), (3, 0), (3, 0), (3, 0), (3, 0), (3, 0), (3, 0), (3, 0), (3, 0), (3, 0), (3, 0), (3, 0), (3, 0), (0, 0), (1, 0), (3, 0), (3, 0), (3, 0), (3, 0), (3, 0), (3, 0), (3, 0), (3, 0), (3, 0), (3, 0), (3, 0), (3, 0), (3, 0), (3, 0), (3, 0), (3, 0), (0, 0), (3, 0), (3, 0), (0, 0), (1, 0)])) n (n + 14) k := wG_set2 (j := 22) (r := (n + 13)) hg hk (by omega) (Or.inl rfl) rfl
  have hk := w_stk (x := (17, 0, [(0, 0), (0, 0), (2, n), (0, 0), (0, 0), (0, 0), (0, 0), (1, 0), (0, 0), (0, 0), (2, (n + 1)), (2, (n + 2)), (2, (n + 3)), (2, (n + 4)), (2, (n + 5)), (2, (n + 6)), (2, (n + 7)), (2, (n + 8)), (2, (n + 9)), (2, (n + 10)), (2, (n + 11)), (2, (n + 12)), (2, (n + 13)), (0, 0), (3, 0), (3, 0), (3, 0), (3, 0), (3, 0), (3, 0), (3, 0), (3, 0), (3, 0), (3, 0), (3, 0), (3, 0), (0, 0), (1, 0), (3, 0), (3, 0), (3, 0), (3, 0), (3, 0), (3, 0), (3, 0), (3, 0), (3, 0), (3, 0), (3, 0), (3, 0), (3, 0), (3, 0), (3, 0), (3, 0), (0, 0), (3, 0), (3, 0), (0, 0), (1, 0)])) hk
  generalize hs28 : S27.set k (17, 0, [(0, 0), (0, 0), (2, n), (0, 0), (0, 0), (0, 0), (0, 0), (1, 0), (0, 0), (0, 0), (2, (n + 1)), (2, (n + 2)), (2, (n + 3)), (2, (n + 4)), (2, (n + 5)), (2, (n + 6)), (2, (n + 7)), (2, (n + 8)), (2, (n + 9)), (2, (n + 10)), (2, (n + 11)), (2, (n + 12)), (2, (n + 13)), (0, 0), (3, 0), (3, 0), (3, 0), (3, 0), (3, 0), (3, 0), (3, 0), (3, 0), (3, 0), (3, 0), (3, 0), (3, 0), (0, 0), (1, 0), (3, 0), (3, 0), (3, 0), (3, 0), (3, 0), (3, 0), (3, 0), (3, 0), (3, 0), (3, 0), (3, 0), (3, 0), (3, 0), (3, 0), (3, 0), (3, 0), (0, 0), (3, 0), (3, 0), (0, 0), (1, 0)]) = S28 at hk hg
  have hk := w_apk (x := (0, 7, [])) hk
  have hg : wG S (S28 ++ [(0, 7, [])]) n (n + 15) k := wG_app (t := 0) (N := 7) (fs := []) hg (by simp)
  generalize hs29 : S28 ++ [(0, 7, [])] = S29 at hk hg
  have hg : wG S (S29.set k (17, 0, [(0, 0), (0, 0), (2, n), (0, 0), (0, 0), (0, 0), (0, 0), (1, 0), (0, 0), (0, 0), (2, (n + 1)), (2, (n + 2)), (2, (n + 3)), (2, (n + 4)), (2, (n + 5)), (2, (n + 6)), (2, (n + 7)), (2, (n + 8)), (2, (n + 9)), (2, (n + 10)), (2, (n + 11)), (2, (n + 12)), (2, (n + 13)), (0, 0), (2, (n + 14)), (3, 0), (3, 0), (3, 0), (3, 0), (3, 0), (3, 0), (3, 0), (3, 0), (3, 0), (3, 0), (3, 0), (0, 0), (1, 0), (3, 0), (3, 0), (3, 0), (3, 0), (3, 0), (3, 0), (3, 0), (3, 0), (3, 0), (3, 0), (3, 0), (3, 0), (3, 0), (3, 0), (3, 0), (3, 0), (0, 0), (3, 0), (3, 0), (0, 0), (1, 0)])) n (n + 15) k := wG_set2 (j := 24) (r := (n + 14)) hg hk (by omega) (Or.inl rfl) rfl
  have hk := w_stk (x := (17, 0, [(0, 0), (0, 0), (2, n), (0, 0), (0, 0), (0, 0), (0, 0), (1, 0), (0, 0), (0, 0), (2, (n + 1)), (2, (n + 2)), (2, (n + 3)), (2, (n + 4)), (2, (n + 5)), (2, (n + 6)), (2, (n + 7)), (2, (n + 8)), (2, (n + 9)), (2, (n + 10)), (2, (n + 11)), (2, (n + 12)), (2, (n + 13)), (0, 0), (2, (n + 14)), (3, 0), (3, 0), (3, 0), (3, 0), (3, 0), (3, 0), (3, 0), (3, 0), (3, 0), (3, 0), (3, 0), (0, 0), (1, 0), (3, 0), (3, 0), (3, 0), (3, 0), (3, 0), (3, 0), (3, 0), (3, 0), (3, 0), (3, 0), (3, 0), (3, 0), (3, 0), (3, 0), (3, 0), (3, 0), (0, 0), (3, 0), (3, 0), (0, 0), (1, 0)])) hk
  generalize hs30 : S29.set k (17, 0, [(0, 0), (0, 0), (2, n), (0, 0), (0, 0), (0, 0), (0, 0), (1, 0), (0, 0), (0, 0), (2, (n + 1)), (2, (n + 2)), (2, (n + 3)), (2, (n + 4)), (2, (n + 5)), (2, (n + 6)), (2, (n + 7)), (2, (n + 8)), (2, (n + 9)), (2, (n + 10)), (2, (n + 11)), (2, (n + 12)), (2, (n + 13)), (0, 0), (2, (n + 14)), (3, 0), (3, 0), (3, 0), (3, 0), (3, 0), (3, 0), (3, 0), (3, 0), (3, 0), (3, 0), (3, 0), (0, 0), (1, 0), (3, 0), (3, 0), (3, 0), (3, 0), (3, 0), (3, 0), (3, 0), (3, 0), (3, 0), (3, 0), (3, 0), (3, 0), (3, 0), (3, 0), (3, 0), (3, 0), (0, 0), (3, 0), (3, 0), (0, 0), (1, 0)]) = S30 at hk hg
  have hk := w_apk (x := (2, 7, [])) hk
  have hg : wG S (S30 ++ [(2, 7, [])]) n (n + 16) k := wG_app (t := 2) (N := 7) (fs := []) hg (by simp)
  generalize hs31 : S30 ++ [(2, 7, [])] = S31 at hk hg
  have hg : wG S (S31.set k (17, 0, [(0, 0), (0, 0), (2, n), (0, 0), (0, 0), (0, 0), (0, 0), (1, 0), (0, 0), (0, 0), (2, (n + 1)), (2, (n + 2)), (2, (n + 3)), (2, (n + 4)), (2, (n + 5)), (2, (n + 6)), (2, (n + 7)), (2, (n + 8)), (2, (n + 9)), (2, (n + 10)), (2, (n + 11)), (2, (n + 12)), (2, (n + 13)), (0, 0), (2, (n + 14)), (2, (n + 15)), (3, 0), (3, 0), (3, 0), (3, 0), (3, 0), (3, 0), (3, 0), (3, 0), (3, 0), (3, 0), (0, 0), (1, 0), (3, 0), (3, 0), (3, 0), (3, 0), (3, 0), (3, 0), (3, 0), (3, 0), (3, 0), (3, 0), (3, 0), (3, 0), (3, 0), (3, 0), (3, 0), (3, 0), (0, 0), (3, 0), (3, 0), (0, 0), (1, 0)])) n (n + 16) k := wG_set2 (j := 25) (r := (n + 15)) hg hk (by omega) (Or.inl rfl) rfl
  have hk := w_stk (x := (17, 0, [(0, 0), (0, 0), (2, n), (0, 0), (0, 0), (0, 0), (0, 0), (1, 0), (0, 0), (0, 0), (2, (n + 1)), (2, (n + 2)), (2, (n + 3)), (2, (n + 4)), (2, (n + 5)), (2, (n + 6)), (2, (n + 7)), (2, (n + 8)), (2, (n + 9)), (2, (n + 10)), (2, (n + 11)), (2, (n + 12)), (2, (n + 13)), (0, 0), (2, (n + 14)), (2, (n + 15)), (3, 0), (3, 0), (3, 0), (3, 0), (3, 0), (3, 0), (3, 0), (3, 0), (3, 0), (3, 0), (0, 0), (1, 0), (3, 0), (3, 0), (3, 0), (3, 0), (3, 0), (3, 0), (3, 0), (3, 0), (3, 0), (3, 0), (3, 0), (3, 0), (3, 0), (3, 0), (3, 0), (3, 0), (0, 0), (3, 0), (3, 0), (0, 0), (1, 0)])) hk
  generalize hs32 : S31.set k (17, 0, [(0, 0), (0, 0), (2, n), (0, 0), (0, 0), (0, 0), (0, 0), (1, 0), (0, 0), (0, 0), (2, (n + 1)), (2, (n + 2)), (2, (n + 3)), (2, (n + 4)), (2, (n + 5)), (2, (n + 6)), (2, (n + 7)), (2, (n + 8)), (2, (n + 9)), (2, (n + 10)), (2, (n + 11)), (2, (n + 12)), (2, (n + 13)), (0, 0), (2, (n + 14)), (2, (n + 15)), (3, 0), (3, 0), (3, 0), (3, 0), (3, 0), (3, 0), (3, 0), (3, 0), (3, 0), (3, 0), (0, 0), (1, 0), (3, 0), (3, 0), (3, 0), (3, 0), (3, 0), (3, 0), (3, 0), (3, 0), (3, 0), (3, 0), (3, 0), (3, 0), (3, 0), (3, 0), (3, 0), (3, 0), (0, 0), (3, 0), (3, 0), (0, 0), (1, 0)]) = S32 at hk hg
  have hk := w_apk (x := (0, 7, [])) hk
  have hg : wG S (S32 ++ [(0, 7, [])]) n (n + 17) k := wG_app (t := 0) (N := 7) (fs := []) hg (by simp)
  generalize hs33 : S32 ++ [(0, 7, [])] = S33 at hk hg
  have hg : wG S (S33.set k (17, 0, [(0, 0), (0, 0), (2, n), (0, 0), (0, 0), (0, 0), (0, 0), (1, 0), (0, 0), (0, 0), (2, (n + 1)), (2, (n + 2)), (2, (n + 3)), (2, (n + 4)), (2, (n + 5)), (2, (n + 6)), (2, (n + 7)), (2, (n + 8)), (2, (n + 9)), (2, (n + 10)), (2, (n + 11)), (2, (n + 12)), (2, (n + 13)), (0, 0), (2, (n + 14)), (2, (n + 15)), (2, (n + 16)), (3, 0), (3, 0), (3, 0), (3, 0), (3, 0), (3, 0), (3, 0), (3, 0), (3, 0), (0, 0), (1, 0), (3, 0), (3, 0), (3, 0), (3, 0), (3, 0), (3, 0), (3, 0), (3, 0), (3, 0), (3, 0), (3, 0), (3, 0), (3, 0), (3, 0), (3, 0), (3, 0), (0, 0), (3, 0), (3, 0), (0, 0), (1, 0)])) n (n + 17) k := wG_set2 (j := 26) (r := (n + 16)) hg hk (by omega) (Or.inl rfl) rfl
  have hk := w_stk (x := (17, 0, [(0, 0), (0, 0), (2, n), (0, 0), (0, 0), (0, 0), (0, 0), (1, 0), (0, 0), (0, 0), (2, (n + 1)), (2, (n + 2)), (2, (n + 3)), (2, (n + 4)), (2, (n + 5)), (2, (n + 6)), (2, (n + 7)), (2, (n + 8)), (2, (n + 9)), (2, (n + 10)), (2, (n + 11)), (2, (n + 12)), (2, (n + 13)), (0, 0), (2, (n + 14)), (2, (n + 15)), (2, (n + 16)), (3, 0), (3, 0), (3, 0), (3, 0), (3, 0), (3, 0), (3, 0), (3, 0), (3, 0), (0, 0), (1, 0), (3, 0), (3, 0), (3, 0), (3, 0), (3, 0), (3, 0), (3, 0), (3, 0), (3, 0), (3, 0), (3, 0), (3, 0), (3, 0), (3, 0), (3, 0), (3, 0), (0, 0), (3, 0), (3, 0), (0, 0), (1, 0)])) hk
  generalize hs34 : S33.set k (17, 0, [(0, 0), (0, 0), (2, n), (0, 0), (0, 0), (0, 0), (0, 0), (1, 0), (0, 0), (0, 0), (2, (n + 1)), (2, (n + 2)), (2, (n + 3)), (2, (n + 4)), (2, (n + 5)), (2, (n + 6)), (2, (n + 7)), (2, (n + 8)), (2, (n + 9)), (2, (n + 10)), (2, (n + 11)), (2, (n + 12)), (2, (n + 13)), (0, 0), (2, (n + 14)), (2, (n + 15)), (2, (n + 16)), (3, 0), (3, 0), (3, 0), (3, 0), (3, 0), (3, 0), (3, 0), (3, 0), (3, 0), (0, 0), (1, 0), (3, 0), (3, 0), (3, 0), (3, 0), (3, 0), (3, 0), (3, 0), (3, 0), (3, 0), (3, 0), (3, 0), (3, 0), (3, 0), (3, 0), (3, 0), (3, 0), (0, 0), (3, 0), (3, 0), (0, 0), (1, 0)]) = S34 at hk hg
  have hk := w_apk (x := (0, 7, [])) hk
  have hg : wG S (S34 ++ [(0, 7, [])]) n (n + 18) k := wG_app (t := 0) (N := 7) (fs := []) hg (by simp)
  generalize hs35 : S34 ++ [(0, 7, [])] = S35 at hk hg
  have hg : wG S (S35.set k (17, 0, [(0, 0), (0, 0), (2, n), (0, 0), (0, 0), (0, 0), (0, 0), (1, 0), (0, 0), (0, 0), (2, (n + 1)), (2, (n + 2)), (2, (n + 3)), (2, (n + 4)), (2, (n + 5)), (2, (n + 6)), (2, (n + 7)), (2, (n + 8)), (2, (n + 9)), (2, (n + 10)), (2, (n + 11)), (2, (n + 12)), (2, (n + 13)), (0, 0), (2, (n + 14)), (2, (n + 15)), (2, (n + 16)), (2, (n + 17)), (3, 0), (3, 0), (3, 0), (3, 0), (3, 0), (3, 0), (3, 0), (3, 0), (0, 0), (1, 0), (3, 0), (3, 0), (3, 0), (3, 0), (3, 0), (3, 0), (3, 0), (3, 0), (3, 0), (3, 0), (3, 0), (3, 0), (3, 0), (3, 0), (3, 0), (3, 0), (0, 0), (3, 0), (3, 0), (0, 0), (1, 0)])) n (n + 18) k := wG_set2 (j := 27) (r := (n + 17)) hg hk (by omega) (Or.inl rfl) rfl
  have hk := w_stk (x := (17, 0, [(0, 0), (0, 0), (2, n), (0, 0), (0, 0), (0, 0), (0, 0), (1, 0), (0, 0), (0, 0), (2, (n + 1)), (2, (n + 2)), (2, (n + 3)), (2, (n + 4)), (2, (n + 5)), (2, (n + 6)), (2, (n + 7)), (2, (n + 8)), (2, (n + 9)), (2, (n + 10)), (2, (n + 11)), (2, (n + 12)), (2, (n + 13)), (0, 0), (2, (n + 14)), (2, (n + 15)), (2, (n + 16)), (2, (n + 17)), (3, 0), (3, 0), (3, 0), (3, 0), (3, 0), (3, 0), (3, 0), (3, 0), (0, 0), (1, 0), (3, 0), (3, 0), (3, 0), (3, 0), (3, 0), (3, 0), (3, 0), (3, 0), (3, 0), (3, 0), (3, 0), (3, 0), (3, 0), (3, 0), (3, 0), (3, 0), (0, 0), (3, 0), (3, 0), (0, 0), (1, 0)])) hk
  generalize hs36 : S35.set k (17, 0, [(0, 0), (0, 0), (2, n), (0, 0), (0, 0), (0, 0), (0, 0), (1, 0), (0, 0), (0, 0), (2, (n + 1)), (2, (n + 2)), (2, (n + 3)), (2, (n + 4)), (2, (n + 5)), (2, (n + 6)), (2, (n + 7)), (2, (n + 8)), (2, (n + 9)), (2, (n + 10)), (2, (n + 11)), (2, (n + 12)), (2, (n + 13)), (0, 0), (2, (n + 14)), (2, (n + 15)), (2, (n + 16)), (2, (n + 17)), (3, 0), (3, 0), (3, 0), (3, 0), (3, 0), (3, 0), (3, 0), (3, 0), (0, 0), (1, 0), (3, 0), (3, 0), (3, 0), (3, 0), (3, 0), (3, 0), (3, 0), (3, 0), (3, 0), (3, 0), (3, 0), (3, 0), (3, 0), (3, 0), (3, 0), (3, 0), (0, 0), (3, 0), (3, 0), (0, 0), (1, 0)]) = S36 at hk hg
  have hk := w_apk (x := (0, 7, [])) hk
  have hg : wG S (S36 ++ [(0, 7, [])]) n (n + 19) k := wG_app (t := 0) (N := 7) (fs := []) hg (by simp)
  generalize hs37 : S36 ++ [(0, 7, [])] = S37 at hk hg
  have hg : wG S (S37.set k (17, 0, [(0, 0), (0, 0), (2, n), (0, 0), (0, 0), (0, 0), (0, 0), (1, 0), (0, 0), (0, 0), (2, (n + 1)), (2, (n + 2)), (2, (n + 3)), (2, (n + 4)), (2, (n + 5)), (2, (n + 6)), (2, (n + 7)), (2, (n + 8)), (2, (n + 9)), (2, (n + 10)), (2, (n + 11)), (2, (n + 12)), (2, (n + 13)), (0, 0), (2, (n + 14)), (2, (n + 15)), (2, (n + 16)), (2, (n + 17)), (2, (n + 18)), (3, 0), (3, 0), (3, 0), (3, 0), (3, 0), (3, 0), (3, 0), (0, 0), (1, 0), (3, 0), (3, 0), (3, 0), (3, 0), (3, 0), (3, 0), (3, 0), (3, 0), (3, 0), (3, 0), (3, 0), (3, 0), (3, 0), (3, 0), (3, 0), (3, 0), (0, 0), (3, 0), (3, 0), (0, 0), (1, 0)])) n (n + 19) k := wG_set2 (j := 28) (r := (n + 18)) hg hk (by omega) (Or.inl rfl) rfl
  have hk := w_stk (x := (17, 0, [(0, 0), (0, 0), (2, n), (0, 0), (0, 0), (0, 0), (0, 0), (1, 0), (0, 0), (0, 0), (2, (n + 1)), (2, (n + 2)), (2, (n + 3)), (2, (n + 4)), (2, (n + 5)), (2, (n + 6)), (2, (n + 7)), (2, (n + 8)), (2, (n + 9)), (2, (n + 10)), (2, (n + 11)), (2, (n + 12)), (2, (n + 13)), (0, 0), (2, (n + 14)), (2, (n + 15)), (2, (n + 16)), (2, (n + 17)), (2, (n + 18)), (3, 0), (3, 0), (3, 0), (3, 0), (3, 0), (3, 0), (3, 0), (0, 0), (1, 0), (3, 0), (3, 0), (3, 0), (3, 0), (3, 0), (3, 0), (3, 0), (3, 0), (3, 0), (3, 0), (3, 0), (3, 0), (3, 0), (3, 0), (3, 0), (3, 0), (0, 0), (3, 0), (3, 0), (0, 0), (1, 0)])) hk
  generalize hs38 : S37.set k (17, 0, [(0, 0), (0, 0), (2, n), (0, 0), (0, 0), (0, 0), (0, 0), (1, 0), (0, 0), (0, 0), (2, (n + 1)), (2, (n + 2)), (2, (n + 3)), (2, (n + 4)), (2, (n + 5)), (2, (n + 6)), (2, (n + 7)), (2, (n + 8)), (2, (n + 9)), (2, (n + 10)), (2, (n + 11)), (2, (n + 12)), (2, (n + 13)), (0, 0), (2, (n + 14)), (2, (n + 15)), (2, (n + 16)), (2, (n + 17)), (2, (n + 18)), (3, 0), (3, 0), (3, 0), (3, 0), (3, 0), (3, 0), (3, 0), (0, 0), (1, 0), (3, 0), (3, 0), (3, 0), (3, 0), (3, 0), (3, 0), (3, 0), (3, 0), (3, 0), (3, 0), (3, 0), (3, 0), (3, 0), (3, 0), (3, 0), (3, 0), (0, 0), (3, 0), (3, 0), (0, 0), (1, 0)]) = S38 at hk hg
  have hk := w_apk (x := (0, 7, [])) hk
  have hg : wG S (S38 ++ [(0, 7, [])]) n (n + 20) k := wG_app (t := 0) (N := 7) (fs := []) hg (by simp)
  generalize hs39 : S38 ++ [(0, 7, [])] = S39 at hk hg
  have hg : wG S (S39.set k (17, 0, [(0, 0), (0, 0), (2, n), (0, 0), (0, 0), (0, 0), (0, 0), (1, 0), (0, 0), (0, 0), (2, (n + 1)), (2, (n + 2)), (2, (n + 3)), (2, (n + 4)), (2, (n + 5)), (2, (n + 6)), (2, (n + 7)), (2, (n + 8)), (2, (n + 9)), (2, (n + 10)), (2, (n + 11)), (2, (n + 12)), (2, (n + 13)), (0, 0), (2, (n + 14)), (2, (n + 15)), (2, (n + 16)), (2, (n + 17)), (2, (n + 18)), (2, (n + 19)), (3, 0), (3, 0), (3, 0), (3, 0), (3, 0), (3, 0), (0, 0), (1, 0), (3, 0), (3, 0), (3, 0), (3, 0), (3, 0), (3, 0), (3, 0), (3, 0), (3, 0), (3, 0), (3, 0), (3, 0), (3, 0), (3, 0), (3, 0), (3, 0), (0, 0), (3, 0), (3, 0), (0, 0), (1, 0)])) n (n + 20) k := wG_set2 (j := 29) (r := (n + 19)) hg hk (by omega) (Or.inl rfl) rfl
  have hk := w_stk (x := (17, 0, [(0, 0), (0, 0), (2, n), (0, 0), (0, 0), (0, 0), (0, 0), (1, 0), (0, 0), (0, 0), (2, (n + 1)), (2, (n + 2)), (2, (n + 3)), (2, (n + 4)), (2, (n + 5)), (2, (n + 6)), (2, (n + 7)), (2, (n + 8)), (2, (n + 9)), (2, (n + 10)), (2, (n + 11)), (2, (n + 12)), (2, (n + 13)), (0, 0), (2, (n + 14)), (2, (n + 15)), (2, (n + 16)), (2, (n + 17)), (2, (n + 18)), (2, (n + 19)), (3, 0), (3, 0), (3, 0), (3, 0), (3, 0), (3, 0), (0, 0), (1, 0), (3, 0), (3, 0), (3, 0), (3, 0), (3, 0), (3, 0), (3, 0), (3, 0), (3, 0), (3, 0), (3, 0), (3, 0), (3, 0), (3, 0), (3, 0), (3, 0), (0, 0), (3, 0), (3, 0), (0, 0), (1, 0)])) hk
  generalize hs40 : S39.set k (17, 0, [(0, 0), (0, 0), (2, n), (0, 0), (0, 0), (0, 0), (0, 0), (1, 0), (0, 0), (0, 0), (2, (n + 1)), (2, (n + 2)), (2, (n + 3)), (2, (n + 4)), (2, (n + 5)), (2, (n + 6)), (2, (n + 7)), (2, (n + 8)), (2, (n + 9)), (2, (n + 10)), (2, (n + 11)), (2, (n + 12)), (2, (n + 13)), (0, 0), (2, (n + 14)), (2, (n + 15)), (2, (n + 16)), (2, (n + 17)), (2, (n + 18)), (2, (n + 19)), (3, 0), (3, 0), (3, 0), (3, 0), (3, 0), (3, 0), (0, 0), (1, 0), (3, 0), (3, 0), (3, 0), (3, 0), (3, 0), (3, 0), (3, 0), (3, 0), (3, 0), (3, 0), (3, 0), (3, 0), (3, 0), (3, 0), (3, 0), (3, 0), (0, 0), (3, 0), (3, 0), (0, 0), (1, 0)]) = S40 at hk hg
  have hk := w_apk (x := (0, 7, [])) hk
  have hg : wG S (S40 ++ [(0, 7, [])]) n (n + 21) k := wG_app (t := 0) (N := 7) (fs := []) hg (by simp)
  generalize hs41 : S40 ++ [(0, 7, [])] = S41 at hk hg
  have hg : wG S (S41.set k (17, 0, [(0, 0), (0, 0), (2, n), (0, 0), (0, 0), (0, 0), (0, 0), (1, 0), (0, 0), (0, 0), (2, (n + 1)), (2, (n + 2)), (2, (n + 3)), (2, (n + 4)), (2, (n + 5)), (2, (n + 6)), (2, (n + 7)), (2, (n + 8)), (2, (n + 9)), (2, (n + 10)), (2, (n + 11)), (2, (n + 12)), (2, (n + 13)), (0, 0), (2, (n + 14)), (2, (n + 15)), (2, (n + 16)), (2, (n + 17)), (2, (n + 18)), (2, (n + 19)), (2, (n + 20)), (3, 0), (3, 0), (3, 0), (3, 0), (3, 0), (0, 0), (1, 0), (3, 0), (3, 0), (3, 0), (3, 0), (3, 0), (3, 0), (3, 0), (3, 0), (3, 0), (3, 0), (3, 0), (3, 0), (3, 0), (3, 0), (3, 0), (3, 0), (0, 0), (3, 0), (3, 0), (0, 0), (1, 0)])) n (n + 21) k := wG_set2 (j := 30) (r := (n + 20)) hg hk (by omega) (Or.inl rfl) rfl
  have hk := w_stk (x := (17, 0, [(0, 0), (0, 0), (2, n), (0, 0), (0, 0), (0, 0), (0, 0), (1, 0), (0, 0), (0, 0), (2, (n + 1)), (2, (n + 2)), (2, (n + 3)), (2, (n + 4)), (2, (n + 5)), (2, (n + 6)), (2, (n + 7)), (2, (n + 8)), (2, (n + 9)), (2, (n + 10)), (2, (n + 11)), (2, (n + 12)), (2, (n + 13)), (0, 0), (2, (n + 14)), (2, (n + 15)), (2, (n + 16)), (2, (n + 17)), (2, (n + 18)), (2, (n + 19)), (2, (n + 20)), (3, 0), (3, 0), (3, 0), (3, 0), (3, 0), (0, 0), (1, 0), (3, 0), (3, 0), (3, 0), (3, 0), (3, 0), (3, 0), (3, 0), (3, 0), (3, 0), (3, 0), (3, 0), (3, 0), (3, 0), (3, 0), (3, 0), (3, 0), (0, 0), (3, 0), (3, 0), (0, 0), (1, 0)])) hk
  generalize hs42 : S41.set k (17, 0, [(0, 0), (0, 0), (2, n), (0, 0), (0, 0), (0, 0), (0, 0), (1, 0), (0, 0), (0, 0), (2, (n + 1)), (2, (n + 2)), (2, (n + 3)), (2, (n + 4)), (2, (n + 5)), (2, (n + 6)), (2, (n + 7)), (2, (n + 8)), (2, (n + 9)), (2, (n + 10)), (2, (n + 11)), (2, (n + 12)), (2, (n + 13)), (0, 0), (2, (n + 14)), (2, (n + 15)), (2, (n + 16)), (2, (n + 17)), (2, (n + 18)), (2, (n + 19)), (2, (n + 20)), (3, 0), (3, 0), (3, 0), (3, 0), (3, 0), (0, 0), (1, 0), (3, 0), (3, 0), (3, 0), (3, 0), (3, 0), (3, 0), (3, 0), (3, 0), (3, 0), (3, 0), (3, 0), (3, 0), (3, 0), (3, 0), (3, 0), (3, 0), (0, 0), (3, 0), (3, 0), (0, 0), (1, 0)]) = S42 at hk hg
  have hk := w_apk (x := (0, 7, [])) hk
  have hg : wG S (S42 ++ [(0, 7, [])]) n (n + 22) k := wG_app (t := 0) (N := 7) (fs := []) hg (by simp)
  generalize hs43 : S42 ++ [(0, 7, [])] = S43 at hk hg
  have hg : wG S (S43.set k (17, 0, [(0, 0), (0, 0), (2, n), (0, 0), (0, 0), (0, 0), (0, 0), (1, 0), (0, 0), (0, 0), (2, (n + 1)), (2, (n + 2)), (2, (n + 3)), (2, (n + 4)), (2, (n + 5)), (2, (n + 6)), (2, (n + 7)), (2, (n + 8)), (2, (n + 9)), (2, (n + 10)), (2, (n + 11)), (2, (n + 12)), (2, (n + 13)), (0, 0), (2, (n + 14)), (2, (n + 15)), (2, (n + 16)), (2, (n + 17)), (2, (n + 18)), (2, (n + 19)), (2, (n + 20)), (2, (n + 21)), (3, 0), (3, 0), (3, 0), (3, 0), (0, 0), (1, 0), (3, 0), (3, 0), (3, 0), (3, 0), (3, 0), (3, 0), (3, 0), (3, 0), (3, 0), (3, 0), (3, 0), (3, 0), (3, 0), (3, 0), (3, 0), (3, 0), (0, 0), (3, 0), (3, 0), (0, 0), (1, 0)])) n (n + 22) k := wG_set2 (j := 31) (r := (n + 21)) hg hk (by omega) (Or.inl rfl) rfl
  have hk := w_stk (x := (17, 0, [(0, 0), (0, 0), (2, n), (0, 0), (0, 0), (0, 0), (0, 0), (1, 0), (0, 0), (0, 0), (2, (n + 1)), (2, (n + 2)), (2, (n + 3)), (2, (n + 4)), (2, (n + 5)), (2, (n + 6)), (2, (n + 7)), (2, (n + 8)), (2, (n + 9)), (2, (n + 10)), (2, (n + 11)), (2, (n + 12)), (2, (n + 13)), (0, 0), (2, (n + 14)), (2, (n + 15)), (2, (n + 16)), (2, (n + 17)), (2, (n + 18)), (2, (n + 19)), (2, (n + 20)), (2, (n + 21)), (3, 0), (3, 0), (3, 0), (3, 0), (0, 0), (1, 0), (3, 0), (3, 0), (3, 0), (3, 0), (3, 0), (3, 0), (3, 0), (3, 0), (3, 0), (3, 0), (3, 0), (3, 0), (3, 0), (3, 0), (3, 0), (3, 0), (0, 0), (3, 0), (3, 0), (0, 0), (1, 0)])) hk
  generalize hs44 : S43.set k (17, 0, [(0, 0), (0, 0), (2, n), (0, 0), (0, 0), (0, 0), (0, 0), (1, 0), (0, 0), (0, 0), (2, (n + 1)), (2, (n + 2)), (2, (n + 3)), (2, (n + 4)), (2, (n + 5)), (2, (n + 6)), (2, (n + 7)), (2, (n + 8)), (2, (n + 9)), (2, (n + 10)), (2, (n + 11)), (2, (n + 12)), (2, (n + 13)), (0, 0), (2, (n + 14)), (2, (n + 15)), (2, (n + 16)), (2, (n + 17)), (2, (n + 18)), (2, (n + 19)), (2, (n + 20)), (2, (n + 21)), (3, 0), (3, 0), (3, 0), (3, 0), (0, 0), (1, 0), (3, 0), (3, 0), (3, 0), (3, 0), (3, 0), (3, 0), (3, 0), (3, 0), (3, 0), (3, 0), (3, 0), (3, 0), (3, 0), (3, 0), (3, 0), (3, 0), (0, 0), (3, 0), (3, 0), (0, 0), (1, 0)]) = S44 at hk hg
  have hk := w_apk (x := (0, 7, [])) hk
  have hg : wG S (S44 ++ [(0, 7, [])]) n (n + 23) k := wG_app (t := 0) (N := 7) (fs := []) hg (by simp)
  generalize hs45 : S44 ++ [(0, 7, [])] = S45 at hk hg
  have hg : wG S (S45.set k (17, 0, [(0, 0), (0, 0), (2, n), (0, 0), (0, 0), (0, 0), (0, 0), (1, 0), (0, 0), (0, 0), (2, (n + 1)), (2, (n + 2)), (2, (n + 3)), (2, (n + 4)), (2, (n + 5)), (2, (n + 6)), (2, (n + 7)), (2, (n + 8)), (2, (n + 9)), (2, (n + 10)), (2, (n + 11)), (2, (n + 12)), (2, (n + 13)), (0, 0), (2, (n + 14)), (2, (n + 15)), (2, (n + 16)), (2, (n + 17)), (2, (n + 18)), (2, (n + 19)), (2, (n + 20)), (2, (n + 21)), (2, (n + 22)), (3, 0), (3, 0), (3, 0), (0, 0), (1, 0), (3, 0), (3, 0), (3, 0), (3, 0), (3, 0), (3, 0), (3, 0), (3, 0), (3, 0), (3, 0), (3, 0), (3, 0), (3, 0), (3, 0), (3, 0), (3, 0), (0, 0), (3, 0), (3, 0), (0, 0), (1, 0)])) n (n + 23) k := wG_set2 (j := 32) (r := (n + 22)) hg hk (by omega) (Or.inl rfl) rfl
  have hk := w_stk (x := (17, 0, [(0, 0), (0, 0), (2, n), (0, 0), (0, 0), (0, 0), (0, 0), (1, 0), (0, 0), (0, 0), (2, (n + 1)), (2, (n + 2)), (2, (n + 3)), (2, (n + 4)), (2, (n + 5)), (2, (n + 6)), (2, (n + 7)), (2, (n + 8)), (2, (n + 9)), (2, (n + 10)), (2, (n + 11)), (2, (n + 12)), (2, (n + 13)), (0, 0), (2, (n + 14)), (2, (n + 15)), (2, (n + 16)), (2, (n + 17)), (2, (n + 18)), (2, (n + 19)), (2, (n + 20)), (2, (n + 21)), (2, (n + 22)), (3, 0), (3, 0), (3, 0), (0, 0), (1, 0), (3, 0), (3, 0), (3, 0), (3, 0), (3, 0), (3, 0), (3, 0), (3, 0), (3, 0), (3, 0), (3, 0), (3, 0), (3, 0), (3, 0), (3, 0), (3, 0), (0, 0), (3, 0), (3, 0), (0, 0), (1, 0)])) hk
  generalize hs46 : S45.set k (17, 0, [(0, 0), (0, 0), (2, n), (0, 0), (0, 0), (0, 0), (0, 0), (1, 0), (0, 0), (0, 0), (2, (n + 1)), (2, (n + 2)), (2, (n + 3)), (2, (n + 4)), (2, (n + 5)), (2, (n + 6)), (2, (n + 7)), (2, (n + 8)), (2, (n + 9)), (2, (n + 10)), (2, (n + 11)), (2, (n + 12)), (2, (n + 13)), (0, 0), (2, (n + 14)), (2, (n + 15)), (2, (n + 16)), (2, (n + 17)), (2, (n + 18)), (2, (n + 19)), (2, (n + 20)), (2, (n + 21)), (2, (n + 22)), (3, 0), (3, 0), (3, 0), (0, 0), (1, 0), (3, 0), (3, 0), (3, 0), (3, 0), (3, 0), (3, 0), (3, 0), (3, 0), (3, 0), (3, 0), (3, 0), (3, 0), (3, 0), (3, 0), (3, 0), (3, 0), (0, 0), (3, 0), (3, 0), (0, 0), (1, 0)]) = S46 at hk hg
  have hk := w_apk (x := (0, 7, [])) hk
  have hg : wG S (S46 ++ [(0, 7, [])]) n (n + 24) k := wG_app (t := 0) (N := 7) (fs := []) hg (by simp)
  generalize hs47 : S46 ++ [(0, 7, [])] = S47 at hk hg
  have hg : wG S (S47.set k (17, 0, [(0, 0), (0, 0), (2, n), (0, 0), (0, 0), (0, 0), (0, 0), (1, 0), (0, 0), (0, 0), (2, (n + 1)), (2, (n + 2)), (2, (n + 3)), (2, (n + 4)), (2, (n + 5)), (2, (n + 6)), (2, (n + 7)), (2, (n + 8)), (2, (n + 9)), (2, (n + 10)), (2, (n + 11)), (2, (n + 12)), (2, (n + 13)), (0, 0), (2, (n + 14)), (2, (n + 15)), (2, (n + 16)), (2, (n + 17)), (2, (n + 18)), (2, (n + 19)), (2, (n + 20)), (2, (n + 21)), (2, (n + 22)), (2, (n + 23)), (3, 0), (3, 0), (0, 0), (1, 0), (3, 0), (3, 0), (3, 0), (3, 0), (3, 0), (3, 0), (3, 0), (3, 0), (3, 0), (3, 0), (3, 0), (3, 0), (3, 0), (3, 0), (3, 0), (3, 0), (0, 0), (3, 0), (3, 0), (0, 0), (1, 0)])) n (n + 24) k := wG_set2 (j := 33) (r := (n + 23)) hg hk (by omega) (Or.inl rfl) rfl
  have hk := w_stk (x := (17, 0, [(0, 0), (0, 0), (2, n), (0, 0), (0, 0), (0, 0), (0, 0), (1, 0), (0, 0), (0, 0), (2, (n + 1)), (2, (n + 2)), (2, (n + 3)), (2, (n + 4)), (2, (n + 5)), (2, (n + 6)), (2, (n + 7)), (2, (n + 8)), (2, (n + 9)), (2, (n + 10)), (2, (n + 11)), (2, (n + 12)), (2, (n + 13)), (0, 0), (2, (n + 14)), (2, (n + 15)), (2, (n + 16)), (2, (n + 17)), (2, (n + 18)), (2, (n + 19)), (2, (n + 20)), (2, (n + 21)), (2, (n + 22)), (2, (n + 23)), (3, 0), (3, 0), (0, 0), (1, 0), (3, 0), (3, 0), (3, 0), (3, 0), (3, 0), (3, 0), (3, 0), (3, 0), (3, 0), (3, 0), (3, 0), (3, 0), (3, 0), (3, 0), (3, 0), (3, 0), (0, 0), (3, 0), (3, 0), (0, 0), (1, 0)])) hk
  generalize hs48 : S47.set k (17, 0, [(0, 0), (0, 0), (2, n), (0, 0), (0, 0), (0, 0), (0, 0), (1, 0), (0, 0), (0, 0), (2, (n + 1)), (2, (n + 2)), (2, (n + 3)), (2, (n + 4)), (2, (n + 5)), (2, (n + 6)), (2, (n + 7)), (2, (n + 8)), (2, (n + 9)), (2, (n + 10)), (2, (n + 11)), (2, (n + 12)), (2, (n + 13)), (0, 0), (2, (n + 14)), (2, (n + 15)), (2, (n + 16)), (2, (n + 17)), (2, (n + 18)), (2, (n + 19)), (2, (n + 20)), (2, (n + 21)), (2, (n + 22)), (2, (n + 23)), (3, 0), (3, 0), (0, 0), (1, 0), (3, 0), (3, 0), (3, 0), (3, 0), (3, 0), (3, 0), (3, 0), (3, 0), (3, 0), (3, 0), (3, 0), (3, 0), (3, 0), (3, 0), (3, 0), (3, 0), (0, 0), (3, 0), (3, 0), (0, 0), (1, 0)]) = S48 at hk hg
  have hk := w_apk (x := (0, 7, [])) hk
  have hg : wG S (S48 ++ [(0, 7, [])]) n (n + 25) k := wG_app (t := 0) (N := 7) (fs := []) hg (by simp)
  generalize hs49 : S48 ++ [(0, 7, [])] = S49 at hk hg
  have hg : wG S (S49.set k (17, 0, [(0, 0), (0, 0), (2, n), (0, 0), (0, 0), (0, 0), (0, 0), (1, 0), (0, 0), (0, 0), (2, (n + 1)), (2, (n + 2)), (2, (n + 3)), (2, (n + 4)), (2, (n + 5)), (2, (n + 6)), (2, (n + 7)), (2, (n + 8)), (2, (n + 9)), (2, (n + 10)), (2, (n + 11)), (2, (n + 12)), (2, (n + 13)), (0, 0), (2, (n + 14)), (2, (n + 15)), (2, (n + 16)), (2, (n + 17)), (2, (n + 18)), (2, (n + 19)), (2, (n + 20)), (2, (n + 21)), (2, (n + 22)), (2, (n + 23)), (2, (n + 24)), (3, 0), (0, 0), (1, 0), (3, 0), (3, 0), (3, 0), (3, 0), (3, 0), (3, 0), (3, 0), (3, 0), (3, 0), (3, 0), (3, 0), (3, 0), (3, 0), (3, 0), (3, 0), (3, 0), (0, 0), (3, 0), (3, 0), (0, 0), (1, 0)])) n (n + 25) k := wG_set2 (j := 34) (r := (n + 24)) hg hk (by omega) (Or.inl rfl) rfl
  have hk := w_stk (x := (17, 0, [(0, 0), (0, 0), (2, n), (0, 0), (0, 0), (0, 0), (0, 0), (1, 0), (0, 0), (0, 0), (2, (n + 1)), (2, (n + 2)), (2, (n + 3)), (2, (n + 4)), (2, (n + 5)), (2, (n + 6)), (2, (n + 7)), (2, (n + 8)), (2, (n + 9)), (2, (n + 10)), (2, (n + 11)), (2, (n + 12)), (2, (n + 13)), (0, 0), (2, (n + 14)), (2, (n + 15)), (2, (n + 16)), (2, (n + 17)), (2, (n + 18)), (2, (n + 19)), (2, (n + 20)), (2, (n + 21)), (2, (n + 22)), (2, (n + 23)), (2, (n + 24)), (3, 0), (0, 0), (1, 0), (3, 0), (3, 0), (3, 0), (3, 0), (3, 0), (3, 0), (3, 0), (3, 0), (3, 0), (3, 0), (3, 0), (3, 0), (3, 0), (3, 0), (3, 0), (3, 0), (0, 0), (3, 0), (3, 0), (0, 0), (1, 0)])) hk
  generalize hs50 : S49.set k (17, 0, [(0, 0), (0, 0), (2, n), (0, 0), (0, 0), (0, 0), (0, 0), (1, 0), (0, 0), (0, 0), (2, (n + 1)), (2, (n + 2)), (2, (n + 3)), (2, (n + 4)), (2, (n + 5)), (2, (n + 6)), (2, (n + 7)), (2, (n + 8)), (2, (n + 9)), (2, (n + 10)), (2, (n + 11)), (2, (n + 12)), (2, (n + 13)), (0, 0), (2, (n + 14)), (2, (n + 15)), (2, (n + 16)), (2, (n + 17)), (2, (n + 18)), (2, (n + 19)), (2, (n + 20)), (2, (n + 21)), (2, (n + 22)), (2, (n + 23)), (2, (n + 24)), (3, 0), (0, 0), (1, 0), (3, 0), (3, 0), (3, 0), (3, 0), (3, 0), (3, 0), (3, 0), (3, 0), (3, 0), (3, 0), (3, 0), (3, 0), (3, 0), (3, 0), (3, 0), (3, 0), (0, 0), (3, 0), (3, 0), (0, 0), (1, 0)]) = S50 at hk hg
  have hk := w_apk (x := (0, 20, [])) hk
  have hg : wG S (S50 ++ [(0, 20, [])]) n (n + 26) k := wG_app (t := 0) (N := 20) (fs := []) hg (by simp)
  generalize hs51 : S50 ++ [(0, 20, [])] = S51 at hk hg
  have hg : wG S (S51.set k (17, 0, [(0, 0), (0, 0), (2, n), (0, 0), (0, 0), (0, 0), (0, 0), (1, 0), (0, 0), (0, 0), (2, (n + 1)), (2, (n + 2)), (2, (n + 3)), (2, (n + 4)), (2, (n + 5)), (2, (n + 6)), (2, (n + 7)), (2, (n + 8)), (2, (n + 9)), (2, (n + 10)), (2, (n + 11)), (2, (n + 12)), (2, (n + 13)), (0, 0), (2, (n + 14)), (2, (n + 15)), (2, (n + 16)), (2, (n + 17)), (2, (n + 18)), (2, (n + 19)), (2, (n + 20)), (2, (n + 21)), (2, (n + 22)), (2, (n + 23)), (2, (n + 24)), (2, (n + 25)), (0, 0), (1, 0), (3, 0), (3, 0), (3, 0), (3, 0), (3, 0), (3, 0), (3, 0), (3, 0), (3, 0), (3, 0), (3, 0), (3, 0), (3, 0), (3, 0), (3, 0), (3, 0), (0, 0), (3, 0), (3, 0), (0, 0), (1, 0)])) n (n + 26) k := wG_set2 (j := 35) (r := (n + 25)) hg hk (by omega) (Or.inl rfl) rfl
  have hk := w_stk (x := (17, 0, [(0, 0), (0, 0), (2, n), (0, 0), (0, 0), (0, 0), (0, 0), (1, 0), (0, 0), (0, 0), (2, (n + 1)), (2, (n + 2)), (2, (n + 3)), (2, (n + 4)), (2, (n + 5)), (2, (n + 6)), (2, (n + 7)), (2, (n + 8)), (2, (n + 9)), (2, (n + 10)), (2, (n + 11)), (2, (n + 12)), (2, (n + 13)), (0, 0), (2, (n + 14)), (2, (n + 15)), (2, (n + 16)), (2, (n + 17)), (2, (n + 18)), (2, (n + 19)), (2, (n + 20)), (2, (n + 21)), (2, (n + 22)), (2, (n + 23)), (2, (n + 24)), (2, (n + 25)), (0, 0), (1, 0), (3, 0), (3, 0), (3, 0), (3, 0), (3, 0), (3, 0), (3, 0), (3, 0), (3, 0), (3, 0), (3, 0), (3, 0), (3, 0), (3, 0), (3, 0), (3, 0), (0, 0), (3, 0), (3, 0), (0, 0), (1, 0)])) hk
  generalize hs52 : S51.set k (17, 0, [(0, 0), (0, 0), (2, n), (0, 0), (0, 0), (0, 0), (0, 0), (1, 0), (0, 0), (0, 0), (2, (n + 1)), (2, (n + 2)), (2, (n + 3)), (2, (n + 4)), (2, (n + 5)), (2, (n + 6)), (2, (n + 7)), (2, (n + 8)), (2, (n + 9)), (2, (n + 10)), (2, (n + 11)), (2, (n + 12)), (2, (n + 13)), (0, 0), (2, (n + 14)), (2, (n + 15)), (2, (n + 16)), (2, (n + 17)), (2, (n + 18)), (2, (n + 19)), (2, (n + 20)), (2, (n + 21)), (2, (n + 22)), (2, (n + 23)), (2, (n + 24)), (2, (n + 25)), (0, 0), (1, 0), (3, 0), (3, 0), (3, 0), (3, 0), (3, 0), (3, 0), (3, 0), (3, 0), (3, 0), (3, 0), (3, 0), (3, 0), (3, 0), (3, 0), (3, 0), (3, 0), (0, 0), (3, 0), (3, 0), (0, 0), (1, 0)]) = S52 at hk hg
  have hk := w_apk (x := (0, 6, [])) hk
  have hg : wG S (S52 ++ [(0, 6, [])]) n (n + 27) k := wG_app (t := 0) (N := 6) (fs := []) hg (by simp)
  generalize hs53 : S52 ++ [(0, 6, [])] = S53 at hk hg
  have hg : wG S (S53.set k (17, 0, [(0, 0), (0, 0), (2, n), (0, 0), (0, 0), (0, 0), (0, 0), (1, 0), (0, 0), (0, 0), (2, (n + 1)), (2, (n + 2)), (2, (n + 3)), (2, (n + 4)), (2, (n + 5)), (2, (n + 6)), (2, (n + 7)), (2, (n + 8)), (2, (n + 9)), (2, (n + 10)), (2, (n + 11)), (2, (n + 12)), (2, (n + 13)), (0, 0), (2, (n + 14)), (2, (n + 15)), (2, (n + 16)), (2, (n + 17)), (2, (n + 18)), (2, (n + 19)), (2, (n + 20)), (2, (n + 21)), (2, (n + 22)), (2, (n + 23)), (2, (n + 24)), (2, (n + 25)), (0, 0), (1, 0), (2, (n + 26)), (3, 0), (3, 0), (3, 0), (3, 0), (3, 0), (3, 0), (3, 0), (3, 0), (3, 0), (3, 0), (3, 0), (3, 0), (3, 0), (3, 0), (3, 0), (0, 0), (3, 0), (3, 0), (0, 0), (1, 0)])) n (n + 27) k := wG_set2 (j := 38) (r := (n + 26)) hg hk (by omega) (Or.inl rfl) rfl
  have hk := w_stk (x := (17, 0, [(0, 0), (0, 0), (2, n), (0, 0), (0, 0), (0, 0), (0, 0), (1, 0), (0, 0), (0, 0), (2, (n + 1)), (2, (n + 2)), (2, (n + 3)), (2, (n + 4)), (2, (n + 5)), (2, (n + 6)), (2, (n + 7)), (2, (n + 8)), (2, (n + 9)), (2, (n + 10)), (2, (n + 11)), (2, (n + 12)), (2, (n + 13)), (0, 0), (2, (n + 14)), (2, (n + 15)), (2, (n + 16)), (2, (n + 17)), (2, (n + 18)), (2, (n + 19)), (2, (n + 20)), (2, (n + 21)), (2, (n + 22)), (2, (n + 23)), (2, (n + 24)), (2, (n + 25)), (0, 0), (1, 0), (2, (n + 26)), (3, 0), (3, 0), (3, 0), (3, 0), (3, 0), (3, 0), (3, 0), (3, 0), (3, 0), (3, 0), (3, 0), (3, 0), (3, 0), (3, 0), (3, 0), (0, 0), (3, 0), (3, 0), (0, 0), (1, 0)])) hk
  generalize hs54 : S53.set k (17, 0, [(0, 0), (0, 0), (2, n), (0, 0), (0, 0), (0, 0), (0, 0), (1, 0), (0, 0), (0, 0), (2, (n + 1)), (2, (n + 2)), (2, (n + 3)), (2, (n + 4)), (2, (n + 5)), (2, (n + 6)), (2, (n + 7)), (2, (n + 8)), (2, (n + 9)), (2, (n + 10)), (2, (n + 11)), (2, (n + 12)), (2, (n + 13)), (0, 0), (2, (n + 14)), (2, (n + 15)), (2, (n + 16)), (2, (n + 17)), (2, (n + 18)), (2, (n + 19)), (2, (n + 20)), (2, (n + 21)), (2, (n + 22)), (2, (n + 23)), (2, (n + 24)), (2, (n + 25)), (0, 0), (1, 0), (2, (n + 26)), (3, 0), (3, 0), (3, 0), (3, 0), (3, 0), (3, 0), (3, 0), (3, 0), (3, 0), (3, 0), (3, 0), (3, 0), (3, 0), (3, 0), (3, 0), (0, 0), (3, 0), (3, 0), (0, 0), (1, 0)]) = S54 at hk hg
  have hk := w_apk (x := (0, 240, [])) hk
  have hg : wG S (S54 ++ [(0, 240, [])]) n (n + 28) k := wG_app (t := 0) (N := 240) (fs := []) hg (by simp)
  generalize hs55 : S54 ++ [(0, 240, [])] = S55 at hk hg
  have hg : wG S (S55.set k (17, 0, [(0, 0), (0, 0), (2, n), (0, 0), (0, 0), (0, 0), (0, 0), (1, 0), (0, 0), (0, 0), (2, (n + 1)), (2, (n + 2)), (2, (n + 3)), (2, (n + 4)), (2, (n + 5)), (2, (n + 6)), (2, (n + 7)), (2, (n + 8)), (2, (n + 9)), (2, (n + 10)), (2, (n + 11)), (2, (n + 12)), (2, (n + 13)), (0, 0), (2, (n + 14)), (2, (n + 15)), (2, (n + 16)), (2, (n + 17)), (2, (n + 18)), (2, (n + 19)), (2, (n + 20)), (2, (n + 21)), (2, (n + 22)), (2, (n + 23)), (2, (n + 24)), (2, (n + 25)), (0, 0), (1, 0), (2, (n + 26)), (2, (n + 27)), (3, 0), (3, 0), (3, 0), (3, 0), (3, 0), (3, 0), (3, 0), (3, 0), (3, 0), (3, 0), (3, 0), (3, 0), (3, 0), (3, 0), (0, 0), (3, 0), (3, 0), (0, 0), (1, 0)])) n (n + 28) k := wG_set2 (j := 39) (r := (n + 27)) hg hk (by omega) (Or.inl rfl) rfl
  have hk := w_stk (x := (17, 0, [(0, 0), (0, 0), (2, n), (0, 0), (0, 0), (0, 0), (0, 0), (1, 0), (0, 0), (0, 0), (2, (n + 1)), (2, (n + 2)), (2, (n + 3)), (2, (n + 4)), (2, (n + 5)), (2, (n + 6)), (2, (n + 7)), (2, (n + 8)), (2, (n + 9)), (2, (n + 10)), (2, (n + 11)), (2, (n + 12)), (2, (n + 13)), (0, 0), (2, (n + 14)), (2, (n + 15)), (2, (n + 16)), (2, (n + 17)), (2, (n + 18)), (2, (n + 19)), (2, (n + 20)), (2, (n + 21)), (2, (n + 22)), (2, (n + 23)), (2, (n + 24)), (2, (n + 25)), (0, 0), (1, 0), (2, (n + 26)), (2, (n + 27)), (3, 0), (3, 0), (3, 0), (3, 0), (3, 0), (3, 0), (3, 0), (3, 0), (3, 0), (3, 0), (3, 0), (3, 0), (3, 0), (3, 0), (0, 0), (3, 0), (3, 0), (0, 0), (1, 0)])) hk
  generalize hs56 : S55.set k (17, 0, [(0, 0), (0, 0), (2, n), (0, 0), (0, 0), (0, 0), (0, 0), (1, 0), (0, 0), (0, 0), (2, (n + 1)), (2, (n + 2)), (2, (n + 3)), (2, (n + 4)), (2, (n + 5)), (2, (n + 6)), (2, (n + 7)), (2, (n + 8)), (2, (n + 9)), (2, (n + 10)), (2, (n + 11)), (2, (n + 12)), (2, (n + 13)), (0, 0), (2, (n + 14)), (2, (n + 15)), (2, (n + 16)), (2, (n + 17)), (2, (n + 18)), (2, (n + 19)), (2, (n + 20)), (2, (n + 21)), (2, (n + 22)), (2, (n + 23)), (2, (n + 24)), (2, (n + 25)), (0, 0), (1, 0), (2, (n + 26)), (2, (n + 27)), (3, 0), (3, 0), (3, 0), (3, 0), (3, 0), (3, 0), (3, 0), (3, 0), (3, 0), (3, 0), (3, 0), (3, 0), (3, 0), (3, 0), (0, 0), (3, 0), (3, 0), (0, 0), (1, 0)]) = S56 at hk hg
  have hk := w_apk (x := (0, 240, [])) hk
  have hg : wG S (S56 ++ [(0, 240, [])]) n (n + 29) k := wG_app (t := 0) (N := 240) (fs := []) hg (by simp)
  generalize hs57 : S56 ++ [(0, 240, [])] = S57 at hk hg
  have hg : wG S (S57.set k (17, 0, [(0, 0), (0, 0), (2, n), (0, 0), (0, 0), (0, 0), (0, 0), (1, 0), (0, 0), (0, 0), (2, (n + 1)), (2, (n + 2)), (2, (n + 3)), (2, (n + 4)), (2, (n + 5)), (2, (n + 6)), (2, (n + 7)), (2, (n + 8)), (2, (n + 9)), (2, (n + 10)), (2, (n + 11)), (2, (n + 12)), (2, (n + 13)), (0, 0), (2, (n + 14)), (2, (n + 15)), (2, (n + 16)), (2, (n + 17)), (2, (n + 18)), (2, (n + 19)), (2, (n + 20)), (2, (n + 21)), (2, (n + 22)), (2, (n + 23)), (2, (n + 24)), (2, (n + 25)), (0, 0), (1, 0), (2, (n + 26)), (2, (n + 27)), (2, (n + 28)), (3, 0), (3, 0), (3, 0), (3, 0), (3, 0), (3, 0), (3, 0), (3, 0), (3, 0), (3, 0), (3, 0), (3, 0), (3, 0), (0, 0), (3, 0), (3, 0), (0, 0), (1, 0)])) n (n + 29) k := wG_set2 (j := 40) (r := (n + 28)) hg hk (by omega) (Or.inl rfl) rfl
  have hk := w_stk (x := (17, 0, [(0, 0), (0, 0), (2, n), (0, 0), (0, 0), (0, 0), (0, 0), (1, 0), (0, 0), (0, 0), (2, (n + 1)), (2, (n + 2)), (2, (n + 3)), (2, (n + 4)), (2, (n + 5)), (2, (n + 6)), (2, (n + 7)), (2, (n + 8)), (2, (n + 9)), (2, (n + 10)), (2, (n + 11)), (2, (n + 12)), (2, (n + 13)), (0, 0), (2, (n + 14)), (2, (n + 15)), (2, (n + 16)), (2, (n + 17)), (2, (n + 18)), (2, (n + 19)), (2, (n + 20)), (2, (n + 21)), (2, (n + 22)), (2, (n + 23)), (2, (n + 24)), (2, (n + 25)), (0, 0), (1, 0), (2, (n + 26)), (2, (n + 27)), (2, (n + 28)), (3, 0), (3, 0), (3, 0), (3, 0), (3, 0), (3, 0), (3, 0), (3, 0), (3, 0), (3, 0), (3, 0), (3, 0), (3, 0), (0, 0), (3, 0), (3, 0), (0, 0), (1, 0)])) hk
  generalize hs58 : S57.set k (17, 0, [(0, 0), (0, 0), (2, n), (0, 0), (0, 0), (0, 0), (0, 0), (1, 0), (0, 0), (0, 0), (2, (n + 1)), (2, (n + 2)), (2, (n + 3)), (2, (n + 4)), (2, (n + 5)), (2, (n + 6)), (2, (n + 7)), (2, (n + 8)), (2, (n + 9)), (2, (n + 10)), (2, (n + 11)), (2, (n + 12)), (2, (n + 13)), (0, 0), (2, (n + 14)), (2, (n + 15)), (2, (n + 16)), (2, (n + 17)), (2, (n + 18)), (2, (n + 19)), (2, (n + 20)), (2, (n + 21)), (2, (n + 22)), (2, (n + 23)), (2, (n + 24)), (2, (n + 25)), (0, 0), (1, 0), (2, (n + 26)), (2, (n + 27)), (2, (n + 28)), (3, 0), (3, 0), (3, 0), (3, 0), (3, 0), (3, 0), (3, 0), (3, 0), (3, 0), (3, 0), (3, 0), (3, 0), (3, 0), (0, 0), (3, 0), (3, 0), (0, 0), (1, 0)]) = S58 at hk hg
  have hk := w_apk (x := (0, 240, [])) hk
  have hg : wG S (S58 ++ [(0, 240, [])]) n (n + 30) k := wG_app (t := 0) (N := 240) (fs := []) hg (by simp)
  generalize hs59 : S58 ++ [(0, 240, [])] = S59 at hk hg
  have hg : wG S (S59.set k (17, 0, [(0, 0), (0, 0), (2, n), (0, 0), (0, 0), (0, 0), (0, 0), (1, 0), (0, 0), (0, 0), (2, (n + 1)), (2, (n + 2)), (2, (n + 3)), (2, (n + 4)), (2, (n + 5)), (2, (n + 6)), (2, (n + 7)), (2, (n + 8)), (2, (n + 9)), (2, (n + 10)), (2, (n + 11)), (2, (n + 12)), (2, (n + 13)), (0, 0), (2, (n + 14)), (2, (n + 15)), (2, (n + 16)), (2, (n + 17)), (2, (n + 18)), (2, (n + 19)), (2, (n + 20)), (2, (n + 21)), (2, (n + 22)), (2, (n + 23)), (2, (n + 24)), (2, (n + 25)), (0, 0), (1, 0), (2, (n + 26)), (2, (n + 27)), (2, (n + 28)), (2, (n + 29)), (3, 0), (3, 0), (3, 0), (3, 0), (3, 0), (3, 0), (3, 0), (3, 0), (3, 0), (3, 0), (3, 0), (3, 0), (0, 0), (3, 0), (3, 0), (0, 0), (1, 0)])) n (n + 30) k := wG_set2 (j := 41) (r := (n + 29)) hg hk (by omega) (Or.inl rfl) rfl
  have hk := w_stk (x := (17, 0, [(0, 0), (0, 0), (2, n), (0, 0), (0, 0), (0, 0), (0, 0), (1, 0), (0, 0), (0, 0), (2, (n + 1)), (2, (n + 2)), (2, (n + 3)), (2, (n + 4)), (2, (n + 5)), (2, (n + 6)), (2, (n + 7)), (2, (n + 8)), (2, (n + 9)), (2, (n + 10)), (2, (n + 11)), (2, (n + 12)), (2, (n + 13)), (0, 0), (2, (n + 14)), (2, (n + 15)), (2, (n + 16)), (2, (n + 17)), (2, (n + 18)), (2, (n + 19)), (2, (n + 20)), (2, (n + 21)), (2, (n + 22)), (2, (n + 23)), (2, (n + 24)), (2, (n + 25)), (0, 0), (1, 0), (2, (n + 26)), (2, (n + 27)), (2, (n + 28)), (2, (n + 29)), (3, 0), (3, 0), (3, 0), (3, 0), (3, 0), (3, 0), (3, 0), (3, 0), (3, 0), (3, 0), (3, 0), (3, 0), (0, 0), (3, 0), (3, 0), (0, 0), (1, 0)])) hk
  generalize hs60 : S59.set k (17, 0, [(0, 0), (0, 0), (2, n), (0, 0), (0, 0), (0, 0), (0, 0), (1, 0), (0, 0), (0, 0), (2, (n + 1)), (2, (n + 2)), (2, (n + 3)), (2, (n + 4)), (2, (n + 5)), (2, (n + 6)), (2, (n + 7)), (2, (n + 8)), (2, (n + 9)), (2, (n + 10)), (2, (n + 11)), (2, (n + 12)), (2, (n + 13)), (0, 0), (2, (n + 14)), (2, (n + 15)), (2, (n + 16)), (2, (n + 17)), (2, (n + 18)), (2, (n + 19)), (2, (n + 20)), (2, (n + 21)), (2, (n + 22)), (2, (n + 23)), (2, (n + 24)), (2, (n + 25)), (0, 0), (1, 0), (2, (n + 26)), (2, (n + 27)), (2, (n + 28)), (2, (n + 29)), (3, 0), (3, 0), (3, 0), (3, 0), (3, 0), (3, 0), (3, 0), (3, 0), (3, 0), (3, 0), (3, 0), (3, 0), (0, 0), (3, 0), (3, 0), (0, 0), (1, 0)]) = S60 at hk hg
  have hk := w_apk (x := (0, 240, [])) hk
  have hg : wG S (S60 ++ [(0, 240, [])]) n (n + 31) k := wG_app (t := 0) (N := 240) (fs := []) hg (by simp)
  generalize hs61 : S60 ++ [(0, 240, [])] = S61 at hk hg
  have hg : wG S (S61.set k (17, 0, [(0, 0), (0, 0), (2, n), (0, 0), (0, 0), (0, 0), (0, 0), (1, 0), (0, 0), (0, 0), (2, (n + 1)), (2, (n + 2)), (2, (n + 3)), (2, (n + 4)), (2, (n + 5)), (2, (n + 6)), (2, (n + 7)), (2, (n + 8)), (2, (n + 9)), (2, (n + 10)), (2, (n + 11)), (2, (n + 12)), (2, (n + 13)), (0, 0), (2, (n + 14)), (2, (n + 15)), (2, (n + 16)), (2, (n + 17)), (2, (n + 18)), (2, (n + 19)), (2, (n + 20)), (2, (n + 21)), (2, (n + 22)), (2, (n + 23)), (2, (n + 24)), (2, (n + 25)), (0, 0), (1, 0), (2, (n + 26)), (2, (n + 27)), (2, (n + 28)), (2, (n + 29)), (2, (n + 30)), (3, 0), (3, 0), (3, 0), (3, 0), (3, 0), (3, 0), (3, 0), (3, 0), (3, 0), (3, 0), (3, 0), (0, 0), (3, 0), (3, 0), (0, 0), (1, 0)])) n (n + 31) k := wG_set2 (j := 42) (r := (n + 30)) hg hk (by omega) (Or.inl rfl) rfl
  have hk := w_stk (x := (17, 0, [(0, 0), (0, 0), (2, n), (0, 0), (0, 0), (0, 0), (0, 0), (1, 0), (0, 0), (0, 0), (2, (n + 1)), (2, (n + 2)), (2, (n + 3)), (2, (n + 4)), (2, (n + 5)), (2, (n + 6)), (2, (n + 7)), (2, (n + 8)), (2, (n + 9)), (2, (n + 10)), (2, (n + 11)), (2, (n + 12)), (2, (n + 13)), (0, 0), (2, (n + 14)), (2, (n + 15)), (2, (n + 16)), (2, (n + 17)), (2, (n + 18)), (2, (n + 19)), (2, (n + 20)), (2, (n + 21)), (2, (n + 22)), (2, (n + 23)), (2, (n + 24)), (2, (n + 25)), (0, 0), (1, 0), (2, (n + 26)), (2, (n + 27)), (2, (n + 28)), (2, (n + 29)), (2, (n + 30)), (3, 0), (3, 0), (3, 0), (3, 0), (3, 0), (3, 0), (3, 0), (3, 0), (3, 0), (3, 0), (3, 0), (0, 0), (3, 0), (3, 0), (0, 0), (1, 0)])) hk
  generalize hs62 : S61.set k (17, 0, [(0, 0), (0, 0), (2, n), (0, 0), (0, 0), (0, 0), (0, 0), (1, 0), (0, 0), (0, 0), (2, (n + 1)), (2, (n + 2)), (2, (n + 3)), (2, (n + 4)), (2, (n + 5)), (2, (n + 6)), (2, (n + 7)), (2, (n + 8)), (2, (n + 9)), (2, (n + 10)), (2, (n + 11)), (2, (n + 12)), (2, (n + 13)), (0, 0), (2, (n + 14)), (2, (n + 15)), (2, (n + 16)), (2, (n + 17)), (2, (n + 18)), (2, (n + 19)), (2, (n + 20)), (2, (n + 21)), (2, (n + 22)), (2, (n + 23)), (2, (n + 24)), (2, (n + 25)), (0, 0), (1, 0), (2, (n + 26)), (2, (n + 27)), (2, (n + 28)), (2, (n + 29)), (2, (n + 30)), (3, 0), (3, 0), (3, 0), (3, 0), (3, 0), (3, 0), (3, 0), (3, 0), (3, 0), (3, 0), (3, 0), (0, 0), (3, 0), (3, 0), (0, 0), (1, 0)]) = S62 at hk hg
  have hk := w_apk (x := (0, 5, [])) hk
  have hg : wG S (S62 ++ [(0, 5, [])]) n (n + 32) k := wG_app (t := 0) (N := 5) (fs := []) hg (by simp)
  generalize hs63 : S62 ++ [(0, 5, [])] = S63 at hk hg
  have hg : wG S (S63.set k (17, 0, [(0, 0), (0, 0), (2, n), (0, 0), (0, 0), (0, 0), (0, 0), (1, 0), (0, 0), (0, 0), (2, (n + 1)), (2, (n + 2)), (2, (n + 3)), (2, (n + 4)), (2, (n + 5)), (2, (n + 6)), (2, (n + 7)), (2, (n + 8)), (2, (n + 9)), (2, (n + 10)), (2, (n + 11)), (2, (n + 12)), (2, (n + 13)), (0, 0), (2, (n + 14)), (2, (n + 15)), (2, (n + 16)), (2, (n + 17)), (2, (n + 18)), (2, (n + 19)), (2, (n + 20)), (2, (n + 21)), (2, (n + 22)), (2, (n + 23)), (2, (n + 24)), (2, (n + 25)), (0, 0), (1, 0), (2, (n + 26)), (2, (n + 27)), (2, (n + 28)), (2, (n + 29)), (2, (n + 30)), (2, (n + 31)), (3, 0), (3, 0), (3, 0), (3, 0), (3, 0), (3, 0), (3, 0), (3, 0), (3, 0), (3, 0), (0, 0), (3, 0), (3, 0), (0, 0), (1, 0)])) n (n + 32) k := wG_set2 (j := 43) (r := (n + 31)) hg hk (by omega) (Or.inl rfl) rfl
  have hk := w_stk (x := (17, 0, [(0, 0), (0, 0), (2, n), (0, 0), (0, 0), (0, 0), (0, 0), (1, 0), (0, 0), (0, 0), (2, (n + 1)), (2, (n + 2)), (2, (n + 3)), (2, (n + 4)), (2, (n + 5)), (2, (n + 6)), (2, (n + 7)), (2, (n + 8)), (2, (n + 9)), (2, (n + 10)), (2, (n + 11)), (2, (n + 12)), (2, (n + 13)), (0, 0), (2, (n + 14)), (2, (n + 15)), (2, (n + 16)), (2, (n + 17)), (2, (n + 18)), (2, (n + 19)), (2, (n + 20)), (2, (n + 21)), (2, (n + 22)), (2, (n + 23)), (2, (n + 24)), (2, (n + 25)), (0, 0), (1, 0), (2, (n + 26)), (2, (n + 27)), (2, (n + 28)), (2, (n + 29)), (2, (n + 30)), (2, (n + 31)), (3, 0), (3, 0), (3, 0), (3, 0), (3, 0), (3, 0), (3, 0), (3, 0), (3, 0), (3, 0), (0, 0), (3, 0), (3, 0), (0, 0), (1, 0)])) hk
  generalize hs64 : S63.set k (17, 0, [(0, 0), (0, 0), (2, n), (0, 0), (0, 0), (0, 0), (0, 0), (1, 0), (0, 0), (0, 0), (2, (n + 1)), (2, (n + 2)), (2, (n + 3)), (2, (n + 4)), (2, (n + 5)), (2, (n + 6)), (2, (n + 7)), (2, (n + 8)), (2, (n + 9)), (2, (n + 10)), (2, (n + 11)), (2, (n + 12)), (2, (n + 13)), (0, 0), (2, (n + 14)), (2, (n + 15)), (2, (n + 16)), (2, (n + 17)), (2, (n + 18)), (2, (n + 19)), (2, (n + 20)), (2, (n + 21)), (2, (n + 22)), (2, (n + 23)), (2, (n + 24)), (2, (n + 25)), (0, 0), (1, 0), (2, (n + 26)), (2, (n + 27)), (2, (n + 28)), (2, (n + 29)), (2, (n + 30)), (2, (n + 31)), (3, 0), (3, 0), (3, 0), (3, 0), (3, 0), (3, 0), (3, 0), (3, 0), (3, 0), (3, 0), (0, 0), (3, 0), (3, 0), (0, 0), (1, 0)]) = S64 at hk hg
  have hk := w_apk (x := (0, 40, [])) hk
  have hg : wG S (S64 ++ [(0, 40, [])]) n (n + 33) k := wG_app (t := 0) (N := 40) (fs := []) hg (by simp)
  generalize hs65 : S64 ++ [(0, 40, [])] = S65 at hk hg
  have hg : wG S (S65.set k (17, 0, [(0, 0), (0, 0), (2, n), (0, 0), (0, 0), (0, 0), (0, 0), (1, 0), (0, 0), (0, 0), (2, (n + 1)), (2, (n + 2)), (2, (n + 3)), (2, (n + 4)), (2, (n + 5)), (2, (n + 6)), (2, (n + 7)), (2, (n + 8)), (2, (n + 9)), (2, (n + 10)), (2, (n + 11)), (2, (n + 12)), (2, (n + 13)), (0, 0), (2, (n + 14)), (2, (n + 15)), (2, (n + 16)), (2, (n + 17)), (2, (n + 18)), (2, (n + 19)), (2, (n + 20)), (2, (n + 21)), (2, (n + 22)), (2, (n + 23)), (2, (n + 24)), (2, (n + 25)), (0, 0), (1, 0), (2, (n + 26)), (2, (n + 27)), (2, (n + 28)), (2, (n + 29)), (2, (n + 30)), (2, (n + 31)), (2, (n + 32)), (3, 0), (3, 0), (3, 0), (3, 0), (3, 0), (3, 0), (3, 0), (3, 0), (3, 0), (0, 0), (3, 0), (3, 0), (0, 0), (1, 0)])) n (n + 33) k := wG_set2 (j := 44) (r := (n + 32)) hg hk (by omega) (Or.inl rfl) rfl
  have hk := w_stk (x := (17, 0, [(0, 0), (0, 0), (2, n), (0, 0), (0, 0), (0, 0), (0, 0), (1, 0), (0, 0), (0, 0), (2, (n + 1)), (2, (n + 2)), (2, (n + 3)), (2, (n + 4)), (2, (n + 5)), (2, (n + 6)), (2, (n + 7)), (2, (n + 8)), (2, (n + 9)), (2, (n + 10)), (2, (n + 11)), (2, (n + 12)), (2, (n + 13)), (0, 0), (2, (n + 14)), (2, (n + 15)), (2, (n + 16)), (2, (n + 17)), (2, (n + 18)), (2, (n + 19)), (2, (n + 20)), (2, (n + 21)), (2, (n + 22)), (2, (n + 23)), (2, (n + 24)), (2, (n + 25)), (0, 0), (1, 0), (2, (n + 26)), (2, (n + 27)), (2, (n + 28)), (2, (n + 29)), (2, (n + 30)), (2, (n + 31)), (2, (n + 32)), (3, 0), (3, 0), (3, 0), (3, 0), (3, 0), (3, 0), (3, 0), (3, 0), (3, 0), (0, 0), (3, 0), (3, 0), (0, 0), (1, 0)])) hk
  generalize hs66 : S65.set k (17, 0, [(0, 0), (0, 0), (2, n), (0, 0), (0, 0), (0, 0), (0, 0), (1, 0), (0, 0), (0, 0), (2, (n + 1)), (2, (n + 2)), (2, (n + 3)), (2, (n + 4)), (2, (n + 5)), (2, (n + 6)), (2, (n + 7)), (2, (n + 8)), (2, (n + 9)), (2, (n + 10)), (2, (n + 11)), (2, (n + 12)), (2, (n + 13)), (0, 0), (2, (n + 14)), (2, (n + 15)), (2, (n + 16)), (2, (n + 17)), (2, (n + 18)), (2, (n + 19)), (2, (n + 20)), (2, (n + 21)), (2, (n + 22)), (2, (n + 23)), (2, (n + 24)), (2, (n + 25)), (0, 0), (1, 0), (2, (n + 26)), (2, (n + 27)), (2, (n + 28)), (2, (n + 29)), (2, (n + 30)), (2, (n + 31)), (2, (n + 32)), (3, 0), (3, 0), (3, 0), (3, 0), (3, 0), (3, 0), (3, 0), (3, 0), (3, 0), (0, 0), (3, 0), (3, 0), (0, 0), (1, 0)]) = S66 at hk hg
  have hk := w_apk (x := (0, 40, [])) hk
  have hg : wG S (S66 ++ [(0, 40, [])]) n (n + 34) k := wG_app (t := 0) (N := 40) (fs := []) hg (by simp)
  generalize hs67 : S66 ++ [(0, 40, [])] = S67 at hk hg
  have hg : wG S (S67.set k (17, 0, [(0, 0), (0, 0), (2, n), (0, 0), (0, 0), (0, 0), (0, 0), (1, 0), (0, 0), (0, 0), (2, (n + 1)), (2, (n + 2)), (2, (n + 3)), (2, (n + 4)), (2, (n + 5)), (2, (n + 6)), (2, (n + 7)), (2, (n + 8)), (2, (n + 9)), (2, (n + 10)), (2, (n + 11)), (2, (n + 12)), (2, (n + 13)), (0, 0), (2, (n + 14)), (2, (n + 15)), (2, (n + 16)), (2, (n + 17)), (2, (n + 18)), (2, (n + 19)), (2, (n + 20)), (2, (n + 21)), (2, (n + 22)), (2, (n + 23)), (2, (n + 24)), (2, (n + 25)), (0, 0), (1, 0), (2, (n + 26)), (2, (n + 27)), (2, (n + 28)), (2, (n + 29)), (2, (n + 30)), (2, (n + 31)), (2, (n + 32)), (2, (n + 33)), (3, 0), (3, 0), (3, 0), (3, 0), (3, 0), (3, 0), (3, 0), (3, 0), (0, 0), (3, 0), (3, 0), (0, 0), (1, 0)])) n (n + 34) k := wG_set2 (j := 45) (r := (n + 33)) hg hk (by omega) (Or.inl rfl) rfl
  have hk := w_stk (x := (17, 0, [(0, 0), (0, 0), (2, n), (0, 0), (0, 0), (0, 0), (0, 0), (1, 0), (0, 0), (0, 0), (2, (n + 1)), (2, (n + 2)), (2, (n + 3)), (2, (n + 4)), (2, (n + 5)), (2, (n + 6)), (2, (n + 7)), (2, (n + 8)), (2, (n + 9)), (2, (n + 10)), (2, (n + 11)), (2, (n + 12)), (2, (n + 13)), (0, 0), (2, (n + 14)), (2, (n + 15)), (2, (n + 16)), (2, (n + 17)), (2, (n + 18)), (2, (n + 19)), (2, (n + 20)), (2, (n + 21)), (2, (n + 22)), (2, (n + 23)), (2, (n + 24)), (2, (n + 25)), (0, 0), (1, 0), (2, (n + 26)), (2, (n + 27)), (2, (n + 28)), (2, (n + 29)), (2, (n + 30)), (2, (n + 31)), (2, (n + 32)), (2, (n + 33)), (3, 0), (3, 0), (3, 0), (3, 0), (3, 0), (3, 0), (3, 0), (3, 0), (0, 0), (3, 0), (3, 0), (0, 0), (1, 0)])) hk
  generalize hs68 : S67.set k (17, 0, [(0, 0), (0, 0), (2, n), (0, 0), (0, 0), (0, 0), (0, 0), (1, 0), (0, 0), (0, 0), (2, (n + 1)), (2, (n + 2)), (2, (n + 3)), (2, (n + 4)), (2, (n + 5)), (2, (n + 6)), (2, (n + 7)), (2, (n + 8)), (2, (n + 9)), (2, (n + 10)), (2, (n + 11)), (2, (n + 12)), (2, (n + 13)), (0, 0), (2, (n + 14)), (2, (n + 15)), (2, (n + 16)), (2, (n + 17)), (2, (n + 18)), (2, (n + 19)), (2, (n + 20)), (2, (n + 21)), (2, (n + 22)), (2, (n + 23)), (2, (n + 24)), (2, (n + 25)), (0, 0), (1, 0), (2, (n + 26)), (2, (n + 27)), (2, (n + 28)), (2, (n + 29)), (2, (n + 30)), (2, (n + 31)), (2, (n + 32)), (2, (n + 33)), (3, 0), (3, 0), (3, 0), (3, 0), (3, 0), (3, 0), (3, 0), (3, 0), (0, 0), (3, 0), (3, 0), (0, 0), (1, 0)]) = S68 at hk hg
  have hk := w_apk (x := (0, 40, [])) hk
  have hg : wG S (S68 ++ [(0, 40, [])]) n (n + 35) k := wG_app (t := 0) (N := 40) (fs := []) hg (by simp)
  generalize hs69 : S68 ++ [(0, 40, [])] = S69 at hk hg
  have hg : wG S (S69.set k (17, 0, [(0, 0), (0, 0), (2, n), (0, 0), (0, 0), (0, 0), (0, 0), (1, 0), (0, 0), (0, 0), (2, (n + 1)), (2, (n + 2)), (2, (n + 3)), (2, (n + 4)), (2, (n + 5)), (2, (n + 6)), (2, (n + 7)), (2, (n + 8)), (2, (n + 9)), (2, (n + 10)), (2, (n + 11)), (2, (n + 12)), (2, (n + 13)), (0, 0), (2, (n + 14)), (2, (n + 15)), (2, (n + 16)), (2, (n + 17)), (2, (n + 18)), (2, (n + 19)), (2, (n + 20)), (2, (n + 21)), (2, (n + 22)), (2, (n + 23)), (2, (n + 24)), (2, (n + 25)), (0, 0), (1, 0), (2, (n + 26)), (2, (n + 27)), (2, (n + 28)), (2, (n + 29)), (2, (n + 30)), (2, (n + 31)), (2, (n + 32)), (2, (n + 33)), (2, (n + 34)), (3, 0), (3, 0), (3, 0), (3, 0), (3, 0), (3, 0), (3, 0), (0, 0), (3, 0), (3, 0), (0, 0), (1, 0)])) n (n + 35) k := wG_set2 (j := 46) (r := (n + 34)) hg hk (by omega) (Or.inl rfl) rfl
  have hk := w_stk (x := (17, 0, [(0, 0), (0, 0), (2, n), (0, 0), (0, 0), (0, 0), (0, 0), (1, 0), (0, 0), (0, 0), (2, (n + 1)), (2, (n + 2)), (2, (n + 3)), (2, (n + 4)), (2, (n + 5)), (2, (n + 6)), (2, (n + 7)), (2, (n + 8)), (2, (n + 9)), (2, (n + 10)), (2, (n + 11)), (2, (n + 12)), (2, (n + 13)), (0, 0), (2, (n + 14)), (2, (n + 15)), (2, (n + 16)), (2, (n + 17)), (2, (n + 18)), (2, (n + 19)), (2, (n + 20)), (2, (n + 21)), (2, (n + 22)), (2, (n + 23)), (2, (n + 24)), (2, (n + 25)), (0, 0), (1, 0), (2, (n + 26)), (2, (n + 27)), (2, (n + 28)), (2, (n + 29)), (2, (n + 30)), (2, (n + 31)), (2, (n + 32)), (2, (n + 33)), (2, (n + 34)), (3, 0), (3, 0), (3, 0), (3, 0), (3, 0), (3, 0), (3, 0), (0, 0), (3, 0), (3, 0), (0, 0), (1, 0)])) hk
  generalize hs70 : S69.set k (17, 0, [(0, 0), (0, 0), (2, n), (0, 0), (0, 0), (0, 0), (0, 0), (1, 0), (0, 0), (0, 0), (2, (n + 1)), (2, (n + 2)), (2, (n + 3)), (2, (n + 4)), (2, (n + 5)), (2, (n + 6)), (2, (n + 7)), (2, (n + 8)), (2, (n + 9)), (2, (n + 10)), (2, (n + 11)), (2, (n + 12)), (2, (n + 13)), (0, 0), (2, (n + 14)), (2, (n + 15)), (2, (n + 16)), (2, (n + 17)), (2, (n + 18)), (2, (n + 19)), (2, (n + 20)), (2, (n + 21)), (2, (n + 22)), (2, (n + 23)), (2, (n + 24)), (2, (n + 25)), (0, 0), (1, 0), (2, (n + 26)), (2, (n + 27)), (2, (n + 28)), (2, (n + 29)), (2, (n + 30)), (2, (n + 31)), (2, (n + 32)), (2, (n + 33)), (2, (n + 34)), (3, 0), (3, 0), (3, 0), (3, 0), (3, 0), (3, 0), (3, 0), (0, 0), (3, 0), (3, 0), (0, 0), (1, 0)]) = S70 at hk hg
  have hk := w_apk (x := (2, 40, [])) hk
  have hg : wG S (S70 ++ [(2, 40, [])]) n (n + 36) k := wG_app (t := 2) (N := 40) (fs := []) hg (by simp)
  generalize hs71 : S70 ++ [(2, 40, [])] = S71 at hk hg
  have hg : wG S (S71.set k (17, 0, [(0, 0), (0, 0), (2, n), (0, 0), (0, 0), (0, 0), (0, 0), (1, 0), (0, 0), (0, 0), (2, (n + 1)), (2, (n + 2)), (2, (n + 3)), (2, (n + 4)), (2, (n + 5)), (2, (n + 6)), (2, (n + 7)), (2, (n + 8)), (2, (n + 9)), (2, (n + 10)), (2, (n + 11)), (2, (n + 12)), (2, (n + 13)), (0, 0), (2, (n + 14)), (2, (n + 15)), (2, (n + 16)), (2, (n + 17)), (2, (n + 18)), (2, (n + 19)), (2, (n + 20)), (2, (n + 21)), (2, (n + 22)), (2, (n + 23)), (2, (n + 24)), (2, (n + 25)), (0, 0), (1, 0), (2, (n + 26)), (2, (n + 27)), (2, (n + 28)), (2, (n + 29)), (2, (n + 30)), (2, (n + 31)), (2, (n + 32)), (2, (n + 33)), (2, (n + 34)), (2, (n + 35)), (3, 0), (3, 0), (3, 0), (3, 0), (3, 0), (3, 0), (0, 0), (3, 0), (3, 0), (0, 0), (1, 0)])) n (n + 36) k := wG_set2 (j := 47) (r := (n + 35)) hg hk (by omega) (Or.inl rfl) rfl
  have hk := w_stk (x := (17, 0, [(0, 0), (0, 0), (2, n), (0, 0), (0, 0), (0, 0), (0, 0), (1, 0), (0, 0), (0, 0), (2, (n + 1)), (2, (n + 2)), (2, (n + 3)), (2, (n + 4)), (2, (n + 5)), (2, (n + 6)), (2, (n + 7)), (2, (n + 8)), (2, (n + 9)), (2, (n + 10)), (2, (n + 11)), (2, (n + 12)), (2, (n + 13)), (0, 0), (2, (n + 14)), (2, (n + 15)), (2, (n + 16)), (2, (n + 17)), (2, (n + 18)), (2, (n + 19)), (2, (n + 20)), (2, (n + 21)), (2, (n + 22)), (2, (n + 23)), (2, (n + 24)), (2, (n + 25)), (0, 0), (1, 0), (2, (n + 26)), (2, (n + 27)), (2, (n + 28)), (2, (n + 29)), (2, (n + 30)), (2, (n + 31)), (2, (n + 32)), (2, (n + 33)), (2, (n + 34)), (2, (n + 35)), (3, 0), (3, 0), (3, 0), (3, 0), (3, 0), (3, 0), (0, 0), (3, 0), (3, 0), (0, 0), (1, 0)])) hk
  generalize hs72 : S71.set k (17, 0, [(0, 0), (0, 0), (2, n), (0, 0), (0, 0), (0, 0), (0, 0), (1, 0), (0, 0), (0, 0), (2, (n + 1)), (2, (n + 2)), (2, (n + 3)), (2, (n + 4)), (2, (n + 5)), (2, (n + 6)), (2, (n + 7)), (2, (n + 8)), (2, (n + 9)), (2, (n + 10)), (2, (n + 11)), (2, (n + 12)), (2, (n + 13)), (0, 0), (2, (n + 14)), (2, (n + 15)), (2, (n + 16)), (2, (n + 17)), (2, (n + 18)), (2, (n + 19)), (2, (n + 20)), (2, (n + 21)), (2, (n + 22)), (2, (n + 23)), (2, (n + 24)), (2, (n + 25)), (0, 0), (1, 0), (2, (n + 26)), (2, (n + 27)), (2, (n + 28)), (2, (n + 29)), (2, (n + 30)), (2, (n + 31)), (2, (n + 32)), (2, (n + 33)), (2, (n + 34)), (2, (n + 35)), (3, 0), (3, 0), (3, 0), (3, 0), (3, 0), (3, 0), (0, 0), (3, 0), (3, 0), (0, 0), (1, 0)]) = S72 at hk hg
  have hk := w_apk (x := (0, 25, [])) hk
  have hg : wG S (S72 ++ [(0, 25, [])]) n (n + 37) k := wG_app (t := 0) (N := 25) (fs := []) hg (by simp)
  generalize hs73 : S72 ++ [(0, 25, [])] = S73 at hk hg
  have hg : wG S (S73.set k (17, 0, [(0, 0), (0, 0), (2, n), (0, 0), (0, 0), (0, 0), (0, 0), (1, 0), (0, 0), (0, 0), (2, (n + 1)), (2, (n + 2)), (2, (n + 3)), (2, (n + 4)), (2, (n + 5)), (2, (n + 6)), (2, (n + 7)), (2, (n + 8)), (2, (n + 9)), (2, (n + 10)), (2, (n + 11)), (2, (n + 12)), (2, (n + 13)), (0, 0), (2, (n + 14)), (2, (n + 15)), (2, (n + 16)), (2, (n + 17)), (2, (n + 18)), (2, (n + 19)), (2, (n + 20)), (2, (n + 21)), (2, (n + 22)), (2, (n + 23)), (2, (n + 24)), (2, (n + 25)), (0, 0), (1, 0), (2, (n + 26)), (2, (n + 27)), (2, (n + 28)), (2, (n + 29)), (2, (n + 30)), (2, (n + 31)), (2, (n + 32)), (2, (n + 33)), (2, (n + 34)), (2, (n + 35)), (2, (n + 36)), (3, 0), (3, 0), (3, 0), (3, 0), (3, 0), (0, 0), (3, 0), (3, 0), (0, 0), (1, 0)])) n (n + 37) k := wG_set2 (j := 48) (r := (n + 36)) hg hk (by omega) (Or.inl rfl) rfl
  have hk := w_stk (x := (17, 0, [(0, 0), (0, 0), (2, n), (0, 0), (0, 0), (0, 0), (0, 0), (1, 0), (0, 0), (0, 0), (2, (n + 1)), (2, (n + 2)), (2, (n + 3)), (2, (n + 4)), (2, (n + 5)), (2, (n + 6)), (2, (n + 7)), (2, (n + 8)), (2, (n + 9)), (2, (n + 10)), (2, (n + 11)), (2, (n + 12)), (2, (n + 13)), (0, 0), (2, (n + 14)), (2, (n + 15)), (2, (n + 16)), (2, (n + 17)), (2, (n + 18)), (2, (n + 19)), (2, (n + 20)), (2, (n + 21)), (2, (n + 22)), (2, (n + 23)), (2, (n + 24)), (2, (n + 25)), (0, 0), (1, 0), (2, (n + 26)), (2, (n + 27)), (2, (n + 28)), (2, (n + 29)), (2, (n + 30)), (2, (n + 31)), (2, (n + 32)), (2, (n + 33)), (2, (n + 34)), (2, (n + 35)), (2, (n + 36)), (3, 0), (3, 0), (3, 0), (3, 0), (3, 0), (0, 0), (3, 0), (3, 0), (0, 0), (1, 0)])) hk
  generalize hs74 : S73.set k (17, 0, [(0, 0), (0, 0), (2, n), (0, 0), (0, 0), (0, 0), (0, 0), (1, 0), (0, 0), (0, 0), (2, (n + 1)), (2, (n + 2)), (2, (n + 3)), (2, (n + 4)), (2, (n + 5)), (2, (n + 6)), (2, (n + 7)), (2, (n + 8)), (2, (n + 9)), (2, (n + 10)), (2, (n + 11)), (2, (n + 12)), (2, (n + 13)), (0, 0), (2, (n + 14)), (2, (n + 15)), (2, (n + 16)), (2, (n + 17)), (2, (n + 18)), (2, (n + 19)), (2, (n + 20)), (2, (n + 21)), (2, (n + 22)), (2, (n + 23)), (2, (n + 24)), (2, (n + 25)), (0, 0), (1, 0), (2, (n + 26)), (2, (n + 27)), (2, (n + 28)), (2, (n + 29)), (2, (n + 30)), (2, (n + 31)), (2, (n + 32)), (2, (n + 33)), (2, (n + 34)), (2, (n + 35)), (2, (n + 36)), (3, 0), (3, 0), (3, 0), (3, 0), (3, 0), (0, 0), (3, 0), (3, 0), (0, 0), (1, 0)]) = S74 at hk hg
  have hk := w_apk (x := (0, 25, [])) hk
  have hg : wG S (S74 ++ [(0, 25, [])]) n (n + 38) k := wG_app (t := 0) (N := 25) (fs := []) hg (by simp)
  generalize hs75 : S74 ++ [(0, 25, [])] = S75 at hk hg
  have hg : wG S (S75.set k (17, 0, [(0, 0), (0, 0), (2, n), (0, 0), (0, 0), (0, 0), (0, 0), (1, 0), (0, 0), (0, 0), (2, (n + 1)), (2, (n + 2)), (2, (n + 3)), (2, (n + 4)), (2, (n + 5)), (2, (n + 6)), (2, (n + 7)), (2, (n + 8)), (2, (n + 9)), (2, (n + 10)), (2, (n + 11)), (2, (n + 12)), (2, (n + 13)), (0, 0), (2, (n + 14)), (2, (n + 15)), (2, (n + 16)), (2, (n + 17)), (2, (n + 18)), (2, (n + 19)), (2, (n + 20)), (2, (n + 21)), (2, (n + 22)), (2, (n + 23)), (2, (n + 24)), (2, (n + 25)), (0, 0), (1, 0), (2, (n + 26)), (2, (n + 27)), (2, (n + 28)), (2, (n + 29)), (2, (n + 30)), (2, (n + 31)), (2, (n + 32)), (2, (n + 33)), (2, (n + 34)), (2, (n + 35)), (2, (n + 36)), (2, (n + 37)), (3, 0), (3, 0), (3, 0), (3, 0), (0, 0), (3, 0), (3, 0), (0, 0), (1, 0)])) n (n + 38) k := wG_set2 (j := 49) (r := (n + 37)) hg hk (by omega) (Or.inl rfl) rfl
  have hk := w_stk (x := (17, 0, [(0, 0), (0, 0), (2, n), (0, 0), (0, 0), (0, 0), (0, 0), (1, 0), (0, 0), (0, 0), (2, (n + 1)), (2, (n + 2)), (2, (n + 3)), (2, (n + 4)), (2, (n + 5)), (2, (n + 6)), (2, (n + 7)), (2, (n + 8)), (2, (n + 9)), (2, (n + 10)), (2, (n + 11)), (2, (n + 12)), (2, (n + 13)), (0, 0), (2, (n + 14)), (2, (n + 15)), (2, (n + 16)), (2, (n + 17)), (2, (n + 18)), (2, (n + 19)), (2, (n + 20)), (2, (n + 21)), (2, (n + 22)), (2, (n + 23)), (2, (n + 24)), (2, (n + 25)), (0, 0), (1, 0), (2, (n + 26)), (2, (n + 27)), (2, (n + 28)), (2, (n + 29)), (2, (n + 30)), (2, (n + 31)), (2, (n + 32)), (2, (n + 33)), (2, (n + 34)), (2, (n + 35)), (2, (n + 36)), (2, (n + 37)), (3, 0), (3, 0), (3, 0), (3, 0), (0, 0), (3, 0), (3, 0), (0, 0), (1, 0)])) hk
  generalize hs76 : S75.set k (17, 0, [(0, 0), (0, 0), (2, n), (0, 0), (0, 0), (0, 0), (0, 0), (1, 0), (0, 0), (0, 0), (2, (n + 1)), (2, (n + 2)), (2, (n + 3)), (2, (n + 4)), (2, (n + 5)), (2, (n + 6)), (2, (n + 7)), (2, (n + 8)), (2, (n + 9)), (2, (n + 10)), (2, (n + 11)), (2, (n + 12)), (2, (n + 13)), (0, 0), (2, (n + 14)), (2, (n + 15)), (2, (n + 16)), (2, (n + 17)), (2, (n + 18)), (2, (n + 19)), (2, (n + 20)), (2, (n + 21)), (2, (n + 22)), (2, (n + 23)), (2, (n + 24)), (2, (n + 25)), (0, 0), (1, 0), (2, (n + 26)), (2, (n + 27)), (2, (n + 28)), (2, (n + 29)), (2, (n + 30)), (2, (n + 31)), (2, (n + 32)), (2, (n + 33)), (2, (n + 34)), (2, (n + 35)), (2, (n + 36)), (2, (n + 37)), (3, 0), (3, 0), (3, 0), (3, 0), (0, 0), (3, 0), (3, 0), (0, 0), (1, 0)]) = S76 at hk hg
  have hk := w_apk (x := (0, 25, [])) hk
  have hg : wG S (S76 ++ [(0, 25, [])]) n (n + 39) k := wG_app (t := 0) (N := 25) (fs := []) hg (by simp)
  generalize hs77 : S76 ++ [(0, 25, [])] = S77 at hk hg
  have hg : wG S (S77.set k (17, 0, [(0, 0), (0, 0), (2, n), (0, 0), (0, 0), (0, 0), (0, 0), (1, 0), (0, 0), (0, 0), (2, (n + 1)), (2, (n + 2)), (2, (n + 3)), (2, (n + 4)), (2, (n + 5)), (2, (n + 6)), (2, (n + 7)), (2, (n + 8)), (2, (n + 9)), (2, (n + 10)), (2, (n + 11)), (2, (n + 12)), (2, (n + 13)), (0, 0), (2, (n + 14)), (2, (n + 15)), (2, (n + 16)), (2, (n + 17)), (2, (n + 18)), (2, (n + 19)), (2, (n + 20)), (2, (n + 21)), (2, (n + 22)), (2, (n + 23)), (2, (n + 24)), (2, (n + 25)), (0, 0), (1, 0), (2, (n + 26)), (2, (n + 27)), (2, (n + 28)), (2, (n + 29)), (2, (n + 30)), (2, (n + 31)), (2, (n + 32)), (2, (n + 33)), (2, (n + 34)), (2, (n + 35)), (2, (n + 36)), (2, (n + 37)), (2, (n + 38)), (3, 0), (3, 0), (3, 0), (0, 0), (3, 0), (3, 0), (0, 0), (1, 0)])) n (n + 39) k := wG_set2 (j := 50) (r := (n + 38)) hg hk (by omega) (Or.inl rfl) rfl
  have hk := w_stk (x := (17, 0, [(0, 0), (0, 0), (2, n), (0, 0), (0, 0), (0, 0), (0, 0), (1, 0), (0, 0), (0, 0), (2, (n + 1)), (2, (n + 2)), (2, (n + 3)), (2, (n + 4)), (2, (n + 5)), (2, (n + 6)), (2, (n + 7)), (2, (n + 8)), (2, (n + 9)), (2, (n + 10)), (2, (n + 11)), (2, (n + 12)), (2, (n + 13)), (0, 0), (2, (n + 14)), (2, (n + 15)), (2, (n + 16)), (2, (n + 17)), (2, (n + 18)), (2, (n + 19)), (2, (n + 20)), (2, (n + 21)), (2, (n + 22)), (2, (n + 23)), (2, (n + 24)), (2, (n + 25)), (0, 0), (1, 0), (2, (n + 26)), (2, (n + 27)), (2, (n + 28)), (2, (n + 29)), (2, (n + 30)), (2, (n + 31)), (2, (n + 32)), (2, (n + 33)), (2, (n + 34)), (2, (n + 35)), (2, (n + 36)), (2, (n + 37)), (2, (n + 38)), (3, 0), (3, 0), (3, 0), (0, 0), (3, 0), (3, 0), (0, 0), (1, 0)])) hk
  generalize hs78 : S77.set k (17, 0, [(0, 0), (0, 0), (2, n), (0, 0), (0, 0), (0, 0), (0, 0), (1, 0), (0, 0), (0, 0), (2, (n + 1)), (2, (n + 2)), (2, (n + 3)), (2, (n + 4)), (2, (n + 5)), (2, (n + 6)), (2, (n + 7)), (2, (n + 8)), (2, (n + 9)), (2, (n + 10)), (2, (n + 11)), (2, (n + 12)), (2, (n + 13)), (0, 0), (2, (n + 14)), (2, (n + 15)), (2, (n + 16)), (2, (n + 17)), (2, (n + 18)), (2, (n + 19)), (2, (n + 20)), (2, (n + 21)), (2, (n + 22)), (2, (n + 23)), (2, (n + 24)), (2, (n + 25)), (0, 0), (1, 0), (2, (n + 26)), (2, (n + 27)), (2, (n + 28)), (2, (n + 29)), (2, (n + 30)), (2, (n + 31)), (2, (n + 32)), (2, (n + 33)), (2, (n + 34)), (2, (n + 35)), (2, (n + 36)), (2, (n + 37)), (2, (n + 38)), (3, 0), (3, 0), (3, 0), (0, 0), (3, 0), (3, 0), (0, 0), (1, 0)]) = S78 at hk hg
  have hk := w_apk (x := (0, 100, [])) hk
  have hg : wG S (S78 ++ [(0, 100, [])]) n (n + 40) k := wG_app (t := 0) (N := 100) (fs := []) hg (by simp)
  generalize hs79 : S78 ++ [(0, 100, [])] = S79 at hk hg
  have hg : wG S (S79.set k (17, 0, [(0, 0), (0, 0), (2, n), (0, 0), (0, 0), (0, 0), (0, 0), (1, 0), (0, 0), (0, 0), (2, (n + 1)), (2, (n + 2)), (2, (n + 3)), (2, (n + 4)), (2, (n + 5)), (2, (n + 6)), (2, (n + 7)), (2, (n + 8)), (2, (n + 9)), (2, (n + 10)), (2, (n + 11)), (2, (n + 12)), (2, (n + 13)), (0, 0), (2, (n + 14)), (2, (n + 15)), (2, (n + 16)), (2, (n + 17)), (2, (n + 18)), (2, (n + 19)), (2, (n + 20)), (2, (n + 21)), (2, (n + 22)), (2, (n + 23)), (2, (n + 24)), (2, (n + 25)), (0, 0), (1, 0), (2, (n + 26)), (2, (n + 27)), (2, (n + 28)), (2, (n + 29)), (2, (n + 30)), (2, (n + 31)), (2, (n + 32)), (2, (n + 33)), (2, (n + 34)), (2, (n + 35)), (2, (n + 36)), (2, (n + 37)), (2, (n + 38)), (2, (n + 39)), (3, 0), (3, 0), (0, 0), (3, 0), (3, 0), (0, 0), (1, 0)])) n (n + 40) k := wG_set2 (j := 51) (r := (n + 39)) hg hk (by omega) (Or.inl rfl) rfl
  have hk := w_stk (x := (17, 0, [(0, 0), (0, 0), (2, n), (0, 0), (0, 0), (0, 0), (0, 0), (1, 0), (0, 0), (0, 0), (2, (n + 1)), (2, (n + 2)), (2, (n + 3)), (2, (n + 4)), (2, (n + 5)), (2, (n + 6)), (2, (n + 7)), (2, (n + 8)), (2, (n + 9)), (2, (n + 10)), (2, (n + 11)), (2, (n + 12)), (2, (n + 13)), (0, 0), (2, (n + 14)), (2, (n + 15)), (2, (n + 16)), (2, (n + 17)), (2, (n + 18)), (2, (n + 19)), (2, (n + 20)), (2, (n + 21)), (2, (n + 22)), (2, (n + 23)), (2, (n + 24)), (2, (n + 25)), (0, 0), (1, 0), (2, (n + 26)), (2, (n + 27)), (2, (n + 28)), (2, (n + 29)), (2, (n + 30)), (2, (n + 31)), (2, (n + 32)), (2, (n + 33)), (2, (n + 34)), (2, (n + 35)), (2, (n + 36)), (2, (n + 37)), (2, (n + 38)), (2, (n + 39)), (3, 0), (3, 0), (0, 0), (3, 0), (3, 0), (0, 0), (1, 0)])) hk
  generalize hs80 : S79.set k (17, 0, [(0, 0), (0, 0), (2, n), (0, 0), (0, 0), (0, 0), (0, 0), (1, 0), (0, 0), (0, 0), (2, (n + 1)), (2, (n + 2)), (2, (n + 3)), (2, (n + 4)), (2, (n + 5)), (2, (n + 6)), (2, (n + 7)), (2, (n + 8)), (2, (n + 9)), (2, (n + 10)), (2, (n + 11)), (2, (n + 12)), (2, (n + 13)), (0, 0), (2, (n + 14)), (2, (n + 15)), (2, (n + 16)), (2, (n + 17)), (2, (n + 18)), (2, (n + 19)), (2, (n + 20)), (2, (n + 21)), (2, (n + 22)), (2, (n + 23)), (2, (n + 24)), (2, (n + 25)), (0, 0), (1, 0), (2, (n + 26)), (2, (n + 27)), (2, (n + 28)), (2, (n + 29)), (2, (n + 30)), (2, (n + 31)), (2, (n + 32)), (2, (n + 33)), (2, (n + 34)), (2, (n + 35)), (2, (n + 36)), (2, (n + 37)), (2, (n + 38)), (2, (n + 39)), (3, 0), (3, 0), (0, 0), (3, 0), (3, 0), (0, 0), (1, 0)]) = S80 at hk hg
  have hk := w_apk (x := (0, 400, [])) hk
  have hg : wG S (S80 ++ [(0, 400, [])]) n (n + 41) k := wG_app (t := 0) (N := 400) (fs := []) hg (by simp)
  generalize hs81 : S80 ++ [(0, 400, [])] = S81 at hk hg
  have hg : wG S (S81.set k (17, 0, [(0, 0), (0, 0), (2, n), (0, 0), (0, 0), (0, 0), (0, 0), (1, 0), (0, 0), (0, 0), (2, (n + 1)), (2, (n + 2)), (2, (n + 3)), (2, (n + 4)), (2, (n + 5)), (2, (n + 6)), (2, (n + 7)), (2, (n + 8)), (2, (n + 9)), (2, (n + 10)), (2, (n + 11)), (2, (n + 12)), (2, (n + 13)), (0, 0), (2, (n + 14)), (2, (n + 15)), (2, (n + 16)), (2, (n + 17)), (2, (n + 18)), (2, (n + 19)), (2, (n + 20)), (2, (n + 21)), (2, (n + 22)), (2, (n + 23)), (2, (n + 24)), (2, (n + 25)), (0, 0), (1, 0), (2, (n + 26)), (2, (n + 27)), (2, (n + 28)), (2, (n + 29)), (2, (n + 30)), (2, (n + 31)), (2, (n + 32)), (2, (n + 33)), (2, (n + 34)), (2, (n + 35)), (2, (n + 36)), (2, (n + 37)), (2, (n + 38)), (2, (n + 39)), (2, (n + 40)), (3, 0), (0, 0), (3, 0), (3, 0), (0, 0), (1, 0)])) n (n + 41) k := wG_set2 (j := 52) (r := (n + 40)) hg hk (by omega) (Or.inl rfl) rfl
  have hk := w_stk (x := (17, 0, [(0, 0), (0, 0), (2, n), (0, 0), (0, 0), (0, 0), (0, 0), (1, 0), (0, 0), (0, 0), (2, (n + 1)), (2, (n + 2)), (2, (n + 3)), (2, (n + 4)), (2, (n + 5)), (2, (n + 6)), (2, (n + 7)), (2, (n + 8)), (2, (n + 9)), (2, (n + 10)), (2, (n + 11)), (2, (n + 12)), (2, (n + 13)), (0, 0), (2, (n + 14)), (2, (n + 15)), (2, (n + 16)), (2, (n + 17)), (2, (n + 18)), (2, (n + 19)), (2, (n + 20)), (2, (n + 21)), (2, (n + 22)), (2, (n + 23)), (2, (n + 24)), (2, (n + 25)), (0, 0), (1, 0), (2, (n + 26)), (2, (n + 27)), (2, (n + 28)), (2, (n + 29)), (2, (n + 30)), (2, (n + 31)), (2, (n + 32)), (2, (n + 33)), (2, (n + 34)), (2, (n + 35)), (2, (n + 36)), (2, (n + 37)), (2, (n + 38)), (2, (n + 39)), (2, (n + 40)), (3, 0), (0, 0), (3, 0), (3, 0), (0, 0), (1, 0)])) hk
  generalize hs82 : S81.set k (17, 0, [(0, 0), (0, 0), (2, n), (0, 0), (0, 0), (0, 0), (0, 0), (1, 0), (0, 0), (0, 0), (2, (n + 1)), (2, (n + 2)), (2, (n + 3)), (2, (n + 4)), (2, (n + 5)), (2, (n + 6)), (2, (n + 7)), (2, (n + 8)), (2, (n + 9)), (2, (n + 10)), (2, (n + 11)), (2, (n + 12)), (2, (n + 13)), (0, 0), (2, (n + 14)), (2, (n + 15)), (2, (n + 16)), (2, (n + 17)), (2, (n + 18)), (2, (n + 19)), (2, (n + 20)), (2, (n + 21)), (2, (n + 22)), (2, (n + 23)), (2, (n + 24)), (2, (n + 25)), (0, 0), (1, 0), (2, (n + 26)), (2, (n + 27)), (2, (n + 28)), (2, (n + 29)), (2, (n + 30)), (2, (n + 31)), (2, (n + 32)), (2, (n + 33)), (2, (n + 34)), (2, (n + 35)), (2, (n + 36)), (2, (n + 37)), (2, (n + 38)), (2, (n + 39)), (2, (n + 40)), (3, 0), (0, 0), (3, 0), (3, 0), (0, 0), (1, 0)]) = S82 at hk hg
  have hk := w_apk (x := (2, 4, [])) hk
  have hg : wG S (S82 ++ [(2, 4, [])]) n (n + 42) k := wG_app (t := 2) (N := 4) (fs := []) hg (by simp)
  generalize hs83 : S82 ++ [(2, 4, [])] = S83 at hk hg
  have hg : wG S (S83.set k (17, 0, [(0, 0), (0, 0), (2, n), (0, 0), (0, 0), (0, 0), (0, 0), (1, 0), (0, 0), (0, 0), (2, (n + 1)), (2, (n + 2)), (2, (n + 3)), (2, (n + 4)), (2, (n + 5)), (2, (n + 6)), (2, (n + 7)), (2, (n + 8)), (2, (n + 9)), (2, (n + 10)), (2, (n + 11)), (2, (n + 12)), (2, (n + 13)), (0, 0), (2, (n + 14)), (2, (n + 15)), (2, (n + 16)), (2, (n + 17)), (2, (n + 18)), (2, (n + 19)), (2, (n + 20)), (2, (n + 21)), (2, (n + 22)), (2, (n + 23)), (2, (n + 24)), (2, (n + 25)), (0, 0), (1, 0), (2, (n + 26)), (2, (n + 27)), (2, (n + 28)), (2, (n + 29)), (2, (n + 30)), (2, (n + 31)), (2, (n + 32)), (2, (n + 33)), (2, (n + 34)), (2, (n + 35)), (2, (n + 36)), (2, (n + 37)), (2, (n + 38)), (2, (n + 39)), (2, (n + 40)), (2, (n + 41)), (0, 0), (3, 0), (3, 0), (0, 0), (1, 0)])) n (n + 42) k := wG_set2 (j := 53) (r := (n + 41)) hg hk (by omega) (Or.inl rfl) rfl
  have hk := w_stk (x := (17, 0, [(0, 0), (0, 0), (2, n), (0, 0), (0, 0), (0, 0), (0, 0), (1, 0), (0, 0), (0, 0), (2, (n + 1)), (2, (n + 2)), (2, (n + 3)), (2, (n + 4)), (2, (n + 5)), (2, (n + 6)), (2, (n + 7)), (2, (n + 8)), (2, (n + 9)), (2, (n + 10)), (2, (n + 11)), (2, (n + 12)), (2, (n + 13)), (0, 0), (2, (n + 14)), (2, (n + 15)), (2, (n + 16)), (2, (n + 17)), (2, (n + 18)), (2, (n + 19)), (2, (n + 20)), (2, (n + 21)), (2, (n + 22)), (2, (n + 23)), (2, (n + 24)), (2, (n + 25)), (0, 0), (1, 0), (2, (n + 26)), (2, (n + 27)), (2, (n + 28)), (2, (n + 29)), (2, (n + 30)), (2, (n + 31)), (2, (n + 32)), (2, (n + 33)), (2, (n + 34)), (2, (n + 35)), (2, (n + 36)), (2, (n + 37)), (2, (n + 38)), (2, (n + 39)), (2, (n + 40)), (2, (n + 41)), (0, 0), (3, 0), (3, 0), (0, 0), (1, 0)])) hk
  generalize hs84 : S83.set k (17, 0, [(0, 0), (0, 0), (2, n), (0, 0), (0, 0), (0, 0), (0, 0), (1, 0), (0, 0), (0, 0), (2, (n + 1)), (2, (n + 2)), (2, (n + 3)), (2, (n + 4)), (2, (n + 5)), (2, (n + 6)), (2, (n + 7)), (2, (n + 8)), (2, (n + 9)), (2, (n + 10)), (2, (n + 11)), (2, (n + 12)), (2, (n + 13)), (0, 0), (2, (n + 14)), (2, (n + 15)), (2, (n + 16)), (2, (n + 17)), (2, (n + 18)), (2, (n + 19)), (2, (n + 20)), (2, (n + 21)), (2, (n + 22)), (2, (n + 23)), (2, (n + 24)), (2, (n + 25)), (0, 0), (1, 0), (2, (n + 26)), (2, (n + 27)), (2, (n + 28)), (2, (n + 29)), (2, (n + 30)), (2, (n + 31)), (2, (n + 32)), (2, (n + 33)), (2, (n + 34)), (2, (n + 35)), (2, (n + 36)), (2, (n + 37)), (2, (n + 38)), (2, (n + 39)), (2, (n + 40)), (2, (n + 41)), (0, 0), (3, 0), (3, 0), (0, 0), (1, 0)]) = S84 at hk hg
  have hk := w_apk (x := (0, 6, [])) hk
  have hg : wG S (S84 ++ [(0, 6, [])]) n (n + 43) k := wG_app (t := 0) (N := 6) (fs := []) hg (by simp)
  generalize hs85 : S84 ++ [(0, 6, [])] = S85 at hk hg
  have hg : wG S (S85.set k (17, 0, [(0, 0), (0, 0), (2, n), (0, 0), (0, 0), (0, 0), (0, 0), (1, 0), (0, 0), (0, 0), (2, (n + 1)), (2, (n + 2)), (2, (n + 3)), (2, (n + 4)), (2, (n + 5)), (2, (n + 6)), (2, (n + 7)), (2, (n + 8)), (2, (n + 9)), (2, (n + 10)), (2, (n + 11)), (2, (n + 12)), (2, (n + 13)), (0, 0), (2, (n + 14)), (2, (n + 15)), (2, (n + 16)), (2, (n + 17)), (2, (n + 18)), (2, (n + 19)), (2, (n + 20)), (2, (n + 21)), (2, (n + 22)), (2, (n + 23)), (2, (n + 24)), (2, (n + 25)), (0, 0), (1, 0), (2, (n + 26)), (2, (n + 27)), (2, (n + 28)), (2, (n + 29)), (2, (n + 30)), (2, (n + 31)), (2, (n + 32)), (2, (n + 33)), (2, (n + 34)), (2, (n + 35)), (2, (n + 36)), (2, (n + 37)), (2, (n + 38)), (2, (n + 39)), (2, (n + 40)), (2, (n + 41)), (0, 0), (2, (n + 42)), (3, 0), (0, 0), (1, 0)])) n (n + 43) k := wG_set2 (j := 55) (r := (n + 42)) hg hk (by omega) (Or.inl rfl) rfl
  have hk := w_stk (x := (17, 0, [(0, 0), (0, 0), (2, n), (0, 0), (0, 0), (0, 0), (0, 0), (1, 0), (0, 0), (0, 0), (2, (n + 1)), (2, (n + 2)), (2, (n + 3)), (2, (n + 4)), (2, (n + 5)), (2, (n + 6)), (2, (n + 7)), (2, (n + 8)), (2, (n + 9)), (2, (n + 10)), (2, (n + 11)), (2, (n + 12)), (2, (n + 13)), (0, 0), (2, (n + 14)), (2, (n + 15)), (2, (n + 16)), (2, (n + 17)), (2, (n + 18)), (2, (n + 19)), (2, (n + 20)), (2, (n + 21)), (2, (n + 22)), (2, (n + 23)), (2, (n + 24)), (2, (n + 25)), (0, 0), (1, 0), (2, (n + 26)), (2, (n + 27)), (2, (n + 28)), (2, (n + 29)), (2, (n + 30)), (2, (n + 31)), (2, (n + 32)), (2, (n + 33)), (2, (n + 34)), (2, (n + 35)), (2, (n + 36)), (2, (n + 37)), (2, (n + 38)), (2, (n + 39)), (2, (n + 40)), (2, (n + 41)), (0, 0), (2, (n + 42)), (3, 0), (0, 0), (1, 0)])) hk
  generalize hs86 : S85.set k (17, 0, [(0, 0), (0, 0), (2, n), (0, 0), (0, 0), (0, 0), (0, 0), (1, 0), (0, 0), (0, 0), (2, (n + 1)), (2, (n + 2)), (2, (n + 3)), (2, (n + 4)), (2, (n + 5)), (2, (n + 6)), (2, (n + 7)), (2, (n + 8)), (2, (n + 9)), (2, (n + 10)), (2, (n + 11)), (2, (n + 12)), (2, (n + 13)), (0, 0), (2, (n + 14)), (2, (n + 15)), (2, (n + 16)), (2, (n + 17)), (2, (n + 18)), (2, (n + 19)), (2, (n + 20)), (2, (n + 21)), (2, (n + 22)), (2, (n + 23)), (2, (n + 24)), (2, (n + 25)), (0, 0), (1, 0), (2, (n + 26)), (2, (n + 27)), (2, (n + 28)), (2, (n + 29)), (2, (n + 30)), (2, (n + 31)), (2, (n + 32)), (2, (n + 33)), (2, (n + 34)), (2, (n + 35)), (2, (n + 36)), (2, (n + 37)), (2, (n + 38)), (2, (n + 39)), (2, (n + 40)), (2, (n + 41)), (0, 0), (2, (n + 42)), (3, 0), (0, 0), (1, 0)]) = S86 at hk hg
  have hk := w_apk (x := (0, 6, [])) hk
  have hg : wG S (S86 ++ [(0, 6, [])]) n (n + 44) k := wG_app (t := 0) (N := 6) (fs := []) hg (by simp)
  generalize hs87 : S86 ++ [(0, 6, [])] = S87 at hk hg
  have hg : wG S (S87.set k (17, 0, [(0, 0), (0, 0), (2, n), (0, 0), (0, 0), (0, 0), (0, 0), (1, 0), (0, 0), (0, 0), (2, (n + 1)), (2, (n + 2)), (2, (n + 3)), (2, (n + 4)), (2, (n + 5)), (2, (n + 6)), (2, (n + 7)), (2, (n + 8)), (2, (n + 9)), (2, (n + 10)), (2, (n + 11)), (2, (n + 12)), (2, (n + 13)), (0, 0), (2, (n + 14)), (2, (n + 15)), (2, (n + 16)), (2, (n + 17)), (2, (n + 18)), (2, (n + 19)), (2, (n + 20)), (2, (n + 21)), (2, (n + 22)), (2, (n + 23)), (2, (n + 24)), (2, (n + 25)), (0, 0), (1, 0), (2, (n + 26)), (2, (n + 27)), (2, (n + 28)), (2, (n + 29)), (2, (n + 30)), (2, (n + 31)), (2, (n + 32)), (2, (n + 33)), (2, (n + 34)), (2, (n + 35)), (2, (n + 36)), (2, (n + 37)), (2, (n + 38)), (2, (n + 39)), (2, (n + 40)), (2, (n + 41)), (0, 0), (2, (n + 42)), (2, (n + 43)), (0, 0), (1, 0)])) n (n + 44) k := wG_set2 (j := 56) (r := (n + 43)) hg hk (by omega) (Or.inl rfl) rfl
  have hk := w_stk (x := (17, 0, [(0, 0), (0, 0), (2, n), (0, 0), (0, 0), (0, 0), (0, 0), (1, 0), (0, 0), (0, 0), (2, (n + 1)), (2, (n + 2)), (2, (n + 3)), (2, (n + 4)), (2, (n + 5)), (2, (n + 6)), (2, (n + 7)), (2, (n + 8)), (2, (n + 9)), (2, (n + 10)), (2, (n + 11)), (2, (n + 12)), (2, (n + 13)), (0, 0), (2, (n + 14)), (2, (n + 15)), (2, (n + 16)), (2, (n + 17)), (2, (n + 18)), (2, (n + 19)), (2, (n + 20)), (2, (n + 21)), (2, (n + 22)), (2, (n + 23)), (2, (n + 24)), (2, (n + 25)), (0, 0), (1, 0), (2, (n + 26)), (2, (n + 27)), (2, (n + 28)), (2, (n + 29)), (2, (n + 30)), (2, (n + 31)), (2, (n + 32)), (2, (n + 33)), (2, (n + 34)), (2, (n + 35)), (2, (n + 36)), (2, (n + 37)), (2, (n + 38)), (2, (n + 39)), (2, (n + 40)), (2, (n + 41)), (0, 0), (2, (n + 42)), (2, (n + 43)), (0, 0), (1, 0)])) hk
  generalize hs88 : S87.set k (17, 0, [(0, 0), (0, 0), (2, n), (0, 0), (0, 0), (0, 0), (0, 0), (1, 0), (0, 0), (0, 0), (2, (n + 1)), (2, (n + 2)), (2, (n + 3)), (2, (n + 4)), (2, (n + 5)), (2, (n + 6)), (2, (n + 7)), (2, (n + 8)), (2, (n + 9)), (2, (n + 10)), (2, (n + 11)), (2, (n + 12)), (2, (n + 13)), (0, 0), (2, (n + 14)), (2, (n + 15)), (2, (n + 16)), (2, (n + 17)), (2, (n + 18)), (2, (n + 19)), (2, (n + 20)), (2, (n + 21)), (2, (n + 22)), (2, (n + 23)), (2, (n + 24)), (2, (n + 25)), (0, 0), (1, 0), (2, (n + 26)), (2, (n + 27)), (2, (n + 28)), (2, (n + 29)), (2, (n + 30)), (2, (n + 31)), (2, (n + 32)), (2, (n + 33)), (2, (n + 34)), (2, (n + 35)), (2, (n + 36)), (2, (n + 37)), (2, (n + 38)), (2, (n + 39)), (2, (n + 40)), (2, (n + 41)), (0, 0), (2, (n + 42)), (2, (n + 43)), (0, 0), (1, 0)]) = S88 at hk hg
  subst hs1
  subst hs2
  subst hs3
  subst hs4
  subst hs5
  subst hs6
  subst hs7
  subst hs8
  subst hs9
  subst hs10
  subst hs11
  subst hs12
  subst hs13
  subst hs14
  subst hs15
  subst hs16
  subst hs17
  subst hs18
  subst hs19
  subst hs20
  subst hs21
  subst hs22
  subst hs23
  subst hs24
  subst hs25
  subst hs26
  subst hs27
  subst hs28
  subst hs29
  subst hs30
  subst hs31
  subst hs32
  subst hs33
  subst hs34
  subst hs35
  subst hs36
  subst hs37
  subst hs38
  subst hs39
  subst hs40
  subst hs41
  subst hs42
  subst hs43
  subst hs44
  subst hs45
  subst hs46
  subst hs47
  subst hs48
  subst hs49
  subst hs50
  subst hs51
  subst hs52
  subst hs53
  subst hs54
  subst hs55
  subst hs56
  subst hs57
  subst hs58
  subst hs59
  subst hs60
  subst hs61
  subst hs62
  subst hs63
  subst hs64
  subst hs65
  subst hs66
  subst hs67
  subst hs68
  subst hs69
  subst hs70
  subst hs71
  subst hs72
  subst hs73
  subst hs74
  subst hs75
  subst hs76
  subst hs77
  subst hs78
  subst hs79
  subst hs80
  subst hs81
  subst hs82
  subst hs83
  subst hs84
  subst hs85
  subst hs86
  subst hs87
  subst hs88
  exact ⟨hg, hk⟩
theorem gX11 {S : List wSh} {n k : Nat} (hn : S.length = n) (hw : wWf S) (hk : S[k]? = some (17, 0, [(0, 0), (0, 0), (3, 0), (0, 0), (0, 0), (0, 0), (0, 0), (1, 0), (0, 0), (0, 0), (3, 0), (3, 0), (3, 0), (3, 0), (3, 0), (3, 0), (3, 0), (3, 0), (3, 0), (3, 0), (3, 0), (3, 0), (3, 0), (0, 0), (3, 0), (3, 0), (3, 0), (3, 0), (3, 0), (3, 0), (3, 0), (3, 0), (3, 0), (3, 0), (3, 0), (3, 0), (0, 0), (1, 0), (3, 0), (3, 0), (3, 0), (3, 0), (3, 0), (3, 0), (3, 0), (3, 0), (3, 0), (3, 0), (3, 0), (3, 0), (3, 0), (3, 0), (3, 0), (3, 0), (0, 0), (3, 0), (3, 0), (0, 0), (1, 0)])) : wG S (sX11 S n k) n (n + 44) k := (gqX11 hn hw hk).1
theorem qX11 {S : List wSh} {n k : Nat} (hn : S.length = n) (hw : wWf S) (hk : S[k]? = some (17, 0, [(0, 0), (0, 0), (3, 0), (0, 0), (0, 0), (0, 0), (0, 0), (1, 0), (0, 0), (0, 0), (3, 0), (3, 0), (3, 0), (3, 0), (3, 0), (3, 0), (3, 0), (3, 0), (3, 0), (3, 0), (3, 0), (3, 0), (3, 0), (0, 0), (3, 0), (3, 0), (3, 0), (3, 0), (3, 0), (3, 0), (3, 0), (3, 0), (3, 0), (3, 0), (3, 0), (3, 0), (0, 0), (1, 0), (3, 0), (3, 0), (3, 0), (3, 0), (3, 0), (3, 0), (3, 0), (3, 0), (3, 0), (3, 0), (3, 0), (3, 0), (3, 0), (3, 0), (3, 0), (3, 0), (0, 0), (3, 0), (3, 0), (0, 0), (1, 0)])) : (sX11 S n k)[k]? = some (17, 0, [(0, 0), (0, 0), (2, n), (0, 0), (0, 0), (0, 0), (0, 0), (1, 0), (0, 0), (0, 0), (2, (n + 1)), (2, (n + 2)), (2, (n + 3)), (2, (n + 4)), (2, (n + 5)), (2, (n + 6)), (2, (n + 7)), (2, (n + 8)), (2, (n + 9)), (2, (n + 10)), (2, (n + 11)), (2, (n + 12)), (2, (n + 13)), (0, 0), (2, (n + 14)), (2, (n + 15)), (2, (n + 16)), (2, (n + 17)), (2, (n + 18)), (2, (n + 19)), (2, (n + 20)), (2, (n + 21)), (2, (n + 22)), (2, (n + 23)), (2, (n + 24)), (2, (n + 25)), (0, 0), (1, 0), (2, (n + 26)), (2, (n + 27)), (2, (n + 28)), (2, (n + 29)), (2, (n + 30)), (2, (n + 31)), (2, (n + 32)), (2, (n + 33)), (2, (n + 34)), (2, (n + 35)), (2, (n + 36)), (2, (n + 37)), (2, (n + 38)), (2, (n + 39)), (2, (n + 40)), (2, (n + 41)), (0, 0), (2, (n + 42)), (2, (n + 43)), (0, 0), (1, 0)]) := (gqX11 hn hw hk).2
set_option maxRecDepth 20000 in
set_option maxHeartbeats 8000000 in
theorem iX11 (l : Launch) {S : List wSh} {n k : Nat} (hn : S.length = n) (hw : wWf S) (hk : S[k]? = some (17, 0, [(0, 0), (0, 0), (3, 0), (0, 0), (0, 0), (0, 0), (0, 0), (1, 0), (0, 0), (0, 0), (3, 0), (3, 0), (3, 0), (3, 0), (3, 0), (3, 0), (3, 0), (3, 0), (3, 0), (3, 0), (3, 0), (3, 0), (3, 0), (0, 0), (3, 0), (3, 0), (3, 0), (3, 0), (3, 0), (3, 0), (3, 0), (3, 0), (3, 0), (3, 0), (3, 0), (3, 0), (0, 0), (1, 0), (3, 0), (3, 0), (3, 0), (3, 0), (3, 0), (3, 0), (3, 0), (3, 0), (3, 0), (3, 0), (3, 0), (3, 0), (3, 0), (3, 0), (3, 0), (3, 0), (0, 0), (3, 0), (3, 0), (0, 0), (1, 0)])) (hn9 : n < 90000) : wCi l yX11_init cX11_init 1 1 44 4925 S n [.ref k] (sX11 S n k) := by
  have hkl : k < n := by rw [← hn]; exact (List.getElem?_eq_some_iff.mp hk).1
  refine w_methI 0 (by decide) (Nat.le_of_ble_eq_true rfl) (ls := [some (.ref k)]) rfl ?_
  intro p e s m args below meth c D dA b0 ad X hr hin
  have hg : wG S S n n k := wG_rf hn hw
  have ha : ∀ q, (q < n ∨ 99999 ≤ q) → ad q = ad q := fun _ _ => rfl
  refine w_aload_n X dX11_init_0 rfl rfl rfl ?_
  refine w_obj X dX11_init_1 rfl wd_1173 wd_31 wd_32 (Nat.le_of_ble_eq_true rfl) (Nat.le_of_ble_eq_true rfl) ?_
  refine w_aload_n X dX11_init_4 rfl rfl rfl ?_
  refine w_sipush X dX11_init_5 rfl cs_1000 ?_
  refine w_newaI X dX11_init_8 rfl wd_97 (by decide) (N := 1000) (by decide) (by decide) hg.2.2.1 hg.1 (by omega) (w_rl ⟨wRf_r (by omega), trivial⟩ ⟨wRf_r (by omega), trivial⟩) ⟨Nat.le_of_ble_eq_true rfl, Nat.le_of_ble_eq_true rfl⟩ (fun ad1 ha1 X => ?_)
  have ha : ∀ q, (q < n ∨ 99999 ≤ q) → ad1 q = ad q := fun q hq => (ha1 q (by omega)).trans (ha q hq)
  have hk := w_apk (x := (0, 1000, [])) hk
  have hg : wG S (S ++ [(0, 1000, [])]) n (n + 1) k := wG_app (t := 0) (N := 1000) (fs := []) hg (by simp)
  generalize hs1 : S ++ [(0, 1000, [])] = S1 at hk hg ⊢
  refine w_putR2 X dX11_init_10 rfl (ci := 11) (C := RX11) (T := TX11) (N := 59) (ty0 := tyX11) (ty := tyX11 2) (j := 2) rfl wcl_11 tyX11_ok nmX11 (by decide) wd_1176 rfl hin rfl (by decide +kernel) (fun _ => rfl) (fun _ => rfl) hk (Nat.le_of_ble_eq_true rfl) (fs2 := [(0, 0), (0, 0), (2, n), (0, 0), (0, 0), (0, 0), (0, 0), (1, 0), (0, 0), (0, 0), (3, 0), (3, 0), (3, 0), (3, 0), (3, 0), (3, 0), (3, 0), (3, 0), (3, 0), (3, 0), (3, 0), (3, 0), (3, 0), (0, 0), (3, 0), (3, 0), (3, 0), (3, 0), (3, 0), (3, 0), (3, 0), (3, 0), (3, 0), (3, 0), (3, 0), (3, 0), (0, 0), (1, 0), (3, 0), (3, 0), (3, 0), (3, 0), (3, 0), (3, 0), (3, 0), (3, 0), (3, 0), (3, 0), (3, 0), (3, 0), (3, 0), (3, 0), (3, 0), (3, 0), (0, 0), (3, 0), (3, 0), (0, 0), (1, 0)]) rfl ?_
  have hg : wG S (S1.set k (17, 0, [(0, 0), (0, 0), (2, n), (0, 0), (0, 0), (0, 0), (0, 0), (1, 0), (0, 0), (0, 0), (3, 0), (3, 0), (3, 0), (3, 0), (3, 0), (3, 0), (3, 0), (3, 0), (3, 0), (3, 0), (3, 0), (3, 0), (3, 0), (0, 0), (3, 0), (3, 0), (3, 0), (3, 0), (3, 0), (3, 0), (3, 0), (3, 0), (3, 0), (3, 0), (3, 0), (3, 0), (0, 0), (1, 0), (3, 0), (3, 0), (3, 0), (3, 0), (3, 0), (3, 0), (3, 0), (3, 0), (3, 0), (3, 0), (3, 0), (3, 0), (3, 0), (3, 0), (3, 0), (3, 0), (0, 0), (3, 0), (3, 0), (0, 0), (1, 0)])) n (n + 1) k := wG_set2 (j := 2) (r := n) hg hk (by omega) (Or.inl rfl) rfl
  have hk := w_stk (x := (17, 0, [(0, 0), (0, 0), (2, n), (0, 0), (0, 0), (0, 0), (0, 0), (1, 0), (0, 0), (0, 0), (3, 0), (3, 0), (3, 0), (3, 0), (3, 0), (3, 0), (3, 0), (3, 0), (3, 0), (3, 0), (3, 0), (3, 0), (3, 0), (0, 0), (3, 0), (3, 0), (3, 0), (3, 0), (3, 0), (3, 0), (3, 0), (3, 0), (3, 0), (3, 0), (3, 0), (3, 0), (0, 0), (1, 0), (3, 0), (3, 0), (3, 0), (3, 0), (3, 0), (3, 0), (3, 0), (3, 0), (3, 0), (3, 0), (3, 0), (3, 0), (3, 0), (3, 0), (3, 0), (3, 0), (0, 0), (3, 0), (3, 0), (0, 0), (1, 0)])) hk
  generalize hs2 : S1.set k (17, 0, [(0, 0), (0, 0), (2, n), (0, 0), (0, 0), (0, 0), (0, 0), (1, 0), (0, 0), (0, 0), (3, 0), (3, 0), (3, 0), (3, 0), (3, 0), (3, 0), (3, 0), (3, 0), (3, 0), (3, 0), (3, 0), (3, 0), (3, 0), (0, 0), (3, 0), (3, 0), (3, 0), (3, 0), (3, 0), (3, 0), (3, 0), (3, 0), (3, 0), (3, 0), (3, 0), (3, 0), (0, 0), (1, 0), (3, 0), (3, 0), (3, 0), (3, 0), (3, 0), (3, 0), (3, 0), (3, 0), (3, 0), (3, 0), (3, 0), (3, 0), (3, 0), (3, 0), (3, 0), (3, 0), (0, 0), (3, 0), (3, 0), (0, 0), (1, 0)]) = S2 at hk hg ⊢
  refine w_aload_n X dX11_init_13 rfl rfl rfl ?_
  refine w_bipush X dX11_init_14 rfl cb_6 ?_
  refine w_newaI X dX11_init_16 rfl wd_97 (by decide) (N := 6) (by decide) (by decide) hg.2.2.1 hg.1 (by omega) (w_rl ⟨wRf_r (by omega), trivial⟩ ⟨wRf_r (by omega), trivial⟩) ⟨Nat.le_of_ble_eq_true rfl, Nat.le_of_ble_eq_true rfl⟩ (fun ad2 ha2 X => ?_)
  have ha : ∀ q, (q < n ∨ 99999 ≤ q) → ad2 q = ad q := fun q hq => (ha2 q (by omega)).trans (ha q hq)
  have hk := w_apk (x := (0, 6, [])) hk
  have hg : wG S (S2 ++ [(0, 6, [])]) n (n + 2) k := wG_app (t := 0) (N := 6) (fs := []) hg (by simp)
  generalize hs3 : S2 ++ [(0, 6, [])] = S3 at hk hg ⊢
  refine w_putR2 X dX11_init_18 rfl (ci := 11) (C := RX11) (T := TX11) (N := 59) (ty0 := tyX11) (ty := tyX11 10) (j := 10) rfl wcl_11 tyX11_ok nmX11 (by decide) wd_1184 rfl hin rfl (by decide +kernel) (fun _ => rfl) (fun _ => rfl) hk (Nat.le_of_ble_eq_true rfl) (fs2 := [(0, 0), (0, 0), (2, n), (0, 0), (0, 0), (0, 0), (0, 0), (1, 0), (0, 0), (0, 0), (2, (n + 1)), (3, 0), (3, 0), (3, 0), (3, 0), (3, 0), (3, 0), (3, 0), (3, 0), (3, 0), (3, 0), (3, 0), (3, 0), (0, 0), (3, 0), (3, 0), (3, 0), (3, 0), (3, 0), (3, 0), (3, 0), (3, 0), (3, 0), (3, 0), (3, 0), (3, 0), (0, 0), (1, 0), (3, 0), (3, 0), (3, 0), (3, 0), (3, 0), (3, 0), (3, 0), (3, 0), (3, 0), (3, 0), (3, 0), (3, 0), (3, 0), (3, 0), (3, 0), (3, 0), (0, 0), (3, 0), (3, 0), (0, 0), (1, 0)]) rfl ?_
  have hg : wG S (S3.set k (17, 0, [(0, 0), (0, 0), (2, n), (0, 0), (0, 0), (0, 0), (0, 0), (1, 0), (0, 0), (0, 0), (2, (n + 1)), (3, 0), (3, 0), (3, 0), (3, 0), (3, 0), (3, 0), (3, 0), (3, 0), (3, 0), (3, 0), (3, 0), (3, 0), (0, 0), (3, 0), (3, 0), (3, 0), (3, 0), (3, 0), (3, 0), (3, 0), (3, 0), (3, 0), (3, 0), (3, 0), (3, 0), (0, 0), (1, 0), (3, 0), (3, 0), (3, 0), (3, 0), (3, 0), (3, 0), (3, 0), (3, 0), (3, 0), (3, 0), (3, 0), (3, 0), (3, 0), (3, 0), (3, 0), (3, 0), (0, 0), (3, 0), (3, 0), (0, 0), (1, 0)])) n (n + 2) k := wG_set2 (j := 10) (r := (n + 1)) hg hk (by omega) (Or.inl rfl) rfl
  have hk := w_stk (x := (17, 0, [(0, 0), (0, 0), (2, n), (0, 0), (0, 0), (0, 0), (0, 0), (1, 0), (0, 0), (0, 0), (2, (n + 1)), (3, 0), (3, 0), (3, 0), (3, 0), (3, 0), (3, 0), (3, 0), (3, 0), (3, 0), (3, 0), (3, 0), (3, 0), (0, 0), (3, 0), (3, 0), (3, 0), (3, 0), (3, 0), (3, 0), (3, 0), (3, 0), (3, 0), (3, 0), (3, 0), (3, 0), (0, 0), (1, 0), (3, 0), (3, 0), (3, 0), (3, 0), (3, 0), (3, 0), (3, 0), (3, 0), (3, 0), (3, 0), (3, 0), (3, 0), (3, 0), (3, 0), (3, 0), (3, 0), (0, 0), (3, 0), (3, 0), (0, 0), (1, 0)])) hk
  generalize hs4 : S3.set k (17, 0, [(0, 0), (0, 0), (2, n), (0, 0), (0, 0), (0, 0), (0, 0), (1, 0), (0, 0), (0, 0), (2, (n + 1)), (3, 0), (3, 0), (3, 0), (3, 0), (3, 0), (3, 0), (3, 0), (3, 0), (3, 0), (3, 0), (3, 0), (3, 0), (0, 0), (3, 0), (3, 0), (3, 0), (3, 0), (3, 0), (3, 0), (3, 0), (3, 0), (3, 0), (3, 0), (3, 0), (3, 0), (0, 0), (1, 0), (3, 0), (3, 0), (3, 0), (3, 0), (3, 0), (3, 0), (3, 0), (3, 0), (3, 0), (3, 0), (3, 0), (3, 0), (3, 0), (3, 0), (3, 0), (3, 0), (0, 0), (3, 0), (3, 0), (0, 0), (1, 0)]) = S4 at hk hg ⊢
  refine w_aload_n X dX11_init_21 rfl rfl rfl ?_
  refine w_bipush X dX11_init_22 rfl cb_6 ?_
  refine w_newaJ X dX11_init_24 rfl wd_96 (by decide) (N := 6) (by decide) (by decide) hg.2.2.1 hg.1 (by omega) (w_rl ⟨wRf_r (by omega), trivial⟩ ⟨wRf_r (by omega), trivial⟩) ⟨Nat.le_of_ble_eq_true rfl, Nat.le_of_ble_eq_true rfl⟩ (fun ad3 ha3 X => ?_)
  have ha : ∀ q, (q < n ∨ 99999 ≤ q) → ad3 q = ad q := fun q hq => (ha3 q (by omega)).trans (ha q hq)
  have hk := w_apk (x := (3, 6, [])) hk
  have hg : wG S (S4 ++ [(3, 6, [])]) n (n + 3) k := wG_app (t := 3) (N := 6) (fs := []) hg (by simp)
  generalize hs5 : S4 ++ [(3, 6, [])] = S5 at hk hg ⊢
  refine w_putR2 X dX11_init_26 rfl (ci := 11) (C := RX11) (T := TX11) (N := 59) (ty0 := tyX11) (ty := tyX11 11) (j := 11) rfl wcl_11 tyX11_ok nmX11 (by decide) wd_1185 rfl hin rfl (by decide +kernel) (fun _ => rfl) (fun _ => rfl) hk (Nat.le_of_ble_eq_true rfl) (fs2 := [(0, 0), (0, 0), (2, n), (0, 0), (0, 0), (0, 0), (0, 0), (1, 0), (0, 0), (0, 0), (2, (n + 1)), (2, (n + 2)), (3, 0), (3, 0), (3, 0), (3, 0), (3, 0), (3, 0), (3, 0), (3, 0), (3, 0), (3, 0), (3, 0), (0, 0), (3, 0), (3, 0), (3, 0), (3, 0), (3, 0), (3, 0), (3, 0), (3, 0), (3, 0), (3, 0), (3, 0), (3, 0), (0, 0), (1, 0), (3, 0), (3, 0), (3, 0), (3, 0), (3, 0), (3, 0), (3, 0), (3, 0), (3, 0), (3, 0), (3, 0), (3, 0), (3, 0), (3, 0), (3, 0), (3, 0), (0, 0), (3, 0), (3, 0), (0, 0), (1, 0)]) rfl ?_
  have hg : wG S (S5.set k (17, 0, [(0, 0), (0, 0), (2, n), (0, 0), (0, 0), (0, 0), (0, 0), (1, 0), (0, 0), (0, 0), (2, (n + 1)), (2, (n + 2)), (3, 0), (3, 0), (3, 0), (3, 0), (3, 0), (3, 0), (3, 0), (3, 0), (3, 0), (3, 0), (3, 0), (0, 0), (3, 0), (3, 0), (3, 0), (3, 0), (3, 0), (3, 0), (3, 0), (3, 0), (3, 0), (3, 0), (3, 0), (3, 0), (0, 0), (1, 0), (3, 0), (3, 0), (3, 0), (3, 0), (3, 0), (3, 0), (3, 0), (3, 0), (3, 0), (3, 0), (3, 0), (3, 0), (3, 0), (3, 0), (3, 0), (3, 0), (0, 0), (3, 0), (3, 0), (0, 0), (1, 0)])) n (n + 3) k := wG_set2 (j := 11) (r := (n + 2)) hg hk (by omega) (Or.inl rfl) rfl
  have hk := w_stk (x := (17, 0, [(0, 0), (0, 0), (2, n), (0, 0), (0, 0), (0, 0), (0, 0), (1, 0), (0, 0), (0, 0), (2, (n + 1)), (2, (n + 2)), (3, 0), (3, 0), (3, 0), (3, 0), (3, 0), (3, 0), (3, 0), (3, 0), (3, 0), (3, 0), (3, 0), (0, 0), (3, 0), (3, 0), (3, 0), (3, 0), (3, 0), (3, 0), (3, 0), (3, 0), (3, 0), (3, 0), (3, 0), (3, 0), (0, 0), (1, 0), (3, 0), (3, 0), (3, 0), (3, 0), (3, 0), (3, 0), (3, 0), (3, 0), (3, 0), (3, 0), (3, 0), (3, 0), (3, 0), (3, 0), (3, 0), (3, 0), (0, 0), (3, 0), (3, 0), (0, 0), (1, 0)])) hk
  generalize hs6 : S5.set k (17, 0, [(0, 0), (0, 0), (2, n), (0, 0), (0, 0), (0, 0), (0, 0), (1, 0), (0, 0), (0, 0), (2, (n + 1)), (2, (n + 2)), (3, 0), (3, 0), (3, 0), (3, 0), (3, 0), (3, 0), (3, 0), (3, 0), (3, 0), (3, 0), (3, 0), (0, 0), (3, 0), (3, 0), (3, 0), (3, 0), (3, 0), (3, 0), (3, 0), (3, 0), (3, 0), (3, 0), (3, 0), (3, 0), (0, 0), (1, 0), (3, 0), (3, 0), (3, 0), (3, 0), (3, 0), (3, 0), (3, 0), (3, 0), (3, 0), (3, 0), (3, 0), (3, 0), (3, 0), (3, 0), (3, 0), (3, 0), (0, 0), (3, 0), (3, 0), (0, 0), (1, 0)]) = S6 at hk hg ⊢
  refine w_aload_n X dX11_init_29 rfl rfl rfl ?_
  refine w_bipush X dX11_init_30 rfl cb_12 ?_
  refine w_newaJ X dX11_init_32 rfl wd_96 (by decide) (N := 12) (by decide) (by decide) hg.2.2.1 hg.1 (by omega) (w_rl ⟨wRf_r (by omega), trivial⟩ ⟨wRf_r (by omega), trivial⟩) ⟨Nat.le_of_ble_eq_true rfl, Nat.le_of_ble_eq_true rfl⟩ (fun ad4 ha4 X => ?_)
  have ha : ∀ q, (q < n ∨ 99999 ≤ q) → ad4 q = ad q := fun q hq => (ha4 q (by omega)).trans (ha q hq)
  have hk := w_apk (x := (3, 12, [])) hk
  have hg : wG S (S6 ++ [(3, 12, [])]) n (n + 4) k := wG_app (t := 3) (N := 12) (fs := []) hg (by simp)
  generalize hs7 : S6 ++ [(3, 12, [])] = S7 at hk hg ⊢
  refine w_putR2 X dX11_init_34 rfl (ci := 11) (C := RX11) (T := TX11) (N := 59) (ty0 := tyX11) (ty := tyX11 12) (j := 12) rfl wcl_11 tyX11_ok nmX11 (by decide) wd_1186 rfl hin rfl (by decide +kernel) (fun _ => rfl) (fun _ => rfl) hk (Nat.le_of_ble_eq_true rfl) (fs2 := [(0, 0), (0, 0), (2, n), (0, 0), (0, 0), (0, 0), (0, 0), (1, 0), (0, 0), (0, 0), (2, (n + 1)), (2, (n + 2)), (2, (n + 3)), (3, 0), (3, 0), (3, 0), (3, 0), (3, 0), (3, 0), (3, 0), (3, 0), (3, 0), (3, 0), (0, 0), (3, 0), (3, 0), (3, 0), (3, 0), (3, 0), (3, 0), (3, 0), (3, 0), (3, 0), (3, 0), (3, 0), (3, 0), (0, 0), (1, 0), (3, 0), (3, 0), (3, 0), (3, 0), (3, 0), (3, 0), (3, 0), (3, 0), (3, 0), (3, 0), (3, 0), (3, 0), (3, 0), (3, 0), (3, 0), (3, 0), (0, 0), (3, 0), (3, 0), (0, 0), (1, 0)]) rfl ?_
  have hg : wG S (S7.set k (17, 0, [(0, 0), (0, 0), (2, n), (0, 0), (0, 0), (0, 0), (0, 0), (1, 0), (0, 0), (0, 0), (2, (n + 1)), (2, (n + 2)), (2, (n + 3)), (3, 0), (3, 0), (3, 0), (3, 0), (3, 0), (3, 0), (3, 0), (3, 0), (3, 0), (3, 0), (0, 0), (3, 0), (3, 0), (3, 0), (3, 0), (3, 0), (3, 0), (3, 0), (3, 0), (3, 0), (3, 0), (3, 0), (3, 0), (0, 0), (1, 0), (3, 0), (3, 0), (3, 0), (3, 0), (3, 0), (3, 0), (3, 0), (3, 0), (3, 0), (3, 0), (3, 0), (3, 0), (3, 0), (3, 0), (3, 0), (3, 0), (0, 0), (3, 0), (3, 0), (0, 0), (1, 0)])) n (n + 4) k := wG_set2 (j := 12) (r := (n + 3)) hg hk (by omega) (Or.inl rfl) rfl
  have hk := w_stk (x := (17, 0, [(0, 0), (0, 0), (2, n), (0, 0), (0, 0), (0, 0), (0, 0), (1, 0), (0, 0), (0, 0), (2, (n + 1)), (2, (n + 2)), (2, (n + 3)), (3, 0), (3, 0), (3, 0), (3, 0), (3, 0), (3, 0), (3, 0), (3, 0), (3, 0), (3, 0), (0, 0), (3, 0), (3, 0), (3, 0), (3, 0), (3, 0), (3, 0), (3, 0), (3, 0), (3, 0), (3, 0), (3, 0), (3, 0), (0, 0), (1, 0), (3, 0), (3, 0), (3, 0), (3, 0), (3, 0), (3, 0), (3, 0), (3, 0), (3, 0), (3, 0), (3, 0), (3, 0), (3, 0), (3, 0), (3, 0), (3, 0), (0, 0), (3, 0), (3, 0), (0, 0), (1, 0)])) hk
  generalize hs8 : S7.set k (17, 0, [(0, 0), (0, 0), (2, n), (0, 0), (0, 0), (0, 0), (0, 0), (1, 0), (0, 0), (0, 0), (2, (n + 1)), (2, (n + 2)), (2, (n + 3)), (3, 0), (3, 0), (3, 0), (3, 0), (3, 0), (3, 0), (3, 0), (3, 0), (3, 0), (3, 0), (0, 0), (3, 0), (3, 0), (3, 0), (3, 0), (3, 0), (3, 0), (3, 0), (3, 0), (3, 0), (3, 0), (3, 0), (3, 0), (0, 0), (1, 0), (3, 0), (3, 0), (3, 0), (3, 0), (3, 0), (3, 0), (3, 0), (3, 0), (3, 0), (3, 0), (3, 0), (3, 0), (3, 0), (3, 0), (3, 0), (3, 0), (0, 0), (3, 0), (3, 0), (0, 0), (1, 0)]) = S8 at hk hg ⊢
  refine w_aload_n X dX11_init_37 rfl rfl rfl ?_
  refine w_bipush X dX11_init_38 rfl cb_6 ?_
  refine w_newaI X dX11_init_40 rfl wd_97 (by decide) (N := 6) (by decide) (by decide) hg.2.2.1 hg.1 (by omega) (w_rl ⟨wRf_r (by omega), trivial⟩ ⟨wRf_r (by omega), trivial⟩) ⟨Nat.le_of_ble_eq_true rfl, Nat.le_of_ble_eq_true rfl⟩ (fun ad5 ha5 X => ?_)
  have ha : ∀ q, (q < n ∨ 99999 ≤ q) → ad5 q = ad q := fun q hq => (ha5 q (by omega)).trans (ha q hq)
  have hk := w_apk (x := (0, 6, [])) hk
  have hg : wG S (S8 ++ [(0, 6, [])]) n (n + 5) k := wG_app (t := 0) (N := 6) (fs := []) hg (by simp)
  generalize hs9 : S8 ++ [(0, 6, [])] = S9 at hk hg ⊢
  refine w_putR2 X dX11_init_42 rfl (ci := 11) (C := RX11) (T := TX11) (N := 59) (ty0 := tyX11) (ty := tyX11 13) (j := 13) rfl wcl_11 tyX11_ok nmX11 (by decide) wd_1187 rfl hin rfl (by decide +kernel) (fun _ => rfl) (fun _ => rfl) hk (Nat.le_of_ble_eq_true rfl) (fs2 := [(0, 0), (0, 0), (2, n), (0, 0), (0, 0), (0, 0), (0, 0), (1, 0), (0, 0), (0, 0), (2, (n + 1)), (2, (n + 2)), (2, (n + 3)), (2, (n + 4)), (3, 0), (3, 0), (3, 0), (3, 0), (3, 0), (3, 0), (3, 0), (3, 0), (3, 0), (0, 0), (3, 0), (3, 0), (3, 0), (3, 0), (3, 0), (3, 0), (3, 0), (3, 0), (3, 0), (3, 0), (3, 0), (3, 0), (0, 0), (1, 0), (3, 0), (3, 0), (3, 0), (3, 0), (3, 0), (3, 0), (3, 0), (3, 0), (3, 0), (3, 0), (3, 0), (3, 0), (3, 0), (3, 0), (3, 0), (3, 0), (0, 0), (3, 0), (3, 0), (0, 0), (1, 0)]) rfl ?_
  have hg : wG S (S9.set k (17, 0, [(0, 0), (0, 0), (2, n), (0, 0), (0, 0), (0, 0), (0, 0), (1, 0), (0, 0), (0, 0), (2, (n + 1)), (2, (n + 2)), (2, (n + 3)), (2, (n + 4)), (3, 0), (3, 0), (3, 0), (3, 0), (3, 0), (3, 0), (3, 0), (3, 0), (3, 0), (0, 0), (3, 0), (3, 0), (3, 0), (3, 0), (3, 0), (3, 0), (3, 0), (3, 0), (3, 0), (3, 0), (3, 0), (3, 0), (0, 0), (1, 0), (3, 0), (3, 0), (3, 0), (3, 0), (3, 0), (3, 0), (3, 0), (3, 0), (3, 0), (3, 0), (3, 0), (3, 0), (3, 0), (3, 0), (3, 0), (3, 0), (0, 0), (3, 0), (3, 0), (0, 0), (1, 0)])) n (n + 5) k := wG_set2 (j := 13) (r := (n + 4)) hg hk (by omega) (Or.inl rfl) rfl
  have hk := w_stk (x := (17, 0, [(0, 0), (0, 0), (2, n), (0, 0), (0, 0), (0, 0), (0, 0), (1, 0), (0, 0), (0, 0), (2, (n + 1)), (2, (n + 2)), (2, (n + 3)), (2, (n + 4)), (3, 0), (3, 0), (3, 0), (3, 0), (3, 0), (3, 0), (3, 0), (3, 0), (3, 0), (0, 0), (3, 0), (3, 0), (3, 0), (3, 0), (3, 0), (3, 0), (3, 0), (3, 0), (3, 0), (3, 0), (3, 0), (3, 0), (0, 0), (1, 0), (3, 0), (3, 0), (3, 0), (3, 0), (3, 0), (3, 0), (3, 0), (3, 0), (3, 0), (3, 0), (3, 0), (3, 0), (3, 0), (3, 0), (3, 0), (3, 0), (0, 0), (3, 0), (3, 0), (0, 0), (1, 0)])) hk
  generalize hs10 : S9.set k (17, 0, [(0, 0), (0, 0), (2, n), (0, 0), (0, 0), (0, 0), (0, 0), (1, 0), (0, 0), (0, 0), (2, (n + 1)), (2, (n + 2)), (2, (n + 3)), (2, (n + 4)), (3, 0), (3, 0), (3, 0), (3, 0), (3, 0), (3, 0), (3, 0), (3, 0), (3, 0), (0, 0), (3, 0), (3, 0), (3, 0), (3, 0), (3, 0), (3, 0), (3, 0), (3, 0), (3, 0), (3, 0), (3, 0), (3, 0), (0, 0), (1, 0), (3, 0), (3, 0), (3, 0), (3, 0), (3, 0), (3, 0), (3, 0), (3, 0), (3, 0), (3, 0), (3, 0), (3, 0), (3, 0), (3, 0), (3, 0), (3, 0), (0, 0), (3, 0), (3, 0), (0, 0), (1, 0)]) = S10 at hk hg ⊢
  refine w_aload_n X dX11_init_45 rfl rfl rfl ?_
  refine w_bipush X dX11_init_46 rfl cb_6 ?_
  refine w_newaI X dX11_init_48 rfl wd_97 (by decide) (N := 6) (by decide) (by decide) hg.2.2.1 hg.1 (by omega) (w_rl ⟨wRf_r (by omega), trivial⟩ ⟨wRf_r (by omega), trivial⟩) ⟨Nat.le_of_ble_eq_true rfl, Nat.le_of_ble_eq_true rfl⟩ (fun ad6 ha6 X => ?_)
  have ha : ∀ q, (q < n ∨ 99999 ≤ q) → ad6 q = ad q := fun q hq => (ha6 q (by omega)).trans (ha q hq)
  have hk := w_apk (x := (0, 6, [])) hk
  have hg : wG S (S10 ++ [(0, 6, [])]) n (n + 6) k := wG_app (t := 0) (N := 6) (fs := []) hg (by simp)
  generalize hs11 : S10 ++ [(0, 6, [])] = S11 at hk hg ⊢
  refine w_putR2 X dX11_init_50 rfl (ci := 11) (C := RX11) (T := TX11) (N := 59) (ty0 := tyX11) (ty := tyX11 14) (j := 14) rfl wcl_11 tyX11_ok nmX11 (by decide) wd_1188 rfl hin rfl (by decide +kernel) (fun _ => rfl) (fun _ => rfl) hk (Nat.le_of_ble_eq_true rfl) (fs2 := [(0, 0), (0, 0), (2, n), (0, 0), (0, 0), (0, 0), (0, 0), (1, 0), (0, 0), (0, 0), (2, (n + 1)), (2, (n + 2)), (2, (n + 3)), (2, (n + 4)), (2, (n + 5)), (3, 0), (3, 0), (3, 0), (3, 0), (3, 0), (3, 0), (3, 0), (3, 0), (0, 0), (3, 0), (3, 0), (3, 0), (3, 0), (3, 0), (3, 0), (3, 0), (3, 0), (3, 0), (3, 0), (3, 0), (3, 0), (0, 0), (1, 0), (3, 0), (3, 0), (3, 0), (3, 0), (3, 0), (3, 0), (3, 0), (3, 0), (3, 0), (3, 0), (3, 0), (3, 0), (3, 0), (3, 0), (3, 0), (3, 0), (0, 0), (3, 0), (3, 0), (0, 0), (1, 0)]) rfl ?_
  have hg : wG S (S11.set k (17, 0, [(0, 0), (0, 0), (2, n), (0, 0), (0, 0), (0, 0), (0, 0), (1, 0), (0, 0), (0, 0), (2, (n + 1)), (2, (n + 2)), (2, (n + 3)), (2, (n + 4)), (2, (n + 5)), (3, 0), (3, 0), (3, 0), (3, 0), (3, 0), (3, 0), (3, 0), (3, 0), (0, 0), (3, 0), (3, 0), (3, 0), (3, 0), (3, 0), (3, 0), (3, 0), (3, 0), (3, 0), (3, 0), (3, 0), (3, 0), (0, 0), (1, 0), (3, 0), (3, 0), (3, 0), (3, 0), (3, 0), (3, 0), (3, 0), (3, 0), (3, 0), (3, 0), (3, 0), (3, 0), (3, 0), (3, 0), (3, 0), (3, 0), (0, 0), (3, 0), (3, 0), (0, 0), (1, 0)])) n (n + 6) k := wG_set2 (j := 14) (r := (n + 5)) hg hk (by omega) (Or.inl rfl) rfl
  have hk := w_stk (x := (17, 0, [(0, 0), (0, 0), (2, n), (0, 0), (0, 0), (0, 0), (0, 0), (1, 0), (0, 0), (0, 0), (2, (n + 1)), (2, (n + 2)), (2, (n + 3)), (2, (n + 4)), (2, (n + 5)), (3, 0), (3, 0), (3, 0), (3, 0), (3, 0), (3, 0), (3, 0), (3, 0), (0, 0), (3, 0), (3, 0), (3, 0), (3, 0), (3, 0), (3, 0), (3, 0), (3, 0), (3, 0), (3, 0), (3, 0), (3, 0), (0, 0), (1, 0), (3, 0), (3, 0), (3, 0), (3, 0), (3, 0), (3, 0), (3, 0), (3, 0), (3, 0), (3, 0), (3, 0), (3, 0), (3, 0), (3, 0), (3, 0), (3, 0), (0, 0), (3, 0), (3, 0), (0, 0), (1, 0)])) hk
  generalize hs12 : S11.set k (17, 0, [(0, 0), (0, 0), (2, n), (0, 0), (0, 0), (0, 0), (0, 0), (1, 0), (0, 0), (0, 0), (2, (n + 1)), (2, (n + 2)), (2, (n + 3)), (2, (n + 4)), (2, (n + 5)), (3, 0), (3, 0), (3, 0), (3, 0), (3, 0), (3, 0), (3, 0), (3, 0), (0, 0), (3, 0), (3, 0), (3, 0), (3, 0), (3, 0), (3, 0), (3, 0), (3, 0), (3, 0), (3, 0), (3, 0), (3, 0), (0, 0), (1, 0), (3, 0), (3, 0), (3, 0), (3, 0), (3, 0), (3, 0), (3, 0), (3, 0), (3, 0), (3, 0), (3, 0), (3, 0), (3, 0), (3, 0), (3, 0), (3, 0), (0, 0), (3, 0), (3, 0), (0, 0), (1, 0)]) = S12 at hk hg ⊢
  refine w_aload_n X dX11_init_53 rfl rfl rfl ?_
  refine w_bipush X dX11_init_54 rfl cb_6 ?_
  refine w_newaI X dX11_init_56 rfl wd_97 (by decide) (N := 6) (by decide) (by decide) hg.2.2.1 hg.1 (by omega) (w_rl ⟨wRf_r (by omega), trivial⟩ ⟨wRf_r (by omega), trivial⟩) ⟨Nat.le_of_ble_eq_true rfl, Nat.le_of_ble_eq_true rfl⟩ (fun ad7 ha7 X => ?_)
  have ha : ∀ q, (q < n ∨ 99999 ≤ q) → ad7 q = ad q := fun q hq => (ha7 q (by omega)).trans (ha q hq)
  have hk := w_apk (x := (0, 6, [])) hk
  have hg : wG S (S12 ++ [(0, 6, [])]) n (n + 7) k := wG_app (t := 0) (N := 6) (fs := []) hg (by simp)
  generalize hs13 : S12 ++ [(0, 6, [])] = S13 at hk hg ⊢
  refine w_putR2 X dX11_init_58 rfl (ci := 11) (C := RX11) (T := TX11) (N := 59) (ty0 := tyX11) (ty := tyX11 15) (j := 15) rfl wcl_11 tyX11_ok nmX11 (by decide) wd_1189 rfl hin rfl (by decide +kernel) (fun _ => rfl) (fun _ => rfl) hk (Nat.le_of_ble_eq_true rfl) (fs2 := [(0, 0), (0, 0), (2, n), (0, 0), (0, 0), (0, 0), (0, 0), (1, 0), (0, 0), (0, 0), (2, (n + 1)), (2, (n + 2)), (2, (n + 3)), (2, (n + 4)), (2, (n + 5)), (2, (n + 6)), (3, 0), (3, 0), (3, 0), (3, 0), (3, 0), (3, 0), (3, 0), (0, 0), (3, 0), (3, 0), (3, 0), (3, 0), (3, 0), (3, 0), (3, 0), (3, 0), (3, 0), (3, 0), (3, 0), (3, 0), (0, 0), (1, 0), (3, 0), (3, 0), (3, 0), (3, 0), (3, 0), (3, 0), (3, 0), (3, 0), (3, 0), (3, 0), (3, 0), (3, 0), (3, 0), (3, 0), (3, 0), (3, 0), (0, 0), (3, 0), (3, 0), (0, 0), (1, 0)]) rfl ?_
  have hg : wG S (S13.set k (17, 0, [(0, 0), (0, 0), (2, n), (0, 0), (0, 0), (0, 0), (0, 0), (1, 0), (0, 0), (0, 0), (2, (n + 1)), (2, (n + 2)), (2, (n + 3)), (2, (n + 4)), (2, (n + 5)), (2, (n + 6)), (3, 0), (3, 0), (3, 0), (3, 0), (3, 0), (3, 0), (3, 0), (0, 0), (3, 0), (3, 0), (3, 0), (3, 0), (3, 0), (3, 0), (3, 0), (3, 0), (3, 0), (3, 0), (3, 0), (3, 0), (0, 0), (1, 0), (3, 0), (3, 0), (3, 0), (3, 0), (3, 0), (3, 0), (3, 0), (3, 0), (3, 0), (3, 0), (3, 0), (3, 0), (3, 0), (3, 0), (3, 0), (3, 0), (0, 0), (3, 0), (3, 0), (0, 0), (1, 0)])) n (n + 7) k := wG_set2 (j := 15) (r := (n + 6)) hg hk (by omega) (Or.inl rfl) rfl
  have hk := w_stk (x := (17, 0, [(0, 0), (0, 0), (2, n), (0, 0), (0, 0), (0, 0), (0, 0), (1, 0), (0, 0), (0, 0), (2, (n + 1)), (2, (n + 2)), (2, (n + 3)), (2, (n + 4)), (2, (n + 5)), (2, (n + 6)), (3, 0), (3, 0), (3, 0), (3, 0), (3, 0), (3, 0), (3, 0), (0, 0), (3, 0), (3, 0), (3, 0), (3, 0), (3, 0), (3, 0), (3, 0), (3, 0), (3, 0), (3, 0), (3, 0), (3, 0), (0, 0), (1, 0), (3, 0), (3, 0), (3, 0), (3, 0), (3, 0), (3, 0), (3, 0), (3, 0), (3, 0), (3, 0), (3, 0), (3, 0), (3, 0), (3, 0), (3, 0), (3, 0), (0, 0), (3, 0), (3, 0), (0, 0), (1, 0)])) hk
  generalize hs14 : S13.set k (17, 0, [(0, 0), (0, 0), (2, n), (0, 0), (0, 0), (0, 0), (0, 0), (1, 0), (0, 0), (0, 0), (2, (n + 1)), (2, (n + 2)), (2, (n + 3)), (2, (n + 4)), (2, (n + 5)), (2, (n + 6)), (3, 0), (3, 0), (3, 0), (3, 0), (3, 0), (3, 0), (3, 0), (0, 0), (3, 0), (3, 0), (3, 0), (3, 0), (3, 0), (3, 0), (3, 0), (3, 0), (3, 0), (3, 0), (3, 0), (3, 0), (0, 0), (1, 0), (3, 0), (3, 0), (3, 0), (3, 0), (3, 0), (3, 0), (3, 0), (3, 0), (3, 0), (3, 0), (3, 0), (3, 0), (3, 0), (3, 0), (3, 0), (3, 0), (0, 0), (3, 0), (3, 0), (0, 0), (1, 0)]) = S14 at hk hg ⊢
  refine w_aload_n X dX11_init_61 rfl rfl rfl ?_
  refine w_bipush X dX11_init_62 rfl cb_12 ?_
  refine w_newaI X dX11_init_64 rfl wd_97 (by decide) (N := 12) (by decide) (by decide) hg.2.2.1 hg.1 (by omega) (w_rl ⟨wRf_r (by omega), trivial⟩ ⟨wRf_r (by omega), trivial⟩) ⟨Nat.le_of_ble_eq_true rfl, Nat.le_of_ble_eq_true rfl⟩ (fun ad8 ha8 X => ?_)
  have ha : ∀ q, (q < n ∨ 99999 ≤ q) → ad8 q = ad q := fun q hq => (ha8 q (by omega)).trans (ha q hq)
  have hk := w_apk (x := (0, 12, [])) hk
  have hg : wG S (S14 ++ [(0, 12, [])]) n (n + 8) k := wG_app (t := 0) (N := 12) (fs := []) hg (by simp)
  generalize hs15 : S14 ++ [(0, 12, [])] = S15 at hk hg ⊢
  refine w_putR2 X dX11_init_66 rfl (ci := 11) (C := RX11) (T := TX11) (N := 59) (ty0 := tyX11) (ty := tyX11 16) (j := 16) rfl wcl_11 tyX11_ok nmX11 (by decide) wd_1190 rfl hin rfl (by decide +kernel) (fun _ => rfl) (fun _ => rfl) hk (Nat.le_of_ble_eq_true rfl) (fs2 := [(0, 0), (0, 0), (2, n), (0, 0), (0, 0), (0, 0), (0, 0), (1, 0), (0, 0), (0, 0), (2, (n + 1)), (2, (n + 2)), (2, (n + 3)), (2, (n + 4)), (2, (n + 5)), (2, (n + 6)), (2, (n + 7)), (3, 0), (3, 0), (3, 0), (3, 0), (3, 0), (3, 0), (0, 0), (3, 0), (3, 0), (3, 0), (3, 0), (3, 0), (3, 0), (3, 0), (3, 0), (3, 0), (3, 0), (3, 0), (3, 0), (0, 0), (1, 0), (3, 0), (3, 0), (3, 0), (3, 0), (3, 0), (3, 0), (3, 0), (3, 0), (3, 0), (3, 0), (3, 0), (3, 0), (3, 0), (3, 0), (3, 0), (3, 0), (0, 0), (3, 0), (3, 0), (0, 0), (1, 0)]) rfl ?_
  have hg : wG S (S15.set k (17, 0, [(0, 0), (0, 0), (2, n), (0, 0), (0, 0), (0, 0), (0, 0), (1, 0), (0, 0), (0, 0), (2, (n + 1)), (2, (n + 2)), (2, (n + 3)), (2, (n + 4)), (2, (n + 5)), (2, (n + 6)), (2, (n + 7)), (3, 0), (3, 0), (3, 0), (3, 0), (3, 0), (3, 0), (0, 0), (3, 0), (3, 0), (3, 0), (3, 0), (3, 0), (3, 0), (3, 0), (3, 0), (3, 0), (3, 0), (3, 0), (3, 0), (0, 0), (1, 0), (3, 0), (3, 0), (3, 0), (3, 0), (3, 0), (3, 0), (3, 0), (3, 0), (3, 0), (3, 0), (3, 0), (3, 0), (3, 0), (3, 0), (3, 0), (3, 0), (0, 0), (3, 0), (3, 0), (0, 0), (1, 0)])) n (n + 8) k := wG_set2 (j := 16) (r := (n + 7)) hg hk (by omega) (Or.inl rfl) rfl
  have hk := w_stk (x := (17, 0, [(0, 0), (0, 0), (2, n), (0, 0), (0, 0), (0, 0), (0, 0), (1, 0), (0, 0), (0, 0), (2, (n + 1)), (2, (n + 2)), (2, (n + 3)), (2, (n + 4)), (2, (n + 5)), (2, (n + 6)), (2, (n + 7)), (3, 0), (3, 0), (3, 0), (3, 0), (3, 0), (3, 0), (0, 0), (3, 0), (3, 0), (3, 0), (3, 0), (3, 0), (3, 0), (3, 0), (3, 0), (3, 0), (3, 0), (3, 0), (3, 0), (0, 0), (1, 0), (3, 0), (3, 0), (3, 0), (3, 0), (3, 0), (3, 0), (3, 0), (3, 0), (3, 0), (3, 0), (3, 0), (3, 0), (3, 0), (3, 0), (3, 0), (3, 0), (0, 0), (3, 0), (3, 0), (0, 0), (1, 0)])) hk
  generalize hs16 : S15.set k (17, 0, [(0, 0), (0, 0), (2, n), (0, 0), (0, 0), (0, 0), (0, 0), (1, 0), (0, 0), (0, 0), (2, (n + 1)), (2, (n + 2)), (2, (n + 3)), (2, (n + 4)), (2, (n + 5)), (2, (n + 6)), (2, (n + 7)), (3, 0), (3, 0), (3, 0), (3, 0), (3, 0), (3, 0), (0, 0), (3, 0), (3, 0), (3, 0), (3, 0), (3, 0), (3, 0), (3, 0), (3, 0), (3, 0), (3, 0), (3, 0), (3, 0), (0, 0), (1, 0), (3, 0), (3, 0), (3, 0), (3, 0), (3, 0), (3, 0), (3, 0), (3, 0), (3, 0), (3, 0), (3, 0), (3, 0), (3, 0), (3, 0), (3, 0), (3, 0), (0, 0), (3, 0), (3, 0), (0, 0), (1, 0)]) = S16 at hk hg ⊢
  refine w_aload_n X dX11_init_69 rfl rfl rfl ?_
  refine w_bipush X dX11_init_70 rfl cb_12 ?_
  refine w_newaI X dX11_init_72 rfl wd_97 (by decide) (N := 12) (by decide) (by decide) hg.2.2.1 hg.1 (by omega) (w_rl ⟨wRf_r (by omega), trivial⟩ ⟨wRf_r (by omega), trivial⟩) ⟨Nat.le_of_ble_eq_true rfl, Nat.le_of_ble_eq_true rfl⟩ (fun ad9 ha9 X => ?_)
  have ha : ∀ q, (q < n ∨ 99999 ≤ q) → ad9 q = ad q := fun q hq => (ha9 q (by omega)).trans (ha q hq)
  have hk := w_apk (x := (0, 12, [])) hk
  have hg : wG S (S16 ++ [(0, 12, [])]) n (n + 9) k := wG_app (t := 0) (N := 12) (fs := []) hg (by simp)
  generalize hs17 : S16 ++ [(0, 12, [])] = S17 at hk hg ⊢
  refine w_putR2 X dX11_init_74 rfl (ci := 11) (C := RX11) (T := TX11) (N := 59) (ty0 := tyX11) (ty := tyX11 17) (j := 17) rfl wcl_11 tyX11_ok nmX11 (by decide) wd_1191 rfl hin rfl (by decide +kernel) (fun _ => rfl) (fun _ => rfl) hk (Nat.le_of_ble_eq_true rfl) (fs2 := [(0, 0), (0, 0), (2, n), (0, 0), (0, 0), (0, 0), (0, 0), (1, 0), (0, 0), (0, 0), (2, (n + 1)), (2, (n + 2)), (2, (n + 3)), (2, (n + 4)), (2, (n + 5)), (2, (n + 6)), (2, (n + 7)), (2, (n + 8)), (3, 0), (3, 0), (3, 0), (3, 0), (3, 0), (0, 0), (3, 0), (3, 0), (3, 0), (3, 0), (3, 0), (3, 0), (3, 0), (3, 0), (3, 0), (3, 0), (3, 0), (3, 0), (0, 0), (1, 0), (3, 0), (3, 0), (3, 0), (3, 0), (3, 0), (3, 0), (3, 0), (3, 0), (3, 0), (3, 0), (3, 0), (3, 0), (3, 0), (3, 0), (3, 0), (3, 0), (0, 0), (3, 0), (3, 0), (0, 0), (1, 0)]) rfl ?_
  have hg : wG S (S17.set k (17, 0, [(0, 0), (0, 0), (2, n), (0, 0), (0, 0), (0, 0), (0, 0), (1, 0), (0, 0), (0, 0), (2, (n + 1)), (2, (n + 2)), (2, (n + 3)), (2, (n + 4)), (2, (n + 5)), (2, (n + 6)), (2, (n + 7)), (2, (n + 8)), (3, 0), (3, 0), (3, 0), (3, 0), (3, 0), (0, 0), (3, 0), (3, 0), (3, 0), (3, 0), (3, 0), (3, 0), (3, 0), (3, 0), (3, 0), (3, 0), (3, 0), (3, 0), (0, 0), (1, 0), (3, 0), (3, 0), (3, 0), (3, 0), (3, 0), (3, 0), (3, 0), (3, 0), (3, 0), (3, 0), (3, 0), (3, 0), (3, 0), (3, 0), (3, 0), (3, 0), (0, 0), (3, 0), (3, 0), (0, 0), (1, 0)])) n (n + 9) k := wG_set2 (j := 17) (r := (n + 8)) hg hk (by omega) (Or.inl rfl) rfl
  have hk := w_stk (x := (17, 0, [(0, 0), (0, 0), (2, n), (0, 0), (0, 0), (0, 0), (0, 0), (1, 0), (0, 0), (0, 0), (2, (n + 1)), (2, (n + 2)), (2, (n + 3)), (2, (n + 4)), (2, (n + 5)), (2, (n + 6)), (2, (n + 7)), (2, (n + 8)), (3, 0), (3, 0), (3, 0), (3, 0), (3, 0), (0, 0), (3, 0), (3, 0), (3, 0), (3, 0), (3, 0), (3, 0), (3, 0), (3, 0), (3, 0), (3, 0), (3, 0), (3, 0), (0, 0), (1, 0), (3, 0), (3, 0), (3, 0), (3, 0), (3, 0), (3, 0), (3, 0), (3, 0), (3, 0), (3, 0), (3, 0), (3, 0), (3, 0), (3, 0), (3, 0), (3, 0), (0, 0), (3, 0), (3, 0), (0, 0), (1, 0)])) hk
  generalize hs18 : S17.set k (17, 0, [(0, 0), (0, 0), (2, n), (0, 0), (0, 0), (0, 0), (0, 0), (1, 0), (0, 0), (0, 0), (2, (n + 1)), (2, (n + 2)), (2, (n + 3)), (2, (n + 4)), (2, (n + 5)), (2, (n + 6)), (2, (n + 7)), (2, (n + 8)), (3, 0), (3, 0), (3, 0), (3, 0), (3, 0), (0, 0), (3, 0), (3, 0), (3, 0), (3, 0), (3, 0), (3, 0), (3, 0), (3, 0), (3, 0), (3, 0), (3, 0), (3, 0), (0, 0), (1, 0), (3, 0), (3, 0), (3, 0), (3, 0), (3, 0), (3, 0), (3, 0), (3, 0), (3, 0), (3, 0), (3, 0), (3, 0), (3, 0), (3, 0), (3, 0), (3, 0), (0, 0), (3, 0), (3, 0), (0, 0), (1, 0)]) = S18 at hk hg ⊢
  refine w_aload_n X dX11_init_77 rfl rfl rfl ?_
  refine w_bipush X dX11_init_78 rfl cb_12 ?_
  refine w_newaI X dX11_init_80 rfl wd_97 (by decide) (N := 12) (by decide) (by decide) hg.2.2.1 hg.1 (by omega) (w_rl ⟨wRf_r (by omega), trivial⟩ ⟨wRf_r (by omega), trivial⟩) ⟨Nat.le_of_ble_eq_true rfl, Nat.le_of_ble_eq_true rfl⟩ (fun ad10 ha10 X => ?_)
  have ha : ∀ q, (q < n ∨ 99999 ≤ q) → ad10 q = ad q := fun q hq => (ha10 q (by omega)).trans (ha q hq)
  have hk := w_apk (x := (0, 12, [])) hk
  have hg : wG S (S18 ++ [(0, 12, [])]) n (n + 10) k := wG_app (t := 0) (N := 12) (fs := []) hg (by simp)
  generalize hs19 : S18 ++ [(0, 12, [])] = S19 at hk hg ⊢
  refine w_putR2 X dX11_init_82 rfl (ci := 11) (C := RX11) (T := TX11) (N := 59) (ty0 := tyX11) (ty := tyX11 18) (j := 18) rfl wcl_11 tyX11_ok nmX11 (by decide) wd_1192 rfl hin rfl (by decide +kernel) (fun _ => rfl) (fun _ => rfl) hk (Nat.le_of_ble_eq_true rfl) (fs2 := [(0, 0), (0, 0), (2, n), (0, 0), (0, 0), (0, 0), (0, 0), (1, 0), (0, 0), (0, 0), (2, (n + 1)), (2, (n + 2)), (2, (n + 3)), (2, (n + 4)), (2, (n + 5)), (2, (n + 6)), (2, (n + 7)), (2, (n + 8)), (2, (n + 9)), (3, 0), (3, 0), (3, 0), (3, 0), (0, 0), (3, 0), (3, 0), (3, 0), (3, 0), (3, 0), (3, 0), (3, 0), (3, 0), (3, 0), (3, 0), (3, 0), (3, 0), (0, 0), (1, 0), (3, 0), (3, 0), (3, 0), (3, 0), (3, 0), (3, 0), (3, 0), (3, 0), (3, 0), (3, 0), (3, 0), (3, 0), (3, 0), (3, 0), (3, 0), (3, 0), (0, 0), (3, 0), (3, 0), (0, 0), (1, 0)]) rfl ?_
  have hg : wG S (S19.set k (17, 0, [(0, 0), (0, 0), (2, n), (0, 0), (0, 0), (0, 0), (0, 0), (1, 0), (0, 0), (0, 0), (2, (n + 1)), (2, (n + 2)), (2, (n + 3)), (2, (n + 4)), (2, (n + 5)), (2, (n + 6)), (2, (n + 7)), (2, (n + 8)), (2, (n + 9)), (3, 0), (3, 0), (3, 0), (3, 0), (0, 0), (3, 0), (3, 0), (3, 0), (3, 0), (3, 0), (3, 0), (3, 0), (3, 0), (3, 0), (3, 0), (3, 0), (3, 0), (0, 0), (1, 0), (3, 0), (3, 0), (3, 0), (3, 0), (3, 0), (3, 0), (3, 0), (3, 0), (3, 0), (3, 0), (3, 0), (3, 0), (3, 0), (3, 0), (3, 0), (3, 0), (0, 0), (3, 0), (3, 0), (0, 0), (1, 0)])) n (n + 10) k := wG_set2 (j := 18) (r := (n + 9)) hg hk (by omega) (Or.inl rfl) rfl
  have hk := w_stk (x := (17, 0, [(0, 0), (0, 0), (2, n), (0, 0), (0, 0), (0, 0), (0, 0), (1, 0), (0, 0), (0, 0), (2, (n + 1)), (2, (n + 2)), (2, (n + 3)), (2, (n + 4)), (2, (n + 5)), (2, (n + 6)), (2, (n + 7)), (2, (n + 8)), (2, (n + 9)), (3, 0), (3, 0), (3, 0), (3, 0), (0, 0), (3, 0), (3, 0), (3, 0), (3, 0), (3, 0), (3, 0), (3, 0), (3, 0), (3, 0), (3, 0), (3, 0), (3, 0), (0, 0), (1, 0), (3, 0), (3, 0), (3, 0), (3, 0), (3, 0), (3, 0), (3, 0), (3, 0), (3, 0), (3, 0), (3, 0), (3, 0), (3, 0), (3, 0), (3, 0), (3, 0), (0, 0), (3, 0), (3, 0), (0, 0), (1, 0)])) hk
  generalize hs20 : S19.set k (17, 0, [(0, 0), (0, 0), (2, n), (0, 0), (0, 0), (0, 0), (0, 0), (1, 0), (0, 0), (0, 0), (2, (n + 1)), (2, (n + 2)), (2, (n + 3)), (2, (n + 4)), (2, (n + 5)), (2, (n + 6)), (2, (n + 7)), (2, (n + 8)), (2, (n + 9)), (3, 0), (3, 0), (3, 0), (3, 0), (0, 0), (3, 0), (3, 0), (3, 0), (3, 0), (3, 0), (3, 0), (3, 0), (3, 0), (3, 0), (3, 0), (3, 0), (3, 0), (0, 0), (1, 0), (3, 0), (3, 0), (3, 0), (3, 0), (3, 0), (3, 0), (3, 0), (3, 0), (3, 0), (3, 0), (3, 0), (3, 0), (3, 0), (3, 0), (3, 0), (3, 0), (0, 0), (3, 0), (3, 0), (0, 0), (1, 0)]) = S20 at hk hg ⊢
  refine w_aload_n X dX11_init_85 rfl rfl rfl ?_
  refine w_bipush X dX11_init_86 rfl cb_24 ?_
  refine w_newaI X dX11_init_88 rfl wd_97 (by decide) (N := 24) (by decide) (by decide) hg.2.2.1 hg.1 (by omega) (w_rl ⟨wRf_r (by omega), trivial⟩ ⟨wRf_r (by omega), trivial⟩) ⟨Nat.le_of_ble_eq_true rfl, Nat.le_of_ble_eq_true rfl⟩ (fun ad11 ha11 X => ?_)
  have ha : ∀ q, (q < n ∨ 99999 ≤ q) → ad11 q = ad q := fun q hq => (ha11 q (by omega)).trans (ha q hq)
  have hk := w_apk (x := (0, 24, [])) hk
  have hg : wG S (S20 ++ [(0, 24, [])]) n (n + 11) k := wG_app (t := 0) (N := 24) (fs := []) hg (by simp)
  generalize hs21 : S20 ++ [(0, 24, [])] = S21 at hk hg ⊢
  refine w_putR2 X dX11_init_90 rfl (ci := 11) (C := RX11) (T := TX11) (N := 59) (ty0 := tyX11) (ty := tyX11 19) (j := 19) rfl wcl_11 tyX11_ok nmX11 (by decide) wd_1193 rfl hin rfl (by decide +kernel) (fun _ => rfl) (fun _ => rfl) hk (Nat.le_of_ble_eq_true rfl) (fs2 := [(0, 0), (0, 0), (2, n), (0, 0), (0, 0), (0, 0), (0, 0), (1, 0), (0, 0), (0, 0), (2, (n + 1)), (2, (n + 2)), (2, (n + 3)), (2, (n + 4)), (2, (n + 5)), (2, (n + 6)), (2, (n + 7)), (2, (n + 8)), (2, (n + 9)), (2, (n + 10)), (3, 0), (3, 0), (3, 0), (0, 0), (3, 0), (3, 0), (3, 0), (3, 0), (3, 0), (3, 0), (3, 0), (3, 0), (3, 0), (3, 0), (3, 0), (3, 0), (0, 0), (1, 0), (3, 0), (3, 0), (3, 0), (3, 0), (3, 0), (3, 0), (3, 0), (3, 0), (3, 0), (3, 0), (3, 0), (3, 0), (3, 0), (3, 0), (3, 0), (3, 0), (0, 0), (3, 0), (3, 0), (0, 0), (1, 0)]) rfl ?_
  have hg : wG S (S21.set k (17, 0, [(0, 0), (0, 0), (2, n), (0, 0), (0, 0), (0, 0), (0, 0), (1, 0), (0, 0), (0, 0), (2, (n + 1)), (2, (n + 2)), (2, (n + 3)), (2, (n + 4)), (2, (n + 5)), (2, (n + 6)), (2, (n + 7)), (2, (n + 8)), (2, (n + 9)), (2, (n + 10)), (3, 0), (3, 0), (3, 0), (0, 0), (3, 0), (3, 0), (3, 0), (3, 0), (3, 0), (3, 0), (3, 0), (3, 0), (3, 0), (3, 0), (3, 0), (3, 0), (0, 0), (1, 0), (3, 0), (3, 0), (3, 0), (3, 0), (3, 0), (3, 0), (3, 0), (3, 0), (3, 0), (3, 0), (3, 0), (3, 0), (3, 0), (3, 0), (3, 0), (3, 0), (0, 0), (3, 0), (3, 0), (0, 0), (1, 0)])) n (n + 11) k := wG_set2 (j := 19) (r := (n + 10)) hg hk (by omega) (Or.inl rfl) rfl
  have hk := w_stk (x := (17, 0, [(0, 0), (0, 0), (2, n), (0, 0), (0, 0), (0, 0), (0, 0), (1, 0), (0, 0), (0, 0), (2, (n + 1)), (2, (n + 2)), (2, (n + 3)), (2, (n + 4)), (2, (n + 5)), (2, (n + 6)), (2, (n + 7)), (2, (n + 8)), (2, (n + 9)), (2, (n + 10)), (3, 0), (3, 0), (3, 0), (0, 0), (3, 0), (3, 0), (3, 0), (3, 0), (3, 0), (3, 0), (3, 0), (3, 0), (3, 0), (3, 0), (3, 0), (3, 0), (0, 0), (1, 0), (3, 0), (3, 0), (3, 0), (3, 0), (3, 0), (3, 0), (3, 0), (3, 0), (3, 0), (3, 0), (3, 0), (3, 0), (3, 0), (3, 0), (3, 0), (3, 0), (0, 0), (3, 0), (3, 0), (0, 0), (1, 0)])) hk
  generalize hs22 : S21.set k (17, 0, [(0, 0), (0, 0), (2, n), (0, 0), (0, 0), (0, 0), (0, 0), (1, 0), (0, 0), (0, 0), (2, (n + 1)), (2, (n + 2)), (2, (n + 3)), (2, (n + 4)), (2, (n + 5)), (2, (n + 6)), (2, (n + 7)), (2, (n + 8)), (2, (n + 9)), (2, (n + 10)), (3, 0), (3, 0), (3, 0), (0, 0), (3, 0), (3, 0), (3, 0), (3, 0), (3, 0), (3, 0), (3, 0), (3, 0), (3, 0), (3, 0), (3, 0), (3, 0), (0, 0), (1, 0), (3, 0), (3, 0), (3, 0), (3, 0), (3, 0), (3, 0), (3, 0), (3, 0), (3, 0), (3, 0), (3, 0), (3, 0), (3, 0), (3, 0), (3, 0), (3, 0), (0, 0), (3, 0), (3, 0), (0, 0), (1, 0)]) = S22 at hk hg ⊢
  refine w_aload_n X dX11_init_93 rfl rfl rfl ?_
  refine w_iconst X dX11_init_94 rfl ci_2 ?_
  refine w_newaI X dX11_init_95 rfl wd_97 (by decide) (N := 2) (by decide) (by decide) hg.2.2.1 hg.1 (by omega) (w_rl ⟨wRf_r (by omega), trivial⟩ ⟨wRf_r (by omega), trivial⟩) ⟨Nat.le_of_ble_eq_true rfl, Nat.le_of_ble_eq_true rfl⟩ (fun ad12 ha12 X => ?_)
  have ha : ∀ q, (q < n ∨ 99999 ≤ q) → ad12 q = ad q := fun q hq => (ha12 q (by omega)).trans (ha q hq)
  have hk := w_apk (x := (0, 2, [])) hk
  have hg : wG S (S22 ++ [(0, 2, [])]) n (n + 12) k := wG_app (t := 0) (N := 2) (fs := []) hg (by simp)
  generalize hs23 : S22 ++ [(0, 2, [])] = S23 at hk hg ⊢
  refine w_putR2 X dX11_init_97 rfl (ci := 11) (C := RX11) (T := TX11) (N := 59) (ty0 := tyX11) (ty := tyX11 20) (j := 20) rfl wcl_11 tyX11_ok nmX11 (by decide) wd_1194 rfl hin rfl (by decide +kernel) (fun _ => rfl) (fun _ => rfl) hk (Nat.le_of_ble_eq_true rfl) (fs2 := [(0, 0), (0, 0), (2, n), (0, 0), (0, 0), (0, 0), (0, 0), (1, 0), (0, 0), (0, 0), (2, (n + 1)), (2, (n + 2)), (2, (n + 3)), (2, (n + 4)), (2, (n + 5)), (2, (n + 6)), (2, (n + 7)), (2, (n + 8)), (2, (n + 9)), (2, (n + 10)), (2, (n + 11)), (3, 0), (3, 0), (0, 0), (3, 0), (3, 0), (3, 0), (3, 0), (3, 0), (3, 0), (3, 0), (3, 0), (3, 0), (3, 0), (3, 0), (3, 0), (0, 0), (1, 0), (3, 0), (3, 0), (3, 0), (3, 0), (3, 0), (3, 0), (3, 0), (3, 0), (3, 0), (3, 0), (3, 0), (3, 0), (3, 0), (3, 0), (3, 0), (3, 0), (0, 0), (3, 0), (3, 0), (0, 0), (1, 0)]) rfl ?_
  have hg : wG S (S23.set k (17, 0, [(0, 0), (0, 0), (2, n), (0, 0), (0, 0), (0, 0), (0, 0), (1, 0), (0, 0), (0, 0), (2, (n + 1)), (2, (n + 2)), (2, (n + 3)), (2, (n + 4)), (2, (n + 5)), (2, (n + 6)), (2, (n + 7)), (2, (n + 8)), (2, (n + 9)), (2, (n + 10)), (2, (n + 11)), (3, 0), (3, 0), (0, 0), (3, 0), (3, 0), (3, 0), (3, 0), (3, 0), (3, 0), (3, 0), (3, 0), (3, 0), (3, 0), (3, 0), (3, 0), (0, 0), (1, 0), (3, 0), (3, 0), (3, 0), (3, 0), (3, 0), (3, 0), (3, 0), (3, 0), (3, 0), (3, 0), (3, 0), (3, 0), (3, 0), (3, 0), (3, 0), (3, 0), (0, 0), (3, 0), (3, 0), (0, 0), (1, 0)])) n (n + 12) k := wG_set2 (j := 20) (r := (n + 11)) hg hk (by omega) (Or.inl rfl) rfl
  have hk := w_stk (x := (17, 0, [(0, 0), (0, 0), (2, n), (0, 0), (0, 0), (0, 0), (0, 0), (1, 0), (0, 0), (0, 0), (2, (n + 1)), (2, (n + 2)), (2, (n + 3)), (2, (n + 4)), (2, (n + 5)), (2, (n + 6)), (2, (n + 7)), (2, (n + 8)), (2, (n + 9)), (2, (n + 10)), (2, (n + 11)), (3, 0), (3, 0), (0, 0), (3, 0), (3, 0), (3, 0), (3, 0), (3, 0), (3, 0), (3, 0), (3, 0), (3, 0), (3, 0), (3, 0), (3, 0), (0, 0), (1, 0), (3, 0), (3, 0), (3, 0), (3, 0), (3, 0), (3, 0), (3, 0), (3, 0), (3, 0), (3, 0), (3, 0), (3, 0), (3, 0), (3, 0), (3, 0), (3, 0), (0, 0), (3, 0), (3, 0), (0, 0), (1, 0)])) hk
  generalize hs24 : S23.set k (17, 0, [(0, 0), (0, 0), (2, n), (0, 0), (0, 0), (0, 0), (0, 0), (1, 0), (0, 0), (0, 0), (2, (n + 1)), (2, (n + 2)), (2, (n + 3)), (2, (n + 4)), (2, (n + 5)), (2, (n + 6)), (2, (n + 7)), (2, (n + 8)), (2, (n + 9)), (2, (n + 10)), (2, (n + 11)), (3, 0), (3, 0), (0, 0), (3, 0), (3, 0), (3, 0), (3, 0), (3, 0), (3, 0), (3, 0), (3, 0), (3, 0), (3, 0), (3, 0), (3, 0), (0, 0), (1, 0), (3, 0), (3, 0), (3, 0), (3, 0), (3, 0), (3, 0), (3, 0), (3, 0), (3, 0), (3, 0), (3, 0), (3, 0), (3, 0), (3, 0), (3, 0), (3, 0), (0, 0), (3, 0), (3, 0), (0, 0), (1, 0)]) = S24 at hk hg ⊢
  refine w_aload_n X dX11_init_100 rfl rfl rfl ?_
  refine w_iconst X dX11_init_101 rfl ci_2 ?_
  refine w_newaI X dX11_init_102 rfl wd_97 (by decide) (N := 2) (by decide) (by decide) hg.2.2.1 hg.1 (by omega) (w_rl ⟨wRf_r (by omega), trivial⟩ ⟨wRf_r (by omega), trivial⟩) ⟨Nat.le_of_ble_eq_true rfl, Nat.le_of_ble_eq_true rfl⟩ (fun ad13 ha13 X => ?_)
  have ha : ∀ q, (q < n ∨ 99999 ≤ q) → ad13 q = ad q := fun q hq => (ha13 q (by omega)).trans (ha q hq)
  have hk := w_apk (x := (0, 2, [])) hk
  have hg : wG S (S24 ++ [(0, 2, [])]) n (n + 13) k := wG_app (t := 0) (N := 2) (fs := []) hg (by simp)
  generalize hs25 : S24 ++ [(0, 2, [])] = S25 at hk hg ⊢
  refine w_putR2 X dX11_init_104 rfl (ci := 11) (C := RX11) (T := TX11) (N := 59) (ty0 := tyX11) (ty := tyX11 21) (j := 21) rfl wcl_11 tyX11_ok nmX11 (by decide) wd_1195 rfl hin rfl (by decide +kernel) (fun _ => rfl) (fun _ => rfl) hk (Nat.le_of_ble_eq_true rfl) (fs2 := [(0, 0), (0, 0), (2, n), (0, 0), (0, 0), (0, 0), (0, 0), (1, 0), (0, 0), (0, 0), (2, (n + 1)), (2, (n + 2)), (2, (n + 3)), (2, (n + 4)), (2, (n + 5)), (2, (n + 6)), (2, (n + 7)), (2, (n + 8)), (2, (n + 9)), (2, (n + 10)), (2, (n + 11)), (2, (n + 12)), (3, 0), (0, 0), (3, 0), (3, 0), (3, 0), (3, 0), (3, 0), (3, 0), (3, 0), (3, 0), (3, 0), (3, 0), (3, 0), (3, 0), (0, 0), (1, 0), (3, 0), (3, 0), (3, 0), (3, 0), (3, 0), (3, 0), (3, 0), (3, 0), (3, 0), (3, 0), (3, 0), (3, 0), (3, 0), (3, 0), (3, 0), (3, 0), (0, 0), (3, 0), (3, 0), (0, 0), (1, 0)]) rfl ?_
  have hg : wG S (S25.set k (17, 0, [(0, 0), (0, 0), (2, n), (0, 0), (0, 0), (0, 0), (0, 0), (1, 0), (0, 0), (0, 0), (2, (n + 1)), (2, (n + 2)), (2, (n + 3)), (2, (n + 4)), (2, (n + 5)), (2, (n + 6)), (2, (n + 7)), (2, (n + 8)), (2, (n + 9)), (2, (n + 10)), (2, (n + 11)), (2, (n + 12)), (3, 0), (0, 0), (3, 0), (3, 0), (3, 0), (3, 0), (3, 0), (3, 0), (3, 0), (3, 0), (3, 0), (3, 0), (3, 0), (3, 0), (0, 0), (1, 0), (3, 0), (3, 0), (3, 0), (3, 0), (3, 0), (3, 0), (3, 0), (3, 0), (3, 0), (3, 0), (3, 0), (3, 0), (3, 0), (3, 0), (3, 0), (3, 0), (0, 0), (3, 0), (3, 0), (0, 0), (1, 0)])) n (n + 13) k := wG_set2 (j := 21) (r := (n + 12)) hg hk (by omega) (Or.inl rfl) rfl
  have hk := w_stk (x := (17, 0, [(0, 0), (0, 0), (2, n), (0, 0), (0, 0), (0, 0), (0, 0), (1, 0), (0, 0), (0, 0), (2, (n + 1)), (2, (n + 2)), (2, (n + 3)), (2, (n + 4)), (2, (n + 5)), (2, (n + 6)), (2, (n + 7)), (2, (n + 8)), (2, (n + 9)), (2, (n + 10)), (2, (n + 11)), (2, (n + 12)), (3, 0), (0, 0), (3, 0), (3, 0), (3, 0), (3, 0), (3, 0), (3, 0), (3, 0), (3, 0), (3, 0), (3, 0), (3, 0), (3, 0), (0, 0), (1, 0), (3, 0), (3, 0), (3, 0), (3, 0), (3, 0), (3, 0), (3, 0), (3, 0), (3, 0), (3, 0), (3, 0), (3, 0), (3, 0), (3, 0), (3, 0), (3, 0), (0, 0), (3, 0), (3, 0), (0, 0), (1, 0)])) hk
  generalize hs26 : S25.set k (17, 0, [(0, 0), (0, 0), (2, n), (0, 0), (0, 0), (0, 0), (0, 0), (1, 0), (0, 0), (0, 0), (2, (n + 1)), (2, (n + 2)), (2, (n + 3)), (2, (n + 4)), (2, (n + 5)), (2, (n + 6)), (2, (n + 7)), (2, (n + 8)), (2, (n + 9)), (2, (n + 10)), (2, (n + 11)), (2, (n + 12)), (3, 0), (0, 0), (3, 0), (3, 0), (3, 0), (3, 0), (3, 0), (3, 0), (3, 0), (3, 0), (3, 0), (3, 0), (3, 0), (3, 0), (0, 0), (1, 0), (3, 0), (3, 0), (3, 0), (3, 0), (3, 0), (3, 0), (3, 0), (3, 0), (3, 0), (3, 0), (3, 0), (3, 0), (3, 0), (3, 0), (3, 0), (3, 0), (0, 0), (3, 0), (3, 0), (0, 0), (1, 0)]) = S26 at hk hg ⊢
  refine w_aload_n X dX11_init_107 rfl rfl rfl ?_
  refine w_sipush X dX11_init_108 rfl cs_2000 ?_
  refine w_newaI X dX11_init_111 rfl wd_97 (by decide) (N := 2000) (by decide) (by decide) hg.2.2.1 hg.1 (by omega) (w_rl ⟨wRf_r (by omega), trivial⟩ ⟨wRf_r (by omega), trivial⟩) ⟨Nat.le_of_ble_eq_true rfl, Nat.le_of_ble_eq_true rfl⟩ (fun ad14 ha14 X => ?_)
  have ha : ∀ q, (q < n ∨ 99999 ≤ q) → ad14 q = ad q := fun q hq => (ha14 q (by omega)).trans (ha q hq)
  have hk := w_apk (x := (0, 2000, [])) hk
  have hg : wG S (S26 ++ [(0, 2000, [])]) n (n + 14) k := wG_app (t := 0) (N := 2000) (fs := []) hg (by simp)
  generalize hs27 : S26 ++ [(0, 2000, [])] = S27 at hk hg ⊢
  refine w_putR2 X dX11_init_113 rfl (ci := 11) (C := RX11) (T := TX11) (N := 59) (ty0 := tyX11) (ty := tyX11 22) (j := 22) rfl wcl_11 tyX11_ok nmX11 (by decide) wd_1196 rfl hin rfl (by decide +kernel) (fun _ => rfl) (fun _ => rfl) hk (Nat.le_of_ble_eq_true rfl) (fs2 := [(0, 0), (0, 0), (2, n), (0, 0), (0, 0), (0, 0), (0, 0), (1, 0), (0, 0), (0, 0), (2, (n + 1)), (2, (n + 2)), (2, (n + 3)), (2, (n + 4)), (2, (n + 5)), (2, (n + 6)), (2, (n + 7)), (2, (n + 8)), (2, (n + 9)), (2, (n + 10)), (2, (n + 11)), (2, (n + 12)), (2, (n + 13)), (0, 0), (3, 0), (3, 0), (3, 0), (3, 0), (3, 0), (3, 0), (3, 0), (3, 0), (3, 0), (3, 0), (3, 0), (3, 0), (0, 0), (1, 0), (3, 0), (3, 0), (3, 0), (3, 0), (3, 0), (3, 0), (3, 0), (3, 0), (3, 0), (3, 0), (3, 0), (3, 0), (3, 0), (3, 0), (3, 0), (3, 0), (0, 0), (3, 0), (3, 0), (0, 0), (1, 0)]) rfl ?_
  have hg : wG S (S27.set k (17, 0, [(0, 0), (0, 0), (2, n), (0, 0), (0, 0), (0, 0), (0, 0), (1, 0), (0, 0), (0, 0), (2, (n + 1)), (2, (n + 2)), (2, (n + 3)), (2, (n + 4)), (2, (n + 5)), (2, (n + 6)), (2, (n + 7)), (2, (n + 8)), (2, (n + 9)), (2, (n + 10)), (2, (n + 11)), (2, (n + 12)), (2, (n + 13)), (0, 0), (3, 0), (3, 0), (3, 0), (3, 0), (3, 0), (3, 0), (3, 0), (3, 0), (3, 0), (3, 0), (3, 0), (3, 0), (0, 0), (1, 0), (3, 0), (3, 0), (3, 0), (3, 0), (3, 0), (3, 0), (3, 0), (3, 0), (3, 0), (3, 0), (3, 0), (3, 0), (3, 0), (3, 0), (3, 0), (3, 0), (0, 0), (3, 0), (3, 0), (0, 0), (1, 0)])) n (n + 14) k := wG_set2 (j := 22) (r := (n + 13)) hg hk (by omega) (Or.inl rfl) rfl
  have hk := w_stk (x := (17, 0, [(0, 0), (0, 0), (2, n), (0, 0), (0, 0), (0, 0), (0, 0), (1, 0), (0, 0), (0, 0), (2, (n + 1)), (2, (n + 2)), (2, (n + 3)), (2, (n + 4)), (2, (n + 5)), (2, (n + 6)), (2, (n + 7)), (2, (n + 8)), (2, (n + 9)), (2, (n + 10)), (2, (n + 11)), (2, (n + 12)), (2, (n + 13)), (0, 0), (3, 0), (3, 0), (3, 0), (3, 0), (3, 0), (3, 0), (3, 0), (3, 0), (3, 0), (3, 0), (3, 0), (3, 0), (0, 0), (1, 0), (3, 0), (3, 0), (3, 0), (3, 0), (3, 0), (3, 0), (3, 0), (3, 0), (3, 0), (3, 0), (3, 0), (3, 0), (3, 0), (3, 0), (3, 0), (3, 0), (0, 0), (3, 0), (3, 0), (0, 0), (1, 0)])) hk
  generalize hs28 : S27.set k (17, 0, [(0, 0), (0, 0), (2, n), (0, 0), (0, 0), (0, 0), (0, 0), (1, 0), (0, 0), (0, 0), (2, (n + 1)), (2, (n + 2)), (2, (n + 3)), (2, (n + 4)), (2, (n + 5)), (2, (n + 6)), (2, (n + 7)), (2, (n + 8)), (2, (n + 9)), (2, (n + 10)), (2, (n + 11)), (2, (n + 12)), (2, (n + 13)), (0, 0), (3, 0), (3, 0), (3, 0), (3, 0), (3, 0), (3, 0), (3, 0), (3, 0), (3, 0), (3, 0), (3, 0), (3, 0), (0, 0), (1, 0), (3, 0), (3, 0), (3, 0), (3, 0), (3, 0), (3, 0), (3, 0), (3, 0), (3, 0), (3, 0), (3, 0), (3, 0), (3, 0), (3, 0), (3, 0), (3, 0), (0, 0), (3, 0), (3, 0), (0, 0), (1, 0)]) = S28 at hk hg ⊢
  refine w_aload_n X dX11_init_116 rfl rfl rfl ?_
  refine w_bipush X dX11_init_117 rfl cb_7 ?_
  refine w_newaI X dX11_init_119 rfl wd_97 (by decide) (N := 7) (by decide) (by decide) hg.2.2.1 hg.1 (by omega) (w_rl ⟨wRf_r (by omega), trivial⟩ ⟨wRf_r (by omega), trivial⟩) ⟨Nat.le_of_ble_eq_true rfl, Nat.le_of_ble_eq_true rfl⟩ (fun ad15 ha15 X => ?_)
  have ha : ∀ q, (q < n ∨ 99999 ≤ q) → ad15 q = ad q := fun q hq => (ha15 q (by omega)).trans (ha q hq)
  have hk := w_apk (x := (0, 7, [])) hk
  have hg : wG S (S28 ++ [(0, 7, [])]) n (n + 15) k := wG_app (t := 0) (N := 7) (fs := []) hg (by simp)
  generalize hs29 : S28 ++ [(0, 7, [])] = S29 at hk hg ⊢
  refine w_putR2 X dX11_init_121 rfl (ci := 11) (C := RX11) (T := TX11) (N := 59) (ty0 := tyX11) (ty := tyX11 24) (j := 24) rfl wcl_11 tyX11_ok nmX11 (by decide) wd_1198 rfl hin rfl (by decide +kernel) (fun _ => rfl) (fun _ => rfl) hk (Nat.le_of_ble_eq_true rfl) (fs2 := [(0, 0), (0, 0), (2, n), (0, 0), (0, 0), (0, 0), (0, 0), (1, 0), (0, 0), (0, 0), (2, (n + 1)), (2, (n + 2)), (2, (n + 3)), (2, (n + 4)), (2, (n + 5)), (2, (n + 6)), (2, (n + 7)), (2, (n + 8)), (2, (n + 9)), (2, (n + 10)), (2, (n + 11)), (2, (n + 12)), (2, (n + 13)), (0, 0), (2, (n + 14)), (3, 0), (3, 0), (3, 0), (3, 0), (3, 0), (3, 0), (3, 0), (3, 0), (3, 0), (3, 0), (3, 0), (0, 0), (1, 0), (3, 0), (3, 0), (3, 0), (3, 0), (3, 0), (3, 0), (3, 0), (3, 0), (3, 0), (3, 0), (3, 0), (3, 0), (3, 0), (3, 0), (3, 0), (3, 0), (0, 0), (3, 0), (3, 0), (0, 0), (1, 0)]) rfl ?_
  have hg : wG S (S29.set k (17, 0, [(0, 0), (0, 0), (2, n), (0, 0), (0, 0), (0, 0), (0, 0), (1, 0), (0, 0), (0, 0), (2, (n + 1)), (2, (n + 2)), (2, (n + 3)), (2, (n + 4)), (2, (n + 5)), (2, (n + 6)), (2, (n + 7)), (2, (n + 8)), (2, (n + 9)), (2, (n + 10)), (2, (n + 11)), (2, (n + 12)), (2, (n + 13)), (0, 0), (2, (n + 14)), (3, 0), (3, 0), (3, 0), (3, 0), (3, 0), (3, 0), (3, 0), (3, 0), (3, 0), (3, 0), (3, 0), (0, 0), (1, 0), (3, 0), (3, 0), (3, 0), (3, 0), (3, 0), (3, 0), (3, 0), (3, 0), (3, 0), (3, 0), (3, 0), (3, 0), (3, 0), (3, 0), (3, 0), (3, 0), (0, 0), (3, 0), (3, 0), (0, 0), (1, 0)])) n (n + 15) k := wG_set2 (j := 24) (r := (n + 14)) hg hk (by omega) (Or.inl rfl) rfl
  have hk := w_stk (x := (17, 0, [(0, 0), (0, 0), (2, n), (0, 0), (0, 0), (0, 0), (0, 0), (1, 0), (0, 0), (0, 0), (2, (n + 1)), (2, (n + 2)), (2, (n + 3)), (2, (n + 4)), (2, (n + 5)), (2, (n + 6)), (2, (n + 7)), (2, (n + 8)), (2, (n + 9)), (2, (n + 10)), (2, (n + 11)), (2, (n + 12)), (2, (n + 13)), (0, 0), (2, (n + 14)), (3, 0), (3, 0), (3, 0), (3, 0), (3, 0), (3, 0), (3, 0), (3, 0), (3, 0), (3, 0), (3, 0), (0, 0), (1, 0), (3, 0), (3, 0), (3, 0), (3, 0), (3, 0), (3, 0), (3, 0), (3, 0), (3, 0), (3, 0), (3, 0), (3, 0), (3, 0), (3, 0), (3, 0), (3, 0), (0, 0), (3, 0), (3, 0), (0, 0), (1, 0)])) hk
  generalize hs30 : S29.set k (17, 0, [(0, 0), (0, 0), (2, n), (0, 0), (0, 0), (0, 0), (0, 0), (1, 0), (0, 0), (0, 0), (2, (n + 1)), (2, (n + 2)), (2, (n + 3)), (2, (n + 4)), (2, (n + 5)), (2, (n + 6)), (2, (n + 7)), (2, (n + 8)), (2, (n + 9)), (2, (n + 10)), (2, (n + 11)), (2, (n + 12)), (2, (n + 13)), (0, 0), (2, (n + 14)), (3, 0), (3, 0), (3, 0), (3, 0), (3, 0), (3, 0), (3, 0), (3, 0), (3, 0), (3, 0), (3, 0), (0, 0), (1, 0), (3, 0), (3, 0), (3, 0), (3, 0), (3, 0), (3, 0), (3, 0), (3, 0), (3, 0), (3, 0), (3, 0), (3, 0), (3, 0), (3, 0), (3, 0), (3, 0), (0, 0), (3, 0), (3, 0), (0, 0), (1, 0)]) = S30 at hk hg ⊢
  refine w_aload_n X dX11_init_124 rfl rfl rfl ?_
  refine w_bipush X dX11_init_125 rfl cb_7 ?_
  refine w_newaZ X dX11_init_127 rfl wd_1352 (by decide) (N := 7) (by decide) (by decide) hg.2.2.1 hg.1 (by omega) (w_rl ⟨wRf_r (by omega), trivial⟩ ⟨wRf_r (by omega), trivial⟩) ⟨Nat.le_of_ble_eq_true rfl, Nat.le_of_ble_eq_true rfl⟩ (fun ad16 ha16 X => ?_)
  have ha : ∀ q, (q < n ∨ 99999 ≤ q) → ad16 q = ad q := fun q hq => (ha16 q (by omega)).trans (ha q hq)
  have hk := w_apk (x := (2, 7, [])) hk
  have hg : wG S (S30 ++ [(2, 7, [])]) n (n + 16) k := wG_app (t := 2) (N := 7) (fs := []) hg (by simp)
  generalize hs31 : S30 ++ [(2, 7, [])] = S31 at hk hg ⊢
  refine w_putR2 X dX11_init_129 rfl (ci := 11) (C := RX11) (T := TX11) (N := 59) (ty0 := tyX11) (ty := tyX11 25) (j := 25) rfl wcl_11 tyX11_ok nmX11 (by decide) wd_1199 rfl hin rfl (by decide +kernel) (fun _ => rfl) (fun _ => rfl) hk (Nat.le_of_ble_eq_true rfl) (fs2 := [(0, 0), (0, 0), (2, n), (0, 0), (0, 0), (0, 0), (0, 0), (1, 0), (0, 0), (0, 0), (2, (n + 1)), (2, (n + 2)), (2, (n + 3)), (2, (n + 4)), (2, (n + 5)), (2, (n + 6)), (2, (n + 7)), (2, (n + 8)), (2, (n + 9)), (2, (n + 10)), (2, (n + 11)), (2, (n + 12)), (2, (n + 13)), (0, 0), (2, (n + 14)), (2, (n + 15)), (3, 0), (3, 0), (3, 0), (3, 0), (3, 0), (3, 0), (3, 0), (3, 0), (3, 0), (3, 0), (0, 0), (1, 0), (3, 0), (3, 0), (3, 0), (3, 0), (3, 0), (3, 0), (3, 0), (3, 0), (3, 0), (3, 0), (3, 0), (3, 0), (3, 0), (3, 0), (3, 0), (3, 0), (0, 0), (3, 0), (3, 0), (0, 0), (1, 0)]) rfl ?_
  have hg : wG S (S31.set k (17, 0, [(0, 0), (0, 0), (2, n), (0, 0), (0, 0), (0, 0), (0, 0), (1, 0), (0, 0), (0, 0), (2, (n + 1)), (2, (n + 2)), (2, (n + 3)), (2, (n + 4)), (2, (n + 5)), (2, (n + 6)), (2, (n + 7)), (2, (n + 8)), (2, (n + 9)), (2, (n + 10)), (2, (n + 11)), (2, (n + 12)), (2, (n + 13)), (0, 0), (2, (n + 14)), (2, (n + 15)), (3, 0), (3, 0), (3, 0), (3, 0), (3, 0), (3, 0), (3, 0), (3, 0), (3, 0), (3, 0), (0, 0), (1, 0), (3, 0), (3, 0), (3, 0), (3, 0), (3, 0), (3, 0), (3, 0), (3, 0), (3, 0), (3, 0), (3, 0), (3, 0), (3, 0), (3, 0), (3, 0), (3, 0), (0, 0), (3, 0), (3, 0), (0, 0), (1, 0)])) n (n + 16) k := wG_set2 (j := 25) (r := (n + 15)) hg hk (by omega) (Or.inl rfl) rfl
  have hk := w_stk (x := (17, 0, [(0, 0), (0, 0), (2, n), (0, 0), (0, 0), (0, 0), (0, 0), (1, 0), (0, 0), (0, 0), (2, (n + 1)), (2, (n + 2)), (2, (n + 3)), (2, (n + 4)), (2, (n + 5)), (2, (n + 6)), (2, (n + 7)), (2, (n + 8)), (2, (n + 9)), (2, (n + 10)), (2, (n + 11)), (2, (n + 12)), (2, (n + 13)), (0, 0), (2, (n + 14)), (2, (n + 15)), (3, 0), (3, 0), (3, 0), (3, 0), (3, 0), (3, 0), (3, 0), (3, 0), (3, 0), (3, 0), (0, 0), (1, 0), (3, 0), (3, 0), (3, 0), (3, 0), (3, 0), (3, 0), (3, 0), (3, 0), (3, 0), (3, 0), (3, 0), (3, 0), (3, 0), (3, 0), (3, 0), (3, 0), (0, 0), (3, 0), (3, 0), (0, 0), (1, 0)])) hk
  generalize hs32 : S31.set k (17, 0, [(0, 0), (0, 0), (2, n), (0, 0), (0, 0), (0, 0), (0, 0), (1, 0), (0, 0), (0, 0), (2, (n + 1)), (2, (n + 2)), (2, (n + 3)), (2, (n + 4)), (2, (n + 5)), (2, (n + 6)), (2, (n + 7)), (2, (n + 8)), (2, (n + 9)), (2, (n + 10)), (2, (n + 11)), (2, (n + 12)), (2, (n + 13)), (0, 0), (2, (n + 14)), (2, (n + 15)), (3, 0), (3, 0), (3, 0), (3, 0), (3, 0), (3, 0), (3, 0), (3, 0), (3, 0), (3, 0), (0, 0), (1, 0), (3, 0), (3, 0), (3, 0), (3, 0), (3, 0), (3, 0), (3, 0), (3, 0), (3, 0), (3, 0), (3, 0), (3, 0), (3, 0), (3, 0), (3, 0), (3, 0), (0, 0), (3, 0), (3, 0), (0, 0), (1, 0)]) = S32 at hk hg ⊢
  refine w_aload_n X dX11_init_132 rfl rfl rfl ?_
  refine w_bipush X dX11_init_133 rfl cb_7 ?_
  refine w_newaI X dX11_init_135 rfl wd_97 (by decide) (N := 7) (by decide) (by decide) hg.2.2.1 hg.1 (by omega) (w_rl ⟨wRf_r (by omega), trivial⟩ ⟨wRf_r (by omega), trivial⟩) ⟨Nat.le_of_ble_eq_true rfl, Nat.le_of_ble_eq_true rfl⟩ (fun ad17 ha17 X => ?_)
  have ha : ∀ q, (q < n ∨ 99999 ≤ q) → ad17 q = ad q := fun q hq => (ha17 q (by omega)).trans (ha q hq)
  have hk := w_apk (x := (0, 7, [])) hk
  have hg : wG S (S32 ++ [(0, 7, [])]) n (n + 17) k := wG_app (t := 0) (N := 7) (fs := []) hg (by simp)
  generalize hs33 : S32 ++ [(0, 7, [])] = S33 at hk hg ⊢
  refine w_putR2 X dX11_init_137 rfl (ci := 11) (C := RX11) (T := TX11) (N := 59) (ty0 := tyX11) (ty := tyX11 26) (j := 26) rfl wcl_11 tyX11_ok nmX11 (by decide) wd_1200 rfl hin rfl (by decide +kernel) (fun _ => rfl) (fun _ => rfl) hk (Nat.le_of_ble_eq_true rfl) (fs2 := [(0, 0), (0, 0), (2, n), (0, 0), (0, 0), (0, 0), (0, 0), (1, 0), (0, 0), (0, 0), (2, (n + 1)), (2, (n + 2)), (2, (n + 3)), (2, (n + 4)), (2, (n + 5)), (2, (n + 6)), (2, (n + 7)), (2, (n + 8)), (2, (n + 9)), (2, (n + 10)), (2, (n + 11)), (2, (n + 12)), (2, (n + 13)), (0, 0), (2, (n + 14)), (2, (n + 15)), (2, (n + 16)), (3, 0), (3, 0), (3, 0), (3, 0), (3, 0), (3, 0), (3, 0), (3, 0), (3, 0), (0, 0), (1, 0), (3, 0), (3, 0), (3, 0), (3, 0), (3, 0), (3, 0), (3, 0), (3, 0), (3, 0), (3, 0), (3, 0), (3, 0), (3, 0), (3, 0), (3, 0), (3, 0), (0, 0), (3, 0), (3, 0), (0, 0), (1, 0)]) rfl ?_
  have hg : wG S (S33.set k (17, 0, [(0, 0), (0, 0), (2, n), (0, 0), (0, 0), (0, 0), (0, 0), (1, 0), (0, 0), (0, 0), (2, (n + 1)), (2, (n + 2)), (2, (n + 3)), (2, (n + 4)), (2, (n + 5)), (2, (n + 6)), (2, (n + 7)), (2, (n + 8)), (2, (n + 9)), (2, (n + 10)), (2, (n + 11)), (2, (n + 12)), (2, (n + 13)), (0, 0), (2, (n + 14)), (2, (n + 15)), (2, (n + 16)), (3, 0), (3, 0), (3, 0), (3, 0), (3, 0), (3, 0), (3, 0), (3, 0), (3, 0), (0, 0), (1, 0), (3, 0), (3, 0), (3, 0), (3, 0), (3, 0), (3, 0), (3, 0), (3, 0), (3, 0), (3, 0), (3, 0), (3, 0), (3, 0), (3, 0), (3, 0), (3, 0), (0, 0), (3, 0), (3, 0), (0, 0), (1, 0)])) n (n + 17) k := wG_set2 (j := 26) (r := (n + 16)) hg hk (by omega) (Or.inl rfl) rfl
  have hk := w_stk (x := (17, 0, [(0, 0), (0, 0), (2, n), (0, 0), (0, 0), (0, 0), (0, 0), (1, 0), (0, 0), (0, 0), (2, (n + 1)), (2, (n + 2)), (2, (n + 3)), (2, (n + 4)), (2, (n + 5)), (2, (n + 6)), (2, (n + 7)), (2, (n + 8)), (2, (n + 9)), (2, (n + 10)), (2, (n + 11)), (2, (n + 12)), (2, (n + 13)), (0, 0), (2, (n + 14)), (2, (n + 15)), (2, (n + 16)), (3, 0), (3, 0), (3, 0), (3, 0), (3, 0), (3, 0), (3, 0), (3, 0), (3, 0), (0, 0), (1, 0), (3, 0), (3, 0), (3, 0), (3, 0), (3, 0), (3, 0), (3, 0), (3, 0), (3, 0), (3, 0), (3, 0), (3, 0), (3, 0), (3, 0), (3, 0), (3, 0), (0, 0), (3, 0), (3, 0), (0, 0), (1, 0)])) hk
  generalize hs34 : S33.set k (17, 0, [(0, 0), (0, 0), (2, n), (0, 0), (0, 0), (0, 0), (0, 0), (1, 0), (0, 0), (0, 0), (2, (n + 1)), (2, (n + 2)), (2, (n + 3)), (2, (n + 4)), (2, (n + 5)), (2, (n + 6)), (2, (n + 7)), (2, (n + 8)), (2, (n + 9)), (2, (n + 10)), (2, (n + 11)), (2, (n + 12)), (2, (n + 13)), (0, 0), (2, (n + 14)), (2, (n + 15)), (2, (n + 16)), (3, 0), (3, 0), (3, 0), (3, 0), (3, 0), (3, 0), (3, 0), (3, 0), (3, 0), (0, 0), (1, 0), (3, 0), (3, 0), (3, 0), (3, 0), (3, 0), (3, 0), (3, 0), (3, 0), (3, 0), (3, 0), (3, 0), (3, 0), (3, 0), (3, 0), (3, 0), (3, 0), (0, 0), (3, 0), (3, 0), (0, 0), (1, 0)]) = S34 at hk hg ⊢
  refine w_aload_n X dX11_init_140 rfl rfl rfl ?_
  refine w_bipush X dX11_init_141 rfl cb_7 ?_
  refine w_newaI X dX11_init_143 rfl wd_97 (by decide) (N := 7) (by decide) (by decide) hg.2.2.1 hg.1 (by omega) (w_rl ⟨wRf_r (by omega), trivial⟩ ⟨wRf_r (by omega), trivial⟩) ⟨Nat.le_of_ble_eq_true rfl, Nat.le_of_ble_eq_true rfl⟩ (fun ad18 ha18 X => ?_)
  have ha : ∀ q, (q < n ∨ 99999 ≤ q) → ad18 q = ad q := fun q hq => (ha18 q (by omega)).trans (ha q hq)
  have hk := w_apk (x := (0, 7, [])) hk
  have hg : wG S (S34 ++ [(0, 7, [])]) n (n + 18) k := wG_app (t := 0) (N := 7) (fs := []) hg (by simp)
  generalize hs35 : S34 ++ [(0, 7, [])] = S35 at hk hg ⊢
  refine w_putR2 X dX11_init_145 rfl (ci := 11) (C := RX11) (T := TX11) (N := 59) (ty0 := tyX11) (ty := tyX11 27) (j := 27) rfl wcl_11 tyX11_ok nmX11 (by decide) wd_1201 rfl hin rfl (by decide +kernel) (fun _ => rfl) (fun _ => rfl) hk (Nat.le_of_ble_eq_true rfl) (fs2 := [(0, 0), (0, 0), (2, n), (0, 0), (0, 0), (0, 0), (0, 0), (1, 0), (0, 0), (0, 0), (2, (n + 1)), (2, (n + 2)), (2, (n + 3)), (2, (n + 4)), (2, (n + 5)), (2, (n + 6)), (2, (n + 7)), (2, (n + 8)), (2, (n + 9)), (2, (n + 10)), (2, (n + 11)), (2, (n + 12)), (2, (n + 13)), (0, 0), (2, (n + 14)), (2, (n + 15)), (2, (n + 16)), (2, (n + 17)), (3, 0), (3, 0), (3, 0), (3, 0), (3, 0), (3, 0), (3, 0), (3, 0), (0, 0), (1, 0), (3, 0), (3, 0), (3, 0), (3, 0), (3, 0), (3, 0), (3, 0), (3, 0), (3, 0), (3, 0), (3, 0), (3, 0), (3, 0), (3, 0), (3, 0), (3, 0), (0, 0), (3, 0), (3, 0), (0, 0), (1, 0)]) rfl ?_
  have hg : wG S (S35.set k (17, 0, [(0, 0), (0, 0), (2, n), (0, 0), (0, 0), (0, 0), (0, 0), (1, 0), (0, 0), (0, 0), (2, (n + 1)), (2, (n + 2)), (2, (n + 3)), (2, (n + 4)), (2, (n + 5)), (2, (n + 6)), (2, (n + 7)), (2, (n + 8)), (2, (n + 9)), (2, (n + 10)), (2, (n + 11)), (2, (n + 12)), (2, (n + 13)), (0, 0), (2, (n + 14)), (2, (n + 15)), (2, (n + 16)), (2, (n + 17)), (3, 0), (3, 0), (3, 0), (3, 0), (3, 0), (3, 0), (3, 0), (3, 0), (0, 0), (1, 0), (3, 0), (3, 0), (3, 0), (3, 0), (3, 0), (3, 0), (3, 0), (3, 0), (3, 0), (3, 0), (3, 0), (3, 0), (3, 0), (3, 0), (3, 0), (3, 0), (0, 0), (3, 0), (3, 0), (0, 0), (1, 0)])) n (n + 18) k := wG_set2 (j := 27) (r := (n + 17)) hg hk (by omega) (Or.inl rfl) rfl
  have hk := w_stk (x := (17, 0, [(0, 0), (0, 0), (2, n), (0, 0), (0, 0), (0, 0), (0, 0), (1, 0), (0, 0), (0, 0), (2, (n + 1)), (2, (n + 2)), (2, (n + 3)), (2, (n + 4)), (2, (n + 5)), (2, (n + 6)), (2, (n + 7)), (2, (n + 8)), (2, (n + 9)), (2, (n + 10)), (2, (n + 11)), (2, (n + 12)), (2, (n + 13)), (0, 0), (2, (n + 14)), (2, (n + 15)), (2, (n + 16)), (2, (n + 17)), (3, 0), (3, 0), (3, 0), (3, 0), (3, 0), (3, 0), (3, 0), (3, 0), (0, 0), (1, 0), (3, 0), (3, 0), (3, 0), (3, 0), (3, 0), (3, 0), (3, 0), (3, 0), (3, 0), (3, 0), (3, 0), (3, 0), (3, 0), (3, 0), (3, 0), (3, 0), (0, 0), (3, 0), (3, 0), (0, 0), (1, 0)])) hk
  generalize hs36 : S35.set k (17, 0, [(0, 0), (0, 0), (2, n), (0, 0), (0, 0), (0, 0), (0, 0), (1, 0), (0, 0), (0, 0), (2, (n + 1)), (2, (n + 2)), (2, (n + 3)), (2, (n + 4)), (2, (n + 5)), (2, (n + 6)), (2, (n + 7)), (2, (n + 8)), (2, (n + 9)), (2, (n + 10)), (2, (n + 11)), (2, (n + 12)), (2, (n + 13)), (0, 0), (2, (n + 14)), (2, (n + 15)), (2, (n + 16)), (2, (n + 17)), (3, 0), (3, 0), (3, 0), (3, 0), (3, 0), (3, 0), (3, 0), (3, 0), (0, 0), (1, 0), (3, 0), (3, 0), (3, 0), (3, 0), (3, 0), (3, 0), (3, 0), (3, 0), (3, 0), (3, 0), (3, 0), (3, 0), (3, 0), (3, 0), (3, 0), (3, 0), (0, 0), (3, 0), (3, 0), (0, 0), (1, 0)]) = S36 at hk hg ⊢
  refine w_aload_n X dX11_init_148 rfl rfl rfl ?_
  refine w_bipush X dX11_init_149 rfl cb_7 ?_
  refine w_newaI X dX11_init_151 rfl wd_97 (by decide) (N := 7) (by decide) (by decide) hg.2.2.1 hg.1 (by omega) (w_rl ⟨wRf_r (by omega), trivial⟩ ⟨wRf_r (by omega), trivial⟩) ⟨Nat.le_of_ble_eq_true rfl, Nat.le_of_ble_eq_true rfl⟩ (fun ad19 ha19 X => ?_)
  have ha : ∀ q, (q < n ∨ 99999 ≤ q) → ad19 q = ad q := fun q hq => (ha19 q (by omega)).trans (ha q hq)
  have hk := w_apk (x := (0, 7, [])) hk
  have hg : wG S (S36 ++ [(0, 7, [])]) n (n + 19) k := wG_app (t := 0) (N := 7) (fs := []) hg (by simp)
  generalize hs37 : S36 ++ [(0, 7, [])] = S37 at hk hg ⊢
  refine w_putR2 X dX11_init_153 rfl (ci := 11) (C := RX11) (T := TX11) (N := 59) (ty0 := tyX11) (ty := tyX11 28) (j := 28) rfl wcl_11 tyX11_ok nmX11 (by decide) wd_1202 rfl hin rfl (by decide +kernel) (fun _ => rfl) (fun _ => rfl) hk (Nat.le_of_ble_eq_true rfl) (fs2 := [(0, 0), (0, 0), (2, n), (0, 0), (0, 0), (0, 0), (0, 0), (1, 0), (0, 0), (0, 0), (2, (n + 1)), (2, (n + 2)), (2, (n + 3)), (2, (n + 4)), (2, (n + 5)), (2, (n + 6)), (2, (n + 7)), (2, (n + 8)), (2, (n + 9)), (2, (n + 10)), (2, (n + 11)), (2, (n + 12)), (2, (n + 13)), (0, 0), (2, (n + 14)), (2, (n + 15)), (2, (n + 16)), (2, (n + 17)), (2, (n + 18)), (3, 0), (3, 0), (3, 0), (3, 0), (3, 0), (3, 0), (3, 0), (0, 0), (1, 0), (3, 0), (3, 0), (3, 0), (3, 0), (3, 0), (3, 0), (3, 0), (3, 0), (3, 0), (3, 0), (3, 0), (3, 0), (3, 0), (3, 0), (3, 0), (3, 0), (0, 0), (3, 0), (3, 0), (0, 0), (1, 0)]) rfl ?_
  have hg : wG S (S37.set k (17, 0, [(0, 0), (0, 0), (2, n), (0, 0), (0, 0), (0, 0), (0, 0), (1, 0), (0, 0), (0, 0), (2, (n + 1)), (2, (n + 2)), (2, (n + 3)), (2, (n + 4)), (2, (n + 5)), (2, (n + 6)), (2, (n + 7)), (2, (n + 8)), (2, (n + 9)), (2, (n + 10)), (2, (n + 11)), (2, (n + 12)), (2, (n + 13)), (0, 0), (2, (n + 14)), (2, (n + 15)), (2, (n + 16)), (2, (n + 17)), (2, (n + 18)), (3, 0), (3, 0), (3, 0), (3, 0), (3, 0), (3, 0), (3, 0), (0, 0), (1, 0), (3, 0), (3, 0), (3, 0), (3, 0), (3, 0), (3, 0), (3, 0), (3, 0), (3, 0), (3, 0), (3, 0), (3, 0), (3, 0), (3, 0), (3, 0), (3, 0), (0, 0), (3, 0), (3, 0), (0, 0), (1, 0)])) n (n + 19) k := wG_set2 (j := 28) (r := (n + 18)) hg hk (by omega) (Or.inl rfl) rfl
  have hk := w_stk (x := (17, 0, [(0, 0), (0, 0), (2, n), (0, 0), (0, 0), (0, 0), (0, 0), (1, 0), (0, 0), (0, 0), (2, (n + 1)), (2, (n + 2)), (2, (n + 3)), (2, (n + 4)), (2, (n + 5)), (2, (n + 6)), (2, (n + 7)), (2, (n + 8)), (2, (n + 9)), (2, (n + 10)), (2, (n + 11)), (2, (n + 12)), (2, (n + 13)), (0, 0), (2, (n + 14)), (2, (n + 15)), (2, (n + 16)), (2, (n + 17)), (2, (n + 18)), (3, 0), (3, 0), (3, 0), (3, 0), (3, 0), (3, 0), (3, 0), (0, 0), (1, 0), (3, 0), (3, 0), (3, 0), (3, 0), (3, 0), (3, 0), (3, 0), (3, 0), (3, 0), (3, 0), (3, 0), (3, 0), (3, 0), (3, 0), (3, 0), (3, 0), (0, 0), (3, 0), (3, 0), (0, 0), (1, 0)])) hk
  generalize hs38 : S37.set k (17, 0, [(0, 0), (0, 0), (2, n), (0, 0), (0, 0), (0, 0), (0, 0), (1, 0), (0, 0), (0, 0), (2, (n + 1)), (2, (n + 2)), (2, (n + 3)), (2, (n + 4)), (2, (n + 5)), (2, (n + 6)), (2, (n + 7)), (2, (n + 8)), (2, (n + 9)), (2, (n + 10)), (2, (n + 11)), (2, (n + 12)), (2, (n + 13)), (0, 0), (2, (n + 14)), (2, (n + 15)), (2, (n + 16)), (2, (n + 17)), (2, (n + 18)), (3, 0), (3, 0), (3, 0), (3, 0), (3, 0), (3, 0), (3, 0), (0, 0), (1, 0), (3, 0), (3, 0), (3, 0), (3, 0), (3, 0), (3, 0), (3, 0), (3, 0), (3, 0), (3, 0), (3, 0), (3, 0), (3, 0), (3, 0), (3, 0), (3, 0), (0, 0), (3, 0), (3, 0), (0, 0), (1, 0)]) = S38 at hk hg ⊢
  refine w_aload_n X dX11_init_156 rfl rfl rfl ?_
  refine w_bipush X dX11_init_157 rfl cb_7 ?_
  refine w_newaI X dX11_init_159 rfl wd_97 (by decide) (N := 7) (by decide) (by decide) hg.2.2.1 hg.1 (by omega) (w_rl ⟨wRf_r (by omega), trivial⟩ ⟨wRf_r (by omega), trivial⟩) ⟨Nat.le_of_ble_eq_true rfl, Nat.le_of_ble_eq_true rfl⟩ (fun ad20 ha20 X => ?_)
  have ha : ∀ q, (q < n ∨ 99999 ≤ q) → ad20 q = ad q := fun q hq => (ha20 q (by omega)).trans (ha q hq)
  have hk := w_apk (x := (0, 7, [])) hk
  have hg : wG S (S38 ++ [(0, 7, [])]) n (n + 20) k := wG_app (t := 0) (N := 7) (fs := []) hg (by simp)
  generalize hs39 : S38 ++ [(0, 7, [])] = S39 at hk hg ⊢
  refine w_putR2 X dX11_init_161 rfl (ci := 11) (C := RX11) (T := TX11) (N := 59) (ty0 := tyX11) (ty := tyX11 29) (j := 29) rfl wcl_11 tyX11_ok nmX11 (by decide) wd_1203 rfl hin rfl (by decide +kernel) (fun _ => rfl) (fun _ => rfl) hk (Nat.le_of_ble_eq_true rfl) (fs2 := [(0, 0), (0, 0), (2, n), (0, 0), (0, 0), (0, 0), (0, 0), (1, 0), (0, 0), (0, 0), (2, (n + 1)), (2, (n + 2)), (2, (n + 3)), (2, (n + 4)), (2, (n + 5)), (2, (n + 6)), (2, (n + 7)), (2, (n + 8)), (2, (n + 9)), (2, (n + 10)), (2, (n + 11)), (2, (n + 12)), (2, (n + 13)), (0, 0), (2, (n + 14)), (2, (n + 15)), (2, (n + 16)), (2, (n + 17)), (2, (n + 18)), (2, (n + 19)), (3, 0), (3, 0), (3, 0), (3, 0), (3, 0), (3, 0), (0, 0), (1, 0), (3, 0), (3, 0), (3, 0), (3, 0), (3, 0), (3, 0), (3, 0), (3, 0), (3, 0), (3, 0), (3, 0), (3, 0), (3, 0), (3, 0), (3, 0), (3, 0), (0, 0), (3, 0), (3, 0), (0, 0), (1, 0)]) rfl ?_
  have hg : wG S (S39.set k (17, 0, [(0, 0), (0, 0), (2, n), (0, 0), (0, 0), (0, 0), (0, 0), (1, 0), (0, 0), (0, 0), (2, (n + 1)), (2, (n + 2)), (2, (n + 3)), (2, (n + 4)), (2, (n + 5)), (2, (n + 6)), (2, (n + 7)), (2, (n + 8)), (2, (n + 9)), (2, (n + 10)), (2, (n + 11)), (2, (n + 12)), (2, (n + 13)), (0, 0), (2, (n + 14)), (2, (n + 15)), (2, (n + 16)), (2, (n + 17)), (2, (n + 18)), (2, (n + 19)), (3, 0), (3, 0), (3, 0), (3, 0), (3, 0), (3, 0), (0, 0), (1, 0), (3, 0), (3, 0), (3, 0), (3, 0), (3, 0), (3, 0), (3, 0), (3, 0), (3, 0), (3, 0), (3, 0), (3, 0), (3, 0), (3, 0), (3, 0), (3, 0), (0, 0), (3, 0), (3, 0), (0, 0), (1, 0)])) n (n + 20) k := wG_set2 (j := 29) (r := (n + 19)) hg hk (by omega) (Or.inl rfl) rfl
  have hk := w_stk (x := (17, 0, [(0, 0), (0, 0), (2, n), (0, 0), (0, 0), (0, 0), (0, 0), (1, 0), (0, 0), (0, 0), (2, (n + 1)), (2, (n + 2)), (2, (n + 3)), (2, (n + 4)), (2, (n + 5)), (2, (n + 6)), (2, (n + 7)), (2, (n + 8)), (2, (n + 9)), (2, (n + 10)), (2, (n + 11)), (2, (n + 12)), (2, (n + 13)), (0, 0), (2, (n + 14)), (2, (n + 15)), (2, (n + 16)), (2, (n + 17)), (2, (n + 18)), (2, (n + 19)), (3, 0), (3, 0), (3, 0), (3, 0), (3, 0), (3, 0), (0, 0), (1, 0), (3, 0), (3, 0), (3, 0), (3, 0), (3, 0), (3, 0), (3, 0), (3, 0), (3, 0), (3, 0), (3, 0), (3, 0), (3, 0), (3, 0), (3, 0), (3, 0), (0, 0), (3, 0), (3, 0), (0, 0), (1, 0)])) hk
  generalize hs40 : S39.set k (17, 0, [(0, 0), (0, 0), (2, n), (0, 0), (0, 0), (0, 0), (0, 0), (1, 0), (0, 0), (0, 0), (2, (n + 1)), (2, (n + 2)), (2, (n + 3)), (2, (n + 4)), (2, (n + 5)), (2, (n + 6)), (2, (n + 7)), (2, (n + 8)), (2, (n + 9)), (2, (n + 10)), (2, (n + 11)), (2, (n + 12)), (2, (n + 13)), (0, 0), (2, (n + 14)), (2, (n + 15)), (2, (n + 16)), (2, (n + 17)), (2, (n + 18)), (2, (n + 19)), (3, 0), (3, 0), (3, 0), (3, 0), (3, 0), (3, 0), (0, 0), (1, 0), (3, 0), (3, 0), (3, 0), (3, 0), (3, 0), (3, 0), (3, 0), (3, 0), (3, 0), (3, 0), (3, 0), (3, 0), (3, 0), (3, 0), (3, 0), (3, 0), (0, 0), (3, 0), (3, 0), (0, 0), (1, 0)]) = S40 at hk hg ⊢
  refine w_aload_n X dX11_init_164 rfl rfl rfl ?_
  refine w_bipush X dX11_init_165 rfl cb_7 ?_
  refine w_newaI X dX11_init_167 rfl wd_97 (by decide) (N := 7) (by decide) (by decide) hg.2.2.1 hg.1 (by omega) (w_rl ⟨wRf_r (by omega), trivial⟩ ⟨wRf_r (by omega), trivial⟩) ⟨Nat.le_of_ble_eq_true rfl, Nat.le_of_ble_eq_true rfl⟩ (fun ad21 ha21 X => ?_)
  have ha : ∀ q, (q < n ∨ 99999 ≤ q) → ad21 q = ad q := fun q hq => (ha21 q (by omega)).trans (ha q hq)
  have hk := w_apk (x := (0, 7, [])) hk
  have hg : wG S (S40 ++ [(0, 7, [])]) n (n + 21) k := wG_app (t := 0) (N := 7) (fs := []) hg (by simp)
  generalize hs41 : S40 ++ [(0, 7, [])] = S41 at hk hg ⊢
  refine w_putR2 X dX11_init_169 rfl (ci := 11) (C := RX11) (T := TX11) (N := 59) (ty0 := tyX11) (ty := tyX11 30) (j := 30) rfl wcl_11 tyX11_ok nmX11 (by decide) wd_1204 rfl hin rfl (by decide +kernel) (fun _ => rfl) (fun _ => rfl) hk (Nat.le_of_ble_eq_true rfl) (fs2 := [(0, 0), (0, 0), (2, n), (0, 0), (0, 0), (0, 0), (0, 0), (1, 0), (0, 0), (0, 0), (2, (n + 1)), (2, (n + 2)), (2, (n + 3)), (2, (n + 4)), (2, (n + 5)), (2, (n + 6)), (2, (n + 7)), (2, (n + 8)), (2, (n + 9)), (2, (n + 10)), (2, (n + 11)), (2, (n + 12)), (2, (n + 13)), (0, 0), (2, (n + 14)), (2, (n + 15)), (2, (n + 16)), (2, (n + 17)), (2, (n + 18)), (2, (n + 19)), (2, (n + 20)), (3, 0), (3, 0), (3, 0), (3, 0), (3, 0), (0, 0), (1, 0), (3, 0), (3, 0), (3, 0), (3, 0), (3, 0), (3, 0), (3, 0), (3, 0), (3, 0), (3, 0), (3, 0), (3, 0), (3, 0), (3, 0), (3, 0), (3, 0), (0, 0), (3, 0), (3, 0), (0, 0), (1, 0)]) rfl ?_
  have hg : wG S (S41.set k (17, 0, [(0, 0), (0, 0), (2, n), (0, 0), (0, 0), (0, 0), (0, 0), (1, 0), (0, 0), (0, 0), (2, (n + 1)), (2, (n + 2)), (2, (n + 3)), (2, (n + 4)), (2, (n + 5)), (2, (n + 6)), (2, (n + 7)), (2, (n + 8)), (2, (n + 9)), (2, (n + 10)), (2, (n + 11)), (2, (n + 12)), (2, (n + 13)), (0, 0), (2, (n + 14)), (2, (n + 15)), (2, (n + 16)), (2, (n + 17)), (2, (n + 18)), (2, (n + 19)), (2, (n + 20)), (3, 0), (3, 0), (3, 0), (3, 0), (3, 0), (0, 0), (1, 0), (3, 0), (3, 0), (3, 0), (3, 0), (3, 0), (3, 0), (3, 0), (3, 0), (3, 0), (3, 0), (3, 0), (3, 0), (3, 0), (3, 0), (3, 0), (3, 0), (0, 0), (3, 0), (3, 0), (0, 0), (1, 0)])) n (n + 21) k := wG_set2 (j := 30) (r := (n + 20)) hg hk (by omega) (Or.inl rfl) rfl
  have hk := w_stk (x := (17, 0, [(0, 0), (0, 0), (2, n), (0, 0), (0, 0), (0, 0), (0, 0), (1, 0), (0, 0), (0, 0), (2, (n + 1)), (2, (n + 2)), (2, (n + 3)), (2, (n + 4)), (2, (n + 5)), (2, (n + 6)), (2, (n + 7)), (2, (n + 8)), (2, (n + 9)), (2, (n + 10)), (2, (n + 11)), (2, (n + 12)), (2, (n + 13)), (0, 0), (2, (n + 14)), (2, (n + 15)), (2, (n + 16)), (2, (n + 17)), (2, (n + 18)), (2, (n + 19)), (2, (n + 20)), (3, 0), (3, 0), (3, 0), (3, 0), (3, 0), (0, 0), (1, 0), (3, 0), (3, 0), (3, 0), (3, 0), (3, 0), (3, 0), (3, 0), (3, 0), (3, 0), (3, 0), (3, 0), (3, 0), (3, 0), (3, 0), (3, 0), (3, 0), (0, 0), (3, 0), (3, 0), (0, 0), (1, 0)])) hk
  generalize hs42 : S41.set k (17, 0, [(0, 0), (0, 0), (2, n), (0, 0), (0, 0), (0, 0), (0, 0), (1, 0), (0, 0), (0, 0), (2, (n + 1)), (2, (n + 2)), (2, (n + 3)), (2, (n + 4)), (2, (n + 5)), (2, (n + 6)), (2, (n + 7)), (2, (n + 8)), (2, (n + 9)), (2, (n + 10)), (2, (n + 11)), (2, (n + 12)), (2, (n + 13)), (0, 0), (2, (n + 14)), (2, (n + 15)), (2, (n + 16)), (2, (n + 17)), (2, (n + 18)), (2, (n + 19)), (2, (n + 20)), (3, 0), (3, 0), (3, 0), (3, 0), (3, 0), (0, 0), (1, 0), (3, 0), (3, 0), (3, 0), (3, 0), (3, 0), (3, 0), (3, 0), (3, 0), (3, 0), (3, 0), (3, 0), (3, 0), (3, 0), (3, 0), (3, 0), (3, 0), (0, 0), (3, 0), (3, 0), (0, 0), (1, 0)]) = S42 at hk hg ⊢
  refine w_aload_n X dX11_init_172 rfl rfl rfl ?_
  refine w_bipush X dX11_init_173 rfl cb_7 ?_
  refine w_newaI X dX11_init_175 rfl wd_97 (by decide) (N := 7) (by decide) (by decide) hg.2.2.1 hg.1 (by omega) (w_rl ⟨wRf_r (by omega), trivial⟩ ⟨wRf_r (by omega), trivial⟩) ⟨Nat.le_of_ble_eq_true rfl, Nat.le_of_ble_eq_true rfl⟩ (fun ad22 ha22 X => ?_)
  have ha : ∀ q, (q < n ∨ 99999 ≤ q) → ad22 q = ad q := fun q hq => (ha22 q (by omega)).trans (ha q hq)
  have hk := w_apk (x := (0, 7, [])) hk
  have hg : wG S (S42 ++ [(0, 7, [])]) n (n + 22) k := wG_app (t := 0) (N := 7) (fs := []) hg (by simp)
  generalize hs43 : S42 ++ [(0, 7, [])] = S43 at hk hg ⊢
  refine w_putR2 X dX11_init_177 rfl (ci := 11) (C := RX11) (T := TX11) (N := 59) (ty0 := tyX11) (ty := tyX11 31) (j := 31) rfl wcl_11 tyX11_ok nmX11 (by decide) wd_1205 rfl hin rfl (by decide +kernel) (fun _ => rfl) (fun _ => rfl) hk (Nat.le_of_ble_eq_true rfl) (fs2 := [(0, 0), (0, 0), (2, n), (0, 0), (0, 0), (0, 0), (0, 0), (1, 0), (0, 0), (0, 0), (2, (n + 1)), (2, (n + 2)), (2, (n + 3)), (2, (n + 4)), (2, (n + 5)), (2, (n + 6)), (2, (n + 7)), (2, (n + 8)), (2, (n + 9)), (2, (n + 10)), (2, (n + 11)), (2, (n + 12)), (2, (n + 13)), (0, 0), (2, (n + 14)), (2, (n + 15)), (2, (n + 16)), (2, (n + 17)), (2, (n + 18)), (2, (n + 19)), (2, (n + 20)), (2, (n + 21)), (3, 0), (3, 0), (3, 0), (3, 0), (0, 0), (1, 0), (3, 0), (3, 0), (3, 0), (3, 0), (3, 0), (3, 0), (3, 0), (3, 0), (3, 0), (3, 0), (3, 0), (3, 0), (3, 0), (3, 0), (3, 0), (3, 0), (0, 0), (3, 0), (3, 0), (0, 0), (1, 0)]) rfl ?_
  have hg : wG S (S43.set k (17, 0, [(0, 0), (0, 0), (2, n), (0, 0), (0, 0), (0, 0), (0, 0), (1, 0), (0, 0), (0, 0), (2, (n + 1)), (2, (n + 2)), (2, (n + 3)), (2, (n + 4)), (2, (n + 5)), (2, (n + 6)), (2, (n + 7)), (2, (n + 8)), (2, (n + 9)), (2, (n + 10)), (2, (n + 11)), (2, (n + 12)), (2, (n + 13)), (0, 0), (2, (n + 14)), (2, (n + 15)), (2, (n + 16)), (2, (n + 17)), (2, (n + 18)), (2, (n + 19)), (2, (n + 20)), (2, (n + 21)), (3, 0), (3, 0), (3, 0), (3, 0), (0, 0), (1, 0), (3, 0), (3, 0), (3, 0), (3, 0), (3, 0), (3, 0), (3, 0), (3, 0), (3, 0), (3, 0), (3, 0), (3, 0), (3, 0), (3, 0), (3, 0), (3, 0), (0, 0), (3, 0), (3, 0), (0, 0), (1, 0)])) n (n + 22) k := wG_set2 (j := 31) (r := (n + 21)) hg hk (by omega) (Or.inl rfl) rfl
  have hk := w_stk (x := (17, 0, [(0, 0), (0, 0), (2, n), (0, 0), (0, 0), (0, 0), (0, 0), (1, 0), (0, 0), (0, 0), (2, (n + 1)), (2, (n + 2)), (2, (n + 3)), (2, (n + 4)), (2, (n + 5)), (2, (n + 6)), (2, (n + 7)), (2, (n + 8)), (2, (n + 9)), (2, (n + 10)), (2, (n + 11)), (2, (n + 12)), (2, (n + 13)), (0, 0), (2, (n + 14)), (2, (n + 15)), (2, (n + 16)), (2, (n + 17)), (2, (n + 18)), (2, (n + 19)), (2, (n + 20)), (2, (n + 21)), (3, 0), (3, 0), (3, 0), (3, 0), (0, 0), (1, 0), (3, 0), (3, 0), (3, 0), (3, 0), (3, 0), (3, 0), (3, 0), (3, 0), (3, 0), (3, 0), (3, 0), (3, 0), (3, 0), (3, 0), (3, 0), (3, 0), (0, 0), (3, 0), (3, 0), (0, 0), (1, 0)])) hk
  generalize hs44 : S43.set k (17, 0, [(0, 0), (0, 0), (2, n), (0, 0), (0, 0), (0, 0), (0, 0), (1, 0), (0, 0), (0, 0), (2, (n + 1)), (2, (n + 2)), (2, (n + 3)), (2, (n + 4)), (2, (n + 5)), (2, (n + 6)), (2, (n + 7)), (2, (n + 8)), (2, (n + 9)), (2, (n + 10)), (2, (n + 11)), (2, (n + 12)), (2, (n + 13)), (0, 0), (2, (n + 14)), (2, (n + 15)), (2, (n + 16)), (2, (n + 17)), (2, (n + 18)), (2, (n + 19)), (2, (n + 20)), (2, (n + 21)), (3, 0), (3, 0), (3, 0), (3, 0), (0, 0), (1, 0), (3, 0), (3, 0), (3, 0), (3, 0), (3, 0), (3, 0), (3, 0), (3, 0), (3, 0), (3, 0), (3, 0), (3, 0), (3, 0), (3, 0), (3, 0), (3, 0), (0, 0), (3, 0), (3, 0), (0, 0), (1, 0)]) = S44 at hk hg ⊢
  refine w_aload_n X dX11_init_180 rfl rfl rfl ?_
  refine w_bipush X dX11_init_181 rfl cb_7 ?_
  refine w_newaI X dX11_init_183 rfl wd_97 (by decide) (N := 7) (by decide) (by decide) hg.2.2.1 hg.1 (by omega) (w_rl ⟨wRf_r (by omega), trivial⟩ ⟨wRf_r (by omega), trivial⟩) ⟨Nat.le_of_ble_eq_true rfl, Nat.le_of_ble_eq_true rfl⟩ (fun ad23 ha23 X => ?_)
  have ha : ∀ q, (q < n ∨ 99999 ≤ q) → ad23 q = ad q := fun q hq => (ha23 q (by omega)).trans (ha q hq)
  have hk := w_apk (x := (0, 7, [])) hk
  have hg : wG S (S44 ++ [(0, 7, [])]) n (n + 23) k := wG_app (t := 0) (N := 7) (fs := []) hg (by simp)
  generalize hs45 : S44 ++ [(0, 7, [])] = S45 at hk hg ⊢
  refine w_putR2 X dX11_init_185 rfl (ci := 11) (C := RX11) (T := TX11) (N := 59) (ty0 := tyX11) (ty := tyX11 32) (j := 32) rfl wcl_11 tyX11_ok nmX11 (by decide) wd_1206 rfl hin rfl (by decide +kernel) (fun _ => rfl) (fun _ => rfl) hk (Nat.le_of_ble_eq_true rfl) (fs2 := [(0, 0), (0, 0), (2, n), (0, 0), (0, 0), (0, 0), (0, 0), (1, 0), (0, 0), (0, 0), (2, (n + 1)), (2, (n + 2)), (2, (n + 3)), (2, (n + 4)), (2, (n + 5)), (2, (n + 6)), (2, (n + 7)), (2, (n + 8)), (2, (n + 9)), (2, (n + 10)), (2, (n + 11)), (2, (n + 12)), (2, (n + 13)), (0, 0), (2, (n + 14)), (2, (n + 15)), (2, (n + 16)), (2, (n + 17)), (2, (n + 18)), (2, (n + 19)), (2, (n + 20)), (2, (n + 21)), (2, (n + 22)), (3, 0), (3, 0), (3, 0), (0, 0), (1, 0), (3, 0), (3, 0), (3, 0), (3, 0), (3, 0), (3, 0), (3, 0), (3, 0), (3, 0), (3, 0), (3, 0), (3, 0), (3, 0), (3, 0), (3, 0), (3, 0), (0, 0), (3, 0), (3, 0), (0, 0), (1, 0)]) rfl ?_
  have hg : wG S (S45.set k (17, 0, [(0, 0), (0, 0), (2, n), (0, 0), (0, 0), (0, 0), (0, 0), (1, 0), (0, 0), (0, 0), (2, (n + 1)), (2, (n + 2)), (2, (n + 3)), (2, (n + 4)), (2, (n + 5)), (2, (n + 6)), (2, (n + 7)), (2, (n + 8)), (2, (n + 9)), (2, (n + 10)), (2, (n + 11)), (2, (n + 12)), (2, (n + 13)), (0, 0), (2, (n + 14)), (2, (n + 15)), (2, (n + 16)), (2, (n + 17)), (2, (n + 18)), (2, (n + 19)), (2, (n + 20)), (2, (n + 21)), (2, (n + 22)), (3, 0), (3, 0), (3, 0), (0, 0), (1, 0), (3, 0), (3, 0), (3, 0), (3, 0), (3, 0), (3, 0), (3, 0), (3, 0), (3, 0), (3, 0), (3, 0), (3, 0), (3, 0), (3, 0), (3, 0), (3, 0), (0, 0), (3, 0), (3, 0), (0, 0), (1, 0)])) n (n + 23) k := wG_set2 (j := 32) (r := (n + 22)) hg hk (by omega) (Or.inl rfl) rfl
  have hk := w_stk (x := (17, 0, [(0, 0), (0, 0), (2, n), (0, 0), (0, 0), (0, 0), (0, 0), (1, 0), (0, 0), (0, 0), (2, (n + 1)), (2, (n + 2)), (2, (n + 3)), (2, (n + 4)), (2, (n + 5)), (2, (n + 6)), (2, (n + 7)), (2, (n + 8)), (2, (n + 9)), (2, (n + 10)), (2, (n + 11)), (2, (n + 12)), (2, (n + 13)), (0, 0), (2, (n + 14)), (2, (n + 15)), (2, (n + 16)), (2, (n + 17)), (2, (n + 18)), (2, (n + 19)), (2, (n + 20)), (2, (n + 21)), (2, (n + 22)), (3, 0), (3, 0), (3, 0), (0, 0), (1, 0), (3, 0), (3, 0), (3, 0), (3, 0), (3, 0), (3, 0), (3, 0), (3, 0), (3, 0), (3, 0), (3, 0), (3, 0), (3, 0), (3, 0), (3, 0), (3, 0), (0, 0), (3, 0), (3, 0), (0, 0), (1, 0)])) hk
  generalize hs46 : S45.set k (17, 0, [(0, 0), (0, 0), (2, n), (0, 0), (0, 0), (0, 0), (0, 0), (1, 0), (0, 0), (0, 0), (2, (n + 1)), (2, (n + 2)), (2, (n + 3)), (2, (n + 4)), (2, (n + 5)), (2, (n + 6)), (2, (n + 7)), (2, (n + 8)), (2, (n + 9)), (2, (n + 10)), (2, (n + 11)), (2, (n + 12)), (2, (n + 13)), (0, 0), (2, (n + 14)), (2, (n + 15)), (2, (n + 16)), (2, (n + 17)), (2, (n + 18)), (2, (n + 19)), (2, (n + 20)), (2, (n + 21)), (2, (n + 22)), (3, 0), (3, 0), (3, 0), (0, 0), (1, 0), (3, 0), (3, 0), (3, 0), (3, 0), (3, 0), (3, 0), (3, 0), (3, 0), (3, 0), (3, 0), (3, 0), (3, 0), (3, 0), (3, 0), (3, 0), (3, 0), (0, 0), (3, 0), (3, 0), (0, 0), (1, 0)]) = S46 at hk hg ⊢
  refine w_aload_n X dX11_init_188 rfl rfl rfl ?_
  refine w_bipush X dX11_init_189 rfl cb_7 ?_
  refine w_newaI X dX11_init_191 rfl wd_97 (by decide) (N := 7) (by decide) (by decide) hg.2.2.1 hg.1 (by omega) (w_rl ⟨wRf_r (by omega), trivial⟩ ⟨wRf_r (by omega), trivial⟩) ⟨Nat.le_of_ble_eq_true rfl, Nat.le_of_ble_eq_true rfl⟩ (fun ad24 ha24 X => ?_)
  have ha : ∀ q, (q < n ∨ 99999 ≤ q) → ad24 q = ad q := fun q hq => (ha24 q (by omega)).trans (ha q hq)
  have hk := w_apk (x := (0, 7, [])) hk
  have hg : wG S (S46 ++ [(0, 7, [])]) n (n + 24) k := wG_app (t := 0) (N := 7) (fs := []) hg (by simp)
  generalize hs47 : S46 ++ [(0, 7, [])] = S47 at hk hg ⊢
  refine w_putR2 X dX11_init_193 rfl (ci := 11) (C := RX11) (T := TX11) (N := 59) (ty0 := tyX11) (ty := tyX11 33) (j := 33) rfl wcl_11 tyX11_ok nmX11 (by decide) wd_1207 rfl hin rfl (by decide +kernel) (fun _ => rfl) (fun _ => rfl) hk (Nat.le_of_ble_eq_true rfl) (fs2 := [(0, 0), (0, 0), (2, n), (0, 0), (0, 0), (0, 0), (0, 0), (1, 0), (0, 0), (0, 0), (2, (n + 1)), (2, (n + 2)), (2, (n + 3)), (2, (n + 4)), (2, (n + 5)), (2, (n + 6)), (2, (n + 7)), (2, (n + 8)), (2, (n + 9)), (2, (n + 10)), (2, (n + 11)), (2, (n + 12)), (2, (n + 13)), (0, 0), (2, (n + 14)), (2, (n + 15)), (2, (n + 16)), (2, (n + 17)), (2, (n + 18)), (2, (n + 19)), (2, (n + 20)), (2, (n + 21)), (2, (n + 22)), (2, (n + 23)), (3, 0), (3, 0), (0, 0), (1, 0), (3, 0), (3, 0), (3, 0), (3, 0), (3, 0), (3, 0), (3, 0), (3, 0), (3, 0), (3, 0), (3, 0), (3, 0), (3, 0), (3, 0), (3, 0), (3, 0), (0, 0), (3, 0), (3, 0), (0, 0), (1, 0)]) rfl ?_
  have hg : wG S (S47.set k (17, 0, [(0, 0), (0, 0), (2, n), (0, 0), (0, 0), (0, 0), (0, 0), (1, 0), (0, 0), (0, 0), (2, (n + 1)), (2, (n + 2)), (2, (n + 3)), (2, (n + 4)), (2, (n + 5)), (2, (n + 6)), (2, (n + 7)), (2, (n + 8)), (2, (n + 9)), (2, (n + 10)), (2, (n + 11)), (2, (n + 12)), (2, (n + 13)), (0, 0), (2, (n + 14)), (2, (n + 15)), (2, (n + 16)), (2, (n + 17)), (2, (n + 18)), (2, (n + 19)), (2, (n + 20)), (2, (n + 21)), (2, (n + 22)), (2, (n + 23)), (3, 0), (3, 0), (0, 0), (1, 0), (3, 0), (3, 0), (3, 0), (3, 0), (3, 0), (3, 0), (3, 0), (3, 0), (3, 0), (3, 0), (3, 0), (3, 0), (3, 0), (3, 0), (3, 0), (3, 0), (0, 0), (3, 0), (3, 0), (0, 0), (1, 0)])) n (n + 24) k := wG_set2 (j := 33) (r := (n + 23)) hg hk (by omega) (Or.inl rfl) rfl
  have hk := w_stk (x := (17, 0, [(0, 0), (0, 0), (2, n), (0, 0), (0, 0), (0, 0), (0, 0), (1, 0), (0, 0), (0, 0), (2, (n + 1)), (2, (n + 2)), (2, (n + 3)), (2, (n + 4)), (2, (n + 5)), (2, (n + 6)), (2, (n + 7)), (2, (n + 8)), (2, (n + 9)), (2, (n + 10)), (2, (n + 11)), (2, (n + 12)), (2, (n + 13)), (0, 0), (2, (n + 14)), (2, (n + 15)), (2, (n + 16)), (2, (n + 17)), (2, (n + 18)), (2, (n + 19)), (2, (n + 20)), (2, (n + 21)), (2, (n + 22)), (2, (n + 23)), (3, 0), (3, 0), (0, 0), (1, 0), (3, 0), (3, 0), (3, 0), (3, 0), (3, 0), (3, 0), (3, 0), (3, 0), (3, 0), (3, 0), (3, 0), (3, 0), (3, 0), (3, 0), (3, 0), (3, 0), (0, 0), (3, 0), (3, 0), (0, 0), (1, 0)])) hk
  generalize hs48 : S47.set k (17, 0, [(0, 0), (0, 0), (2, n), (0, 0), (0, 0), (0, 0), (0, 0), (1, 0), (0, 0), (0, 0), (2, (n + 1)), (2, (n + 2)), (2, (n + 3)), (2, (n + 4)), (2, (n + 5)), (2, (n + 6)), (2, (n + 7)), (2, (n + 8)), (2, (n + 9)), (2, (n + 10)), (2, (n + 11)), (2, (n + 12)), (2, (n + 13)), (0, 0), (2, (n + 14)), (2, (n + 15)), (2, (n + 16)), (2, (n + 17)), (2, (n + 18)), (2, (n + 19)), (2, (n + 20)), (2, (n + 21)), (2, (n + 22)), (2, (n + 23)), (3, 0), (3, 0), (0, 0), (1, 0), (3, 0), (3, 0), (3, 0), (3, 0), (3, 0), (3, 0), (3, 0), (3, 0), (3, 0), (3, 0), (3, 0), (3, 0), (3, 0), (3, 0), (3, 0), (3, 0), (0, 0), (3, 0), (3, 0), (0, 0), (1, 0)]) = S48 at hk hg ⊢
  refine w_aload_n X dX11_init_196 rfl rfl rfl ?_
  refine w_bipush X dX11_init_197 rfl cb_7 ?_
  refine w_newaI X dX11_init_199 rfl wd_97 (by decide) (N := 7) (by decide) (by decide) hg.2.2.1 hg.1 (by omega) (w_rl ⟨wRf_r (by omega), trivial⟩ ⟨wRf_r (by omega), trivial⟩) ⟨Nat.le_of_ble_eq_true rfl, Nat.le_of_ble_eq_true rfl⟩ (fun ad25 ha25 X => ?_)
  have ha : ∀ q, (q < n ∨ 99999 ≤ q) → ad25 q = ad q := fun q hq => (ha25 q (by omega)).trans (ha q hq)
  have hk := w_apk (x := (0, 7, [])) hk
  have hg : wG S (S48 ++ [(0, 7, [])]) n (n + 25) k := wG_app (t := 0) (N := 7) (fs := []) hg (by simp)
  generalize hs49 : S48 ++ [(0, 7, [])] = S49 at hk hg ⊢
  refine w_putR2 X dX11_init_201 rfl (ci := 11) (C := RX11) (T := TX11) (N := 59) (ty0 := tyX11) (ty := tyX11 34) (j := 34) rfl wcl_11 tyX11_ok nmX11 (by decide) wd_1208 rfl hin rfl (by decide +kernel) (fun _ => rfl) (fun _ => rfl) hk (Nat.le_of_ble_eq_true rfl) (fs2 := [(0, 0), (0, 0), (2, n), (0, 0), (0, 0), (0, 0), (0, 0), (1, 0), (0, 0), (0, 0), (2, (n + 1)), (2, (n + 2)), (2, (n + 3)), (2, (n + 4)), (2, (n + 5)), (2, (n + 6)), (2, (n + 7)), (2, (n + 8)), (2, (n + 9)), (2, (n + 10)), (2, (n + 11)), (2, (n + 12)), (2, (n + 13)), (0, 0), (2, (n + 14)), (2, (n + 15)), (2, (n + 16)), (2, (n + 17)), (2, (n + 18)), (2, (n + 19)), (2, (n + 20)), (2, (n + 21)), (2, (n + 22)), (2, (n + 23)), (2, (n + 24)), (3, 0), (0, 0), (1, 0), (3, 0), (3, 0), (3, 0), (3, 0), (3, 0), (3, 0), (3, 0), (3, 0), (3, 0), (3, 0), (3, 0), (3, 0), (3, 0), (3, 0), (3, 0), (3, 0), (0, 0), (3, 0), (3, 0), (0, 0), (1, 0)]) rfl ?_
  have hg : wG S (S49.set k (17, 0, [(0, 0), (0, 0), (2, n), (0, 0), (0, 0), (0, 0), (0, 0), (1, 0), (0, 0), (0, 0), (2, (n + 1)), (2, (n + 2)), (2, (n + 3)), (2, (n + 4)), (2, (n + 5)), (2, (n + 6)), (2, (n + 7)), (2, (n + 8)), (2, (n + 9)), (2, (n + 10)), (2, (n + 11)), (2, (n + 12)), (2, (n + 13)), (0, 0), (2, (n + 14)), (2, (n + 15)), (2, (n + 16)), (2, (n + 17)), (2, (n + 18)), (2, (n + 19)), (2, (n + 20)), (2, (n + 21)), (2, (n + 22)), (2, (n + 23)), (2, (n + 24)), (3, 0), (0, 0), (1, 0), (3, 0), (3, 0), (3, 0), (3, 0), (3, 0), (3, 0), (3, 0), (3, 0), (3, 0), (3, 0), (3, 0), (3, 0), (3, 0), (3, 0), (3, 0), (3, 0), (0, 0), (3, 0), (3, 0), (0, 0), (1, 0)])) n (n + 25) k := wG_set2 (j := 34) (r := (n + 24)) hg hk (by omega) (Or.inl rfl) rfl
  have hk := w_stk (x := (17, 0, [(0, 0), (0, 0), (2, n), (0, 0), (0, 0), (0, 0), (0, 0), (1, 0), (0, 0), (0, 0), (2, (n + 1)), (2, (n + 2)), (2, (n + 3)), (2, (n + 4)), (2, (n + 5)), (2, (n + 6)), (2, (n + 7)), (2, (n + 8)), (2, (n + 9)), (2, (n + 10)), (2, (n + 11)), (2, (n + 12)), (2, (n + 13)), (0, 0), (2, (n + 14)), (2, (n + 15)), (2, (n + 16)), (2, (n + 17)), (2, (n + 18)), (2, (n + 19)), (2, (n + 20)), (2, (n + 21)), (2, (n + 22)), (2, (n + 23)), (2, (n + 24)), (3, 0), (0, 0), (1, 0), (3, 0), (3, 0), (3, 0), (3, 0), (3, 0), (3, 0), (3, 0), (3, 0), (3, 0), (3, 0), (3, 0), (3, 0), (3, 0), (3, 0), (3, 0), (3, 0), (0, 0), (3, 0), (3, 0), (0, 0), (1, 0)])) hk
  generalize hs50 : S49.set k (17, 0, [(0, 0), (0, 0), (2, n), (0, 0), (0, 0), (0, 0), (0, 0), (1, 0), (0, 0), (0, 0), (2, (n + 1)), (2, (n + 2)), (2, (n + 3)), (2, (n + 4)), (2, (n + 5)), (2, (n + 6)), (2, (n + 7)), (2, (n + 8)), (2, (n + 9)), (2, (n + 10)), (2, (n + 11)), (2, (n + 12)), (2, (n + 13)), (0, 0), (2, (n + 14)), (2, (n + 15)), (2, (n + 16)), (2, (n + 17)), (2, (n + 18)), (2, (n + 19)), (2, (n + 20)), (2, (n + 21)), (2, (n + 22)), (2, (n + 23)), (2, (n + 24)), (3, 0), (0, 0), (1, 0), (3, 0), (3, 0), (3, 0), (3, 0), (3, 0), (3, 0), (3, 0), (3, 0), (3, 0), (3, 0), (3, 0), (3, 0), (3, 0), (3, 0), (3, 0), (3, 0), (0, 0), (3, 0), (3, 0), (0, 0), (1, 0)]) = S50 at hk hg ⊢
  refine w_aload_n X dX11_init_204 rfl rfl rfl ?_
  refine w_bipush X dX11_init_205 rfl cb_20 ?_
  refine w_newaI X dX11_init_207 rfl wd_97 (by decide) (N := 20) (by decide) (by decide) hg.2.2.1 hg.1 (by omega) (w_rl ⟨wRf_r (by omega), trivial⟩ ⟨wRf_r (by omega), trivial⟩) ⟨Nat.le_of_ble_eq_true rfl, Nat.le_of_ble_eq_true rfl⟩ (fun ad26 ha26 X => ?_)
  have ha : ∀ q, (q < n ∨ 99999 ≤ q) → ad26 q = ad q := fun q hq => (ha26 q (by omega)).trans (ha q hq)
  have hk := w_apk (x := (0, 20, [])) hk
  have hg : wG S (S50 ++ [(0, 20, [])]) n (n + 26) k := wG_app (t := 0) (N := 20) (fs := []) hg (by simp)
  generalize hs51 : S50 ++ [(0, 20, [])] = S51 at hk hg ⊢
  refine w_putR2 X dX11_init_209 rfl (ci := 11) (C := RX11) (T := TX11) (N := 59) (ty0 := tyX11) (ty := tyX11 35) (j := 35) rfl wcl_11 tyX11_ok nmX11 (by decide) wd_1209 rfl hin rfl (by decide +kernel) (fun _ => rfl) (fun _ => rfl) hk (Nat.le_of_ble_eq_true rfl) (fs2 := [(0, 0), (0, 0), (2, n), (0, 0), (0, 0), (0, 0), (0, 0), (1, 0), (0, 0), (0, 0), (2, (n + 1)), (2, (n + 2)), (2, (n + 3)), (2, (n + 4)), (2, (n + 5)), (2, (n + 6)), (2, (n + 7)), (2, (n + 8)), (2, (n + 9)), (2, (n + 10)), (2, (n + 11)), (2, (n + 12)), (2, (n + 13)), (0, 0), (2, (n + 14)), (2, (n + 15)), (2, (n + 16)), (2, (n + 17)), (2, (n + 18)), (2, (n + 19)), (2, (n + 20)), (2, (n + 21)), (2, (n + 22)), (2, (n + 23)), (2, (n + 24)), (2, (n + 25)), (0, 0), (1, 0), (3, 0), (3, 0), (3, 0), (3, 0), (3, 0), (3, 0), (3, 0), (3, 0), (3, 0), (3, 0), (3, 0), (3, 0), (3, 0), (3, 0), (3, 0), (3, 0), (0, 0), (3, 0), (3, 0), (0, 0), (1, 0)]) rfl ?_
  have hg : wG S (S51.set k (17, 0, [(0, 0), (0, 0), (2, n), (0, 0), (0, 0), (0, 0), (0, 0), (1, 0), (0, 0), (0, 0), (2, (n + 1)), (2, (n + 2)), (2, (n + 3)), (2, (n + 4)), (2, (n + 5)), (2, (n + 6)), (2, (n + 7)), (2, (n + 8)), (2, (n + 9)), (2, (n + 10)), (2, (n + 11)), (2, (n + 12)), (2, (n + 13)), (0, 0), (2, (n + 14)), (2, (n + 15)), (2, (n + 16)), (2, (n + 17)), (2, (n + 18)), (2, (n + 19)), (2, (n + 20)), (2, (n + 21)), (2, (n + 22)), (2, (n + 23)), (2, (n + 24)), (2, (n + 25)), (0, 0), (1, 0), (3, 0), (3, 0), (3, 0), (3, 0), (3, 0), (3, 0), (3, 0), (3, 0), (3, 0), (3, 0), (3, 0), (3, 0), (3, 0), (3, 0), (3, 0), (3, 0), (0, 0), (3, 0), (3, 0), (0, 0), (1, 0)])) n (n + 26) k := wG_set2 (j := 35) (r := (n + 25)) hg hk (by omega) (Or.inl rfl) rfl
  have hk := w_stk (x := (17, 0, [(0, 0), (0, 0), (2, n), (0, 0), (0, 0), (0, 0), (0, 0), (1, 0), (0, 0), (0, 0), (2, (n + 1)), (2, (n + 2)), (2, (n + 3)), (2, (n + 4)), (2, (n + 5)), (2, (n + 6)), (2, (n + 7)), (2, (n + 8)), (2, (n + 9)), (2, (n + 10)), (2, (n + 11)), (2, (n + 12)), (2, (n + 13)), (0, 0), (2, (n + 14)), (2, (n + 15)), (2, (n + 16)), (2, (n + 17)), (2, (n + 18)), (2, (n + 19)), (2, (n + 20)), (2, (n + 21)), (2, (n + 22)), (2, (n + 23)), (2, (n + 24)), (2, (n + 25)), (0, 0), (1, 0), (3, 0), (3, 0), (3, 0), (3, 0), (3, 0), (3, 0), (3, 0), (3, 0), (3, 0), (3, 0), (3, 0), (3, 0), (3, 0), (3, 0), (3, 0), (3, 0), (0, 0), (3, 0), (3, 0), (0, 0), (1, 0)])) hk
  generalize hs52 : S51.set k (17, 0, [(0, 0), (0, 0), (2, n), (0, 0), (0, 0), (0, 0), (0, 0), (1, 0), (0, 0), (0, 0), (2, (n + 1)), (2, (n + 2)), (2, (n + 3)), (2, (n + 4)), (2, (n + 5)), (2, (n + 6)), (2, (n + 7)), (2, (n + 8)), (2, (n + 9)), (2, (n + 10)), (2, (n + 11)), (2, (n + 12)), (2, (n + 13)), (0, 0), (2, (n + 14)), (2, (n + 15)), (2, (n + 16)), (2, (n + 17)), (2, (n + 18)), (2, (n + 19)), (2, (n + 20)), (2, (n + 21)), (2, (n + 22)), (2, (n + 23)), (2, (n + 24)), (2, (n + 25)), (0, 0), (1, 0), (3, 0), (3, 0), (3, 0), (3, 0), (3, 0), (3, 0), (3, 0), (3, 0), (3, 0), (3, 0), (3, 0), (3, 0), (3, 0), (3, 0), (3, 0), (3, 0), (0, 0), (3, 0), (3, 0), (0, 0), (1, 0)]) = S52 at hk hg ⊢
  refine w_aload_n X dX11_init_212 rfl rfl rfl ?_
  refine w_bipush X dX11_init_213 rfl cb_6 ?_
  refine w_newaI X dX11_init_215 rfl wd_97 (by decide) (N := 6) (by decide) (by decide) hg.2.2.1 hg.1 (by omega) (w_rl ⟨wRf_r (by omega), trivial⟩ ⟨wRf_r (by omega), trivial⟩) ⟨Nat.le_of_ble_eq_true rfl, Nat.le_of_ble_eq_true rfl⟩ (fun ad27 ha27 X => ?_)
  have ha : ∀ q, (q < n ∨ 99999 ≤ q) → ad27 q = ad q := fun q hq => (ha27 q (by omega)).trans (ha q hq)
  have hk := w_apk (x := (0, 6, [])) hk
  have hg : wG S (S52 ++ [(0, 6, [])]) n (n + 27) k := wG_app (t := 0) (N := 6) (fs := []) hg (by simp)
  generalize hs53 : S52 ++ [(0, 6, [])] = S53 at hk hg ⊢
  refine w_putR2 X dX11_init_217 rfl (ci := 11) (C := RX11) (T := TX11) (N := 59) (ty0 := tyX11) (ty := tyX11 38) (j := 38) rfl wcl_11 tyX11_ok nmX11 (by decide) wd_1212 rfl hin rfl (by decide +kernel) (fun _ => rfl) (fun _ => rfl) hk (Nat.le_of_ble_eq_true rfl) (fs2 := [(0, 0), (0, 0), (2, n), (0, 0), (0, 0), (0, 0), (0, 0), (1, 0), (0, 0), (0, 0), (2, (n + 1)), (2, (n + 2)), (2, (n + 3)), (2, (n + 4)), (2, (n + 5)), (2, (n + 6)), (2, (n + 7)), (2, (n + 8)), (2, (n + 9)), (2, (n + 10)), (2, (n + 11)), (2, (n + 12)), (2, (n + 13)), (0, 0), (2, (n + 14)), (2, (n + 15)), (2, (n + 16)), (2, (n + 17)), (2, (n + 18)), (2, (n + 19)), (2, (n + 20)), (2, (n + 21)), (2, (n + 22)), (2, (n + 23)), (2, (n + 24)), (2, (n + 25)), (0, 0), (1, 0), (2, (n + 26)), (3, 0), (3, 0), (3, 0), (3, 0), (3, 0), (3, 0), (3, 0), (3, 0), (3, 0), (3, 0), (3, 0), (3, 0), (3, 0), (3, 0), (3, 0), (0, 0), (3, 0), (3, 0), (0, 0), (1, 0)]) rfl ?_
  have hg : wG S (S53.set k (17, 0, [(0, 0), (0, 0), (2, n), (0, 0), (0, 0), (0, 0), (0, 0), (1, 0), (0, 0), (0, 0), (2, (n + 1)), (2, (n + 2)), (2, (n + 3)), (2, (n + 4)), (2, (n + 5)), (2, (n + 6)), (2, (n + 7)), (2, (n + 8)), (2, (n + 9)), (2, (n + 10)), (2, (n + 11)), (2, (n + 12)), (2, (n + 13)), (0, 0), (2, (n + 14)), (2, (n + 15)), (2, (n + 16)), (2, (n + 17)), (2, (n + 18)), (2, (n + 19)), (2, (n + 20)), (2, (n + 21)), (2, (n + 22)), (2, (n + 23)), (2, (n + 24)), (2, (n + 25)), (0, 0), (1, 0), (2, (n + 26)), (3, 0), (3, 0), (3, 0), (3, 0), (3, 0), (3, 0), (3, 0), (3, 0), (3, 0), (3, 0), (3, 0), (3, 0), (3, 0), (3, 0), (3, 0), (0, 0), (3, 0), (3, 0), (0, 0), (1, 0)])) n (n + 27) k := wG_set2 (j := 38) (r := (n + 26)) hg hk (by omega) (Or.inl rfl) rfl
  have hk := w_stk (x := (17, 0, [(0, 0), (0, 0), (2, n), (0, 0), (0, 0), (0, 0), (0, 0), (1, 0), (0, 0), (0, 0), (2, (n + 1)), (2, (n + 2)), (2, (n + 3)), (2, (n + 4)), (2, (n + 5)), (2, (n + 6)), (2, (n + 7)), (2, (n + 8)), (2, (n + 9)), (2, (n + 10)), (2, (n + 11)), (2, (n + 12)), (2, (n + 13)), (0, 0), (2, (n + 14)), (2, (n + 15)), (2, (n + 16)), (2, (n + 17)), (2, (n + 18)), (2, (n + 19)), (2, (n + 20)), (2, (n + 21)), (2, (n + 22)), (2, (n + 23)), (2, (n + 24)), (2, (n + 25)), (0, 0), (1, 0), (2, (n + 26)), (3, 0), (3, 0), (3, 0), (3, 0), (3, 0), (3, 0), (3, 0), (3, 0), (3, 0), (3, 0), (3, 0), (3, 0), (3, 0), (3, 0), (3, 0), (0, 0), (3, 0), (3, 0), (0, 0), (1, 0)])) hk
  generalize hs54 : S53.set k (17, 0, [(0, 0), (0, 0), (2, n), (0, 0), (0, 0), (0, 0), (0, 0), (1, 0), (0, 0), (0, 0), (2, (n + 1)), (2, (n + 2)), (2, (n + 3)), (2, (n + 4)), (2, (n + 5)), (2, (n + 6)), (2, (n + 7)), (2, (n + 8)), (2, (n + 9)), (2, (n + 10)), (2, (n + 11)), (2, (n + 12)), (2, (n + 13)), (0, 0), (2, (n + 14)), (2, (n + 15)), (2, (n + 16)), (2, (n + 17)), (2, (n + 18)), (2, (n + 19)), (2, (n + 20)), (2, (n + 21)), (2, (n + 22)), (2, (n + 23)), (2, (n + 24)), (2, (n + 25)), (0, 0), (1, 0), (2, (n + 26)), (3, 0), (3, 0), (3, 0), (3, 0), (3, 0), (3, 0), (3, 0), (3, 0), (3, 0), (3, 0), (3, 0), (3, 0), (3, 0), (3, 0), (3, 0), (0, 0), (3, 0), (3, 0), (0, 0), (1, 0)]) = S54 at hk hg ⊢
  refine w_aload_n X dX11_init_220 rfl rfl rfl ?_
  refine w_sipush X dX11_init_221 rfl cs_240 ?_
  refine w_newaI X dX11_init_224 rfl wd_97 (by decide) (N := 240) (by decide) (by decide) hg.2.2.1 hg.1 (by omega) (w_rl ⟨wRf_r (by omega), trivial⟩ ⟨wRf_r (by omega), trivial⟩) ⟨Nat.le_of_ble_eq_true rfl, Nat.le_of_ble_eq_true rfl⟩ (fun ad28 ha28 X => ?_)
  have ha : ∀ q, (q < n ∨ 99999 ≤ q) → ad28 q = ad q := fun q hq => (ha28 q (by omega)).trans (ha q hq)
  have hk := w_apk (x := (0, 240, [])) hk
  have hg : wG S (S54 ++ [(0, 240, [])]) n (n + 28) k := wG_app (t := 0) (N := 240) (fs := []) hg (by simp)
  generalize hs55 : S54 ++ [(0, 240, [])] = S55 at hk hg ⊢
  refine w_putR2 X dX11_init_226 rfl (ci := 11) (C := RX11) (T := TX11) (N := 59) (ty0 := tyX11) (ty := tyX11 39) (j := 39) rfl wcl_11 tyX11_ok nmX11 (by decide) wd_1213 rfl hin rfl (by decide +kernel) (fun _ => rfl) (fun _ => rfl) hk (Nat.le_of_ble_eq_true rfl) (fs2 := [(0, 0), (0, 0), (2, n), (0, 0), (0, 0), (0, 0), (0, 0), (1, 0), (0, 0), (0, 0), (2, (n + 1)), (2, (n + 2)), (2, (n + 3)), (2, (n + 4)), (2, (n + 5)), (2, (n + 6)), (2, (n + 7)), (2, (n + 8)), (2, (n + 9)), (2, (n + 10)), (2, (n + 11)), (2, (n + 12)), (2, (n + 13)), (0, 0), (2, (n + 14)), (2, (n + 15)), (2, (n + 16)), (2, (n + 17)), (2, (n + 18)), (2, (n + 19)), (2, (n + 20)), (2, (n + 21)), (2, (n + 22)), (2, (n + 23)), (2, (n + 24)), (2, (n + 25)), (0, 0), (1, 0), (2, (n + 26)), (2, (n + 27)), (3, 0), (3, 0), (3, 0), (3, 0), (3, 0), (3, 0), (3, 0), (3, 0), (3, 0), (3, 0), (3, 0), (3, 0), (3, 0), (3, 0), (0, 0), (3, 0), (3, 0), (0, 0), (1, 0)]) rfl ?_
  have hg : wG S (S55.set k (17, 0, [(0, 0), (0, 0), (2, n), (0, 0), (0, 0), (0, 0), (0, 0), (1, 0), (0, 0), (0, 0), (2, (n + 1)), (2, (n + 2)), (2, (n + 3)), (2, (n + 4)), (2, (n + 5)), (2, (n + 6)), (2, (n + 7)), (2, (n + 8)), (2, (n + 9)), (2, (n + 10)), (2, (n + 11)), (2, (n + 12)), (2, (n + 13)), (0, 0), (2, (n + 14)), (2, (n + 15)), (2, (n + 16)), (2, (n + 17)), (2, (n + 18)), (2, (n + 19)), (2, (n + 20)), (2, (n + 21)), (2, (n + 22)), (2, (n + 23)), (2, (n + 24)), (2, (n + 25)), (0, 0), (1, 0), (2, (n + 26)), (2, (n + 27)), (3, 0), (3, 0), (3, 0), (3, 0), (3, 0), (3, 0), (3, 0), (3, 0), (3, 0), (3, 0), (3, 0), (3, 0), (3, 0), (3, 0), (0, 0), (3, 0), (3, 0), (0, 0), (1, 0)])) n (n + 28) k := wG_set2 (j := 39) (r := (n + 27)) hg hk (by omega) (Or.inl rfl) rfl
  have hk := w_stk (x := (17, 0, [(0, 0), (0, 0), (2, n), (0, 0), (0, 0), (0, 0), (0, 0), (1, 0), (0, 0), (0, 0), (2, (n + 1)), (2, (n + 2)), (2, (n + 3)), (2, (n + 4)), (2, (n + 5)), (2, (n + 6)), (2, (n + 7)), (2, (n + 8)), (2, (n + 9)), (2, (n + 10)), (2, (n + 11)), (2, (n + 12)), (2, (n + 13)), (0, 0), (2, (n + 14)), (2, (n + 15)), (2, (n + 16)), (2, (n + 17)), (2, (n + 18)), (2, (n + 19)), (2, (n + 20)), (2, (n + 21)), (2, (n + 22)), (2, (n + 23)), (2, (n + 24)), (2, (n + 25)), (0, 0), (1, 0), (2, (n + 26)), (2, (n + 27)), (3, 0), (3, 0), (3, 0), (3, 0), (3, 0), (3, 0), (3, 0), (3, 0), (3, 0), (3, 0), (3, 0), (3, 0), (3, 0), (3, 0), (0, 0), (3, 0), (3, 0), (0, 0), (1, 0)])) hk
  generalize hs56 : S55.set k (17, 0, [(0, 0), (0, 0), (2, n), (0, 0), (0, 0), (0, 0), (0, 0), (1, 0), (0, 0), (0, 0), (2, (n + 1)), (2, (n + 2)), (2, (n + 3)), (2, (n + 4)), (2, (n + 5)), (2, (n + 6)), (2, (n + 7)), (2, (n + 8)), (2, (n + 9)), (2, (n + 10)), (2, (n + 11)), (2, (n + 12)), (2, (n + 13)), (0, 0), (2, (n + 14)), (2, (n + 15)), (2, (n + 16)), (2, (n + 17)), (2, (n + 18)), (2, (n + 19)), (2, (n + 20)), (2, (n + 21)), (2, (n + 22)), (2, (n + 23)), (2, (n + 24)), (2, (n + 25)), (0, 0), (1, 0), (2, (n + 26)), (2, (n + 27)), (3, 0), (3, 0), (3, 0), (3, 0), (3, 0), (3, 0), (3, 0), (3, 0), (3, 0), (3, 0), (3, 0), (3, 0), (3, 0), (3, 0), (0, 0), (3, 0), (3, 0), (0, 0), (1, 0)]) = S56 at hk hg ⊢
  refine w_aload_n X dX11_init_229 rfl rfl rfl ?_
  refine w_sipush X dX11_init_230 rfl cs_240 ?_
  refine w_newaI X dX11_init_233 rfl wd_97 (by decide) (N := 240) (by decide) (by decide) hg.2.2.1 hg.1 (by omega) (w_rl ⟨wRf_r (by omega), trivial⟩ ⟨wRf_r (by omega), trivial⟩) ⟨Nat.le_of_ble_eq_true rfl, Nat.le_of_ble_eq_true rfl⟩ (fun ad29 ha29 X => ?_)
  have ha : ∀ q, (q < n ∨ 99999 ≤ q) → ad29 q = ad q := fun q hq => (ha29 q (by omega)).trans (ha q hq)
  have hk := w_apk (x := (0, 240, [])) hk
  have hg : wG S (S56 ++ [(0, 240, [])]) n (n + 29) k := wG_app (t := 0) (N := 240) (fs := []) hg (by simp)
  generalize hs57 : S56 ++ [(0, 240, [])] = S57 at hk hg ⊢
  refine w_putR2 X dX11_init_235 rfl (ci := 11) (C := RX11) (T := TX11) (N := 59) (ty0 := tyX11) (ty := tyX11 40) (j := 40) rfl wcl_11 tyX11_ok nmX11 (by decide) wd_1214 rfl hin rfl (by decide +kernel) (fun _ => rfl) (fun _ => rfl) hk (Nat.le_of_ble_eq_true rfl) (fs2 := [(0, 0), (0, 0), (2, n), (0, 0), (0, 0), (0, 0), (0, 0), (1, 0), (0, 0), (0, 0), (2, (n + 1)), (2, (n + 2)), (2, (n + 3)), (2, (n + 4)), (2, (n + 5)), (2, (n + 6)), (2, (n + 7)), (2, (n + 8)), (2, (n + 9)), (2, (n + 10)), (2, (n + 11)), (2, (n + 12)), (2, (n + 13)), (0, 0), (2, (n + 14)), (2, (n + 15)), (2, (n + 16)), (2, (n + 17)), (2, (n + 18)), (2, (n + 19)), (2, (n + 20)), (2, (n + 21)), (2, (n + 22)), (2, (n + 23)), (2, (n + 24)), (2, (n + 25)), (0, 0), (1, 0), (2, (n + 26)), (2, (n + 27)), (2, (n + 28)), (3, 0), (3, 0), (3, 0), (3, 0), (3, 0), (3, 0), (3, 0), (3, 0), (3, 0), (3, 0), (3, 0), (3, 0), (3, 0), (0, 0), (3, 0), (3, 0), (0, 0), (1, 0)]) rfl ?_
  have hg : wG S (S57.set k (17, 0, [(0, 0), (0, 0), (2, n), (0, 0), (0, 0), (0, 0), (0, 0), (1, 0), (0, 0), (0, 0), (2, (n + 1)), (2, (n + 2)), (2, (n + 3)), (2, (n + 4)), (2, (n + 5)), (2, (n + 6)), (2, (n + 7)), (2, (n + 8)), (2, (n + 9)), (2, (n + 10)), (2, (n + 11)), (2, (n + 12)), (2, (n + 13)), (0, 0), (2, (n + 14)), (2, (n + 15)), (2, (n + 16)), (2, (n + 17)), (2, (n + 18)), (2, (n + 19)), (2, (n + 20)), (2, (n + 21)), (2, (n + 22)), (2, (n + 23)), (2, (n + 24)), (2, (n + 25)), (0, 0), (1, 0), (2, (n + 26)), (2, (n + 27)), (2, (n + 28)), (3, 0), (3, 0), (3, 0), (3, 0), (3, 0), (3, 0), (3, 0), (3, 0), (3, 0), (3, 0), (3, 0), (3, 0), (3, 0), (0, 0), (3, 0), (3, 0), (0, 0), (1, 0)])) n (n + 29) k := wG_set2 (j := 40) (r := (n + 28)) hg hk (by omega) (Or.inl rfl) rfl
  have hk := w_stk (x := (17, 0, [(0, 0), (0, 0), (2, n), (0, 0), (0, 0), (0, 0), (0, 0), (1, 0), (0, 0), (0, 0), (2, (n + 1)), (2, (n + 2)), (2, (n + 3)), (2, (n + 4)), (2, (n + 5)), (2, (n + 6)), (2, (n + 7)), (2, (n + 8)), (2, (n + 9)), (2, (n + 10)), (2, (n + 11)), (2, (n + 12)), (2, (n + 13)), (0, 0), (2, (n + 14)), (2, (n + 15)), (2, (n + 16)), (2, (n + 17)), (2, (n + 18)), (2, (n + 19)), (2, (n + 20)), (2, (n + 21)), (2, (n + 22)), (2, (n + 23)), (2, (n + 24)), (2, (n + 25)), (0, 0), (1, 0), (2, (n + 26)), (2, (n + 27)), (2, (n + 28)), (3, 0), (3, 0), (3, 0), (3, 0), (3, 0), (3, 0), (3, 0), (3, 0), (3, 0), (3, 0), (3, 0), (3, 0), (3, 0), (0, 0), (3, 0), (3, 0), (0, 0), (1, 0)])) hk
  generalize hs58 : S57.set k (17, 0, [(0, 0), (0, 0), (2, n), (0, 0), (0, 0), (0, 0), (0, 0), (1, 0), (0, 0), (0, 0), (2, (n + 1)), (2, (n + 2)), (2, (n + 3)), (2, (n + 4)), (2, (n + 5)), (2, (n + 6)), (2, (n + 7)), (2, (n + 8)), (2, (n + 9)), (2, (n + 10)), (2, (n + 11)), (2, (n + 12)), (2, (n + 13)), (0, 0), (2, (n + 14)), (2, (n + 15)), (2, (n + 16)), (2, (n + 17)), (2, (n + 18)), (2, (n + 19)), (2, (n + 20)), (2, (n + 21)), (2, (n + 22)), (2, (n + 23)), (2, (n + 24)), (2, (n + 25)), (0, 0), (1, 0), (2, (n + 26)), (2, (n + 27)), (2, (n + 28)), (3, 0), (3, 0), (3, 0), (3, 0), (3, 0), (3, 0), (3, 0), (3, 0), (3, 0), (3, 0), (3, 0), (3, 0), (3, 0), (0, 0), (3, 0), (3, 0), (0, 0), (1, 0)]) = S58 at hk hg ⊢
  refine w_aload_n X dX11_init_238 rfl rfl rfl ?_
  refine w_sipush X dX11_init_239 rfl cs_240 ?_
  refine w_newaI X dX11_init_242 rfl wd_97 (by decide) (N := 240) (by decide) (by decide) hg.2.2.1 hg.1 (by omega) (w_rl ⟨wRf_r (by omega), trivial⟩ ⟨wRf_r (by omega), trivial⟩) ⟨Nat.le_of_ble_eq_true rfl, Nat.le_of_ble_eq_true rfl⟩ (fun ad30 ha30 X => ?_)
  have ha : ∀ q, (q < n ∨ 99999 ≤ q) → ad30 q = ad q := fun q hq => (ha30 q (by omega)).trans (ha q hq)
  have hk := w_apk (x := (0, 240, [])) hk
  have hg : wG S (S58 ++ [(0, 240, [])]) n (n + 30) k := wG_app (t := 0) (N := 240) (fs := []) hg (by simp)
  generalize hs59 : S58 ++ [(0, 240, [])] = S59 at hk hg ⊢
  refine w_putR2 X dX11_init_244 rfl (ci := 11) (C := RX11) (T := TX11) (N := 59) (ty0 := tyX11) (ty := tyX11 41) (j := 41) rfl wcl_11 tyX11_ok nmX11 (by decide) wd_1215 rfl hin rfl (by decide +kernel) (fun _ => rfl) (fun _ => rfl) hk (Nat.le_of_ble_eq_true rfl) (fs2 := [(0, 0), (0, 0), (2, n), (0, 0), (0, 0), (0, 0), (0, 0), (1, 0), (0, 0), (0, 0), (2, (n + 1)), (2, (n + 2)), (2, (n + 3)), (2, (n + 4)), (2, (n + 5)), (2, (n + 6)), (2, (n + 7)), (2, (n + 8)), (2, (n + 9)), (2, (n + 10)), (2, (n + 11)), (2, (n + 12)), (2, (n + 13)), (0, 0), (2, (n + 14)), (2, (n + 15)), (2, (n + 16)), (2, (n + 17)), (2, (n + 18)), (2, (n + 19)), (2, (n + 20)), (2, (n + 21)), (2, (n + 22)), (2, (n + 23)), (2, (n + 24)), (2, (n + 25)), (0, 0), (1, 0), (2, (n + 26)), (2, (n + 27)), (2, (n + 28)), (2, (n + 29)), (3, 0), (3, 0), (3, 0), (3, 0), (3, 0), (3, 0), (3, 0), (3, 0), (3, 0), (3, 0), (3, 0), (3, 0), (0, 0), (3, 0), (3, 0), (0, 0), (1, 0)]) rfl ?_
  have hg : wG S (S59.set k (17, 0, [(0, 0), (0, 0), (2, n), (0, 0), (0, 0), (0, 0), (0, 0), (1, 0), (0, 0), (0, 0), (2, (n + 1)), (2, (n + 2)), (2, (n + 3)), (2, (n + 4)), (2, (n + 5)), (2, (n + 6)), (2, (n + 7)), (2, (n + 8)), (2, (n + 9)), (2, (n + 10)), (2, (n + 11)), (2, (n + 12)), (2, (n + 13)), (0, 0), (2, (n + 14)), (2, (n + 15)), (2, (n + 16)), (2, (n + 17)), (2, (n + 18)), (2, (n + 19)), (2, (n + 20)), (2, (n + 21)), (2, (n + 22)), (2, (n + 23)), (2, (n + 24)), (2, (n + 25)), (0, 0), (1, 0), (2, (n + 26)), (2, (n + 27)), (2, (n + 28)), (2, (n + 29)), (3, 0), (3, 0), (3, 0), (3, 0), (3, 0), (3, 0), (3, 0), (3, 0), (3, 0), (3, 0), (3, 0), (3, 0), (0, 0), (3, 0), (3, 0), (0, 0), (1, 0)])) n (n + 30) k := wG_set2 (j := 41) (r := (n + 29)) hg hk (by omega) (Or.inl rfl) rfl
  have hk := w_stk (x := (17, 0, [(0, 0), (0, 0), (2, n), (0, 0), (0, 0), (0, 0), (0, 0), (1, 0), (0, 0), (0, 0), (2, (n + 1)), (2, (n + 2)), (2, (n + 3)), (2, (n + 4)), (2, (n + 5)), (2, (n + 6)), (2, (n + 7)), (2, (n + 8)), (2, (n + 9)), (2, (n + 10)), (2, (n + 11)), (2, (n + 12)), (2, (n + 13)), (0, 0), (2, (n + 14)), (2, (n + 15)), (2, (n + 16)), (2, (n + 17)), (2, (n + 18)), (2, (n + 19)), (2, (n + 20)), (2, (n + 21)), (2, (n + 22)), (2, (n + 23)), (2, (n + 24)), (2, (n + 25)), (0, 0), (1, 0), (2, (n + 26)), (2, (n + 27)), (2, (n + 28)), (2, (n + 29)), (3, 0), (3, 0), (3, 0), (3, 0), (3, 0), (3, 0), (3, 0), (3, 0), (3, 0), (3, 0), (3, 0), (3, 0), (0, 0), (3, 0), (3, 0), (0, 0), (1, 0)])) hk
  generalize hs60 : S59.set k (17, 0, [(0, 0), (0, 0), (2, n), (0, 0), (0, 0), (0, 0), (0, 0), (1, 0), (0, 0), (0, 0), (2, (n + 1)), (2, (n + 2)), (2, (n + 3)), (2, (n + 4)), (2, (n + 5)), (2, (n + 6)), (2, (n + 7)), (2, (n + 8)), (2, (n + 9)), (2, (n + 10)), (2, (n + 11)), (2, (n + 12)), (2, (n + 13)), (0, 0), (2, (n + 14)), (2, (n + 15)), (2, (n + 16)), (2, (n + 17)), (2, (n + 18)), (2, (n + 19)), (2, (n + 20)), (2, (n + 21)), (2, (n + 22)), (2, (n + 23)), (2, (n + 24)), (2, (n + 25)), (0, 0), (1, 0), (2, (n + 26)), (2, (n + 27)), (2, (n + 28)), (2, (n + 29)), (3, 0), (3, 0), (3, 0), (3, 0), (3, 0), (3, 0), (3, 0), (3, 0), (3, 0), (3, 0), (3, 0), (3, 0), (0, 0), (3, 0), (3, 0), (0, 0), (1, 0)]) = S60 at hk hg ⊢
  refine w_aload_n X dX11_init_247 rfl rfl rfl ?_
  refine w_sipush X dX11_init_248 rfl cs_240 ?_
  refine w_newaI X dX11_init_251 rfl wd_97 (by decide) (N := 240) (by decide) (by decide) hg.2.2.1 hg.1 (by omega) (w_rl ⟨wRf_r (by omega), trivial⟩ ⟨wRf_r (by omega), trivial⟩) ⟨Nat.le_of_ble_eq_true rfl, Nat.le_of_ble_eq_true rfl⟩ (fun ad31 ha31 X => ?_)
  have ha : ∀ q, (q < n ∨ 99999 ≤ q) → ad31 q = ad q := fun q hq => (ha31 q (by omega)).trans (ha q hq)
  have hk := w_apk (x := (0, 240, [])) hk
  have hg : wG S (S60 ++ [(0, 240, [])]) n (n + 31) k := wG_app (t := 0) (N := 240) (fs := []) hg (by simp)
  generalize hs61 : S60 ++ [(0, 240, [])] = S61 at hk hg ⊢
  refine w_putR2 X dX11_init_253 rfl (ci := 11) (C := RX11) (T := TX11) (N := 59) (ty0 := tyX11) (ty := tyX11 42) (j := 42) rfl wcl_11 tyX11_ok nmX11 (by decide) wd_1216 rfl hin rfl (by decide +kernel) (fun _ => rfl) (fun _ => rfl) hk (Nat.le_of_ble_eq_true rfl) (fs2 := [(0, 0), (0, 0), (2, n), (0, 0), (0, 0), (0, 0), (0, 0), (1, 0), (0, 0), (0, 0), (2, (n + 1)), (2, (n + 2)), (2, (n + 3)), (2, (n + 4)), (2, (n + 5)), (2, (n + 6)), (2, (n + 7)), (2, (n + 8)), (2, (n + 9)), (2, (n + 10)), (2, (n + 11)), (2, (n + 12)), (2, (n + 13)), (0, 0), (2, (n + 14)), (2, (n + 15)), (2, (n + 16)), (2, (n + 17)), (2, (n + 18)), (2, (n + 19)), (2, (n + 20)), (2, (n + 21)), (2, (n + 22)), (2, (n + 23)), (2, (n + 24)), (2, (n + 25)), (0, 0), (1, 0), (2, (n + 26)), (2, (n + 27)), (2, (n + 28)), (2, (n + 29)), (2, (n + 30)), (3, 0), (3, 0), (3, 0), (3, 0), (3, 0), (3, 0), (3, 0), (3, 0), (3, 0), (3, 0), (3, 0), (0, 0), (3, 0), (3, 0), (0, 0), (1, 0)]) rfl ?_
  have hg : wG S (S61.set k (17, 0, [(0, 0), (0, 0), (2, n), (0, 0), (0, 0), (0, 0), (0, 0), (1, 0), (0, 0), (0, 0), (2, (n + 1)), (2, (n + 2)), (2, (n + 3)), (2, (n + 4)), (2, (n + 5)), (2, (n + 6)), (2, (n + 7)), (2, (n + 8)), (2, (n + 9)), (2, (n + 10)), (2, (n + 11)), (2, (n + 12)), (2, (n + 13)), (0, 0), (2, (n + 14)), (2, (n + 15)), (2, (n + 16)), (2, (n + 17)), (2, (n + 18)), (2, (n + 19)), (2, (n + 20)), (2, (n + 21)), (2, (n + 22)), (2, (n + 23)), (2, (n + 24)), (2, (n + 25)), (0, 0), (1, 0), (2, (n + 26)), (2, (n + 27)), (2, (n + 28)), (2, (n + 29)), (2, (n + 30)), (3, 0), (3, 0), (3, 0), (3, 0), (3, 0), (3, 0), (3, 0), (3, 0), (3, 0), (3, 0), (3, 0), (0, 0), (3, 0), (3, 0), (0, 0), (1, 0)])) n (n + 31) k := wG_set2 (j := 42) (r := (n + 30)) hg hk (by omega) (Or.inl rfl) rfl
  have hk := w_stk (x := (17, 0, [(0, 0), (0, 0), (2, n), (0, 0), (0, 0), (0, 0), (0, 0), (1, 0), (0, 0), (0, 0), (2, (n + 1)), (2, (n + 2)), (2, (n + 3)), (2, (n + 4)), (2, (n + 5)), (2, (n + 6)), (2, (n + 7)), (2, (n + 8)), (2, (n + 9)), (2, (n + 10)), (2, (n + 11)), (2, (n + 12)), (2, (n + 13)), (0, 0), (2, (n + 14)), (2, (n + 15)), (2, (n + 16)), (2, (n + 17)), (2, (n + 18)), (2, (n + 19)), (2, (n + 20)), (2, (n + 21)), (2, (n + 22)), (2, (n + 23)), (2, (n + 24)), (2, (n + 25)), (0, 0), (1, 0), (2, (n + 26)), (2, (n + 27)), (2, (n + 28)), (2, (n + 29)), (2, (n + 30)), (3, 0), (3, 0), (3, 0), (3, 0), (3, 0), (3, 0), (3, 0), (3, 0), (3, 0), (3, 0), (3, 0), (0, 0), (3, 0), (3, 0), (0, 0), (1, 0)])) hk
  generalize hs62 : S61.set k (17, 0, [(0, 0), (0, 0), (2, n), (0, 0), (0, 0), (0, 0), (0, 0), (1, 0), (0, 0), (0, 0), (2, (n + 1)), (2, (n + 2)), (2, (n + 3)), (2, (n + 4)), (2, (n + 5)), (2, (n + 6)), (2, (n + 7)), (2, (n + 8)), (2, (n + 9)), (2, (n + 10)), (2, (n + 11)), (2, (n + 12)), (2, (n + 13)), (0, 0), (2, (n + 14)), (2, (n + 15)), (2, (n + 16)), (2, (n + 17)), (2, (n + 18)), (2, (n + 19)), (2, (n + 20)), (2, (n + 21)), (2, (n + 22)), (2, (n + 23)), (2, (n + 24)), (2, (n + 25)), (0, 0), (1, 0), (2, (n + 26)), (2, (n + 27)), (2, (n + 28)), (2, (n + 29)), (2, (n + 30)), (3, 0), (3, 0), (3, 0), (3, 0), (3, 0), (3, 0), (3, 0), (3, 0), (3, 0), (3, 0), (3, 0), (0, 0), (3, 0), (3, 0), (0, 0), (1, 0)]) = S62 at hk hg ⊢
  refine w_aload_n X dX11_init_256 rfl rfl rfl ?_
  refine w_iconst X dX11_init_257 rfl ci_5 ?_
  refine w_newaI X dX11_init_258 rfl wd_97 (by decide) (N := 5) (by decide) (by decide) hg.2.2.1 hg.1 (by omega) (w_rl ⟨wRf_r (by omega), trivial⟩ ⟨wRf_r (by omega), trivial⟩) ⟨Nat.le_of_ble_eq_true rfl, Nat.le_of_ble_eq_true rfl⟩ (fun ad32 ha32 X => ?_)
  have ha : ∀ q, (q < n ∨ 99999 ≤ q) → ad32 q = ad q := fun q hq => (ha32 q (by omega)).trans (ha q hq)
  have hk := w_apk (x := (0, 5, [])) hk
  have hg : wG S (S62 ++ [(0, 5, [])]) n (n + 32) k := wG_app (t := 0) (N := 5) (fs := []) hg (by simp)
  generalize hs63 : S62 ++ [(0, 5, [])] = S63 at hk hg ⊢
  refine w_putR2 X dX11_init_260 rfl (ci := 11) (C := RX11) (T := TX11) (N := 59) (ty0 := tyX11) (ty := tyX11 43) (j := 43) rfl wcl_11 tyX11_ok nmX11 (by decide) wd_1217 rfl hin rfl (by decide +kernel) (fun _ => rfl) (fun _ => rfl) hk (Nat.le_of_ble_eq_true rfl) (fs2 := [(0, 0), (0, 0), (2, n), (0, 0), (0, 0), (0, 0), (0, 0), (1, 0), (0, 0), (0, 0), (2, (n + 1)), (2, (n + 2)), (2, (n + 3)), (2, (n + 4)), (2, (n + 5)), (2, (n + 6)), (2, (n + 7)), (2, (n + 8)), (2, (n + 9)), (2, (n + 10)), (2, (n + 11)), (2, (n + 12)), (2, (n + 13)), (0, 0), (2, (n + 14)), (2, (n + 15)), (2, (n + 16)), (2, (n + 17)), (2, (n + 18)), (2, (n + 19)), (2, (n + 20)), (2, (n + 21)), (2, (n + 22)), (2, (n + 23)), (2, (n + 24)), (2, (n + 25)), (0, 0), (1, 0), (2, (n + 26)), (2, (n + 27)), (2, (n + 28)), (2, (n + 29)), (2, (n + 30)), (2, (n + 31)), (3, 0), (3, 0), (3, 0), (3, 0), (3, 0), (3, 0), (3, 0), (3, 0), (3, 0), (3, 0), (0, 0), (3, 0), (3, 0), (0, 0), (1, 0)]) rfl ?_
  have hg : wG S (S63.set k (17, 0, [(0, 0), (0, 0), (2, n), (0, 0), (0, 0), (0, 0), (0, 0), (1, 0), (0, 0), (0, 0), (2, (n + 1)), (2, (n + 2)), (2, (n + 3)), (2, (n + 4)), (2, (n + 5)), (2, (n + 6)), (2, (n + 7)), (2, (n + 8)), (2, (n + 9)), (2, (n + 10)), (2, (n + 11)), (2, (n + 12)), (2, (n + 13)), (0, 0), (2, (n + 14)), (2, (n + 15)), (2, (n + 16)), (2, (n + 17)), (2, (n + 18)), (2, (n + 19)), (2, (n + 20)), (2, (n + 21)), (2, (n + 22)), (2, (n + 23)), (2, (n + 24)), (2, (n + 25)), (0, 0), (1, 0), (2, (n + 26)), (2, (n + 27)), (2, (n + 28)), (2, (n + 29)), (2, (n + 30)), (2, (n + 31)), (3, 0), (3, 0), (3, 0), (3, 0), (3, 0), (3, 0), (3, 0), (3, 0), (3, 0), (3, 0), (0, 0), (3, 0), (3, 0), (0, 0), (1, 0)])) n (n + 32) k := wG_set2 (j := 43) (r := (n + 31)) hg hk (by omega) (Or.inl rfl) rfl
  have hk := w_stk (x := (17, 0, [(0, 0), (0, 0), (2, n), (0, 0), (0, 0), (0, 0), (0, 0), (1, 0), (0, 0), (0, 0), (2, (n + 1)), (2, (n + 2)), (2, (n + 3)), (2, (n + 4)), (2, (n + 5)), (2, (n + 6)), (2, (n + 7)), (2, (n + 8)), (2, (n + 9)), (2, (n + 10)), (2, (n + 11)), (2, (n + 12)), (2, (n + 13)), (0, 0), (2, (n + 14)), (2, (n + 15)), (2, (n + 16)), (2, (n + 17)), (2, (n + 18)), (2, (n + 19)), (2, (n + 20)), (2, (n + 21)), (2, (n + 22)), (2, (n + 23)), (2, (n + 24)), (2, (n + 25)), (0, 0), (1, 0), (2, (n + 26)), (2, (n + 27)), (2, (n + 28)), (2, (n + 29)), (2, (n + 30)), (2, (n + 31)), (3, 0), (3, 0), (3, 0), (3, 0), (3, 0), (3, 0), (3, 0), (3, 0), (3, 0), (3, 0), (0, 0), (3, 0), (3, 0), (0, 0), (1, 0)])) hk
  generalize hs64 : S63.set k (17, 0, [(0, 0), (0, 0), (2, n), (0, 0), (0, 0), (0, 0), (0, 0), (1, 0), (0, 0), (0, 0), (2, (n + 1)), (2, (n + 2)), (2, (n + 3)), (2, (n + 4)), (2, (n + 5)), (2, (n + 6)), (2, (n + 7)), (2, (n + 8)), (2, (n + 9)), (2, (n + 10)), (2, (n + 11)), (2, (n + 12)), (2, (n + 13)), (0, 0), (2, (n + 14)), (2, (n + 15)), (2, (n + 16)), (2, (n + 17)), (2, (n + 18)), (2, (n + 19)), (2, (n + 20)), (2, (n + 21)), (2, (n + 22)), (2, (n + 23)), (2, (n + 24)), (2, (n + 25)), (0, 0), (1, 0), (2, (n + 26)), (2, (n + 27)), (2, (n + 28)), (2, (n + 29)), (2, (n + 30)), (2, (n + 31)), (3, 0), (3, 0), (3, 0), (3, 0), (3, 0), (3, 0), (3, 0), (3, 0), (3, 0), (3, 0), (0, 0), (3, 0), (3, 0), (0, 0), (1, 0)]) = S64 at hk hg ⊢
  refine w_aload_n X dX11_init_263 rfl rfl rfl ?_
  refine w_bipush X dX11_init_264 rfl cb_40 ?_
  refine w_newaI X dX11_init_266 rfl wd_97 (by decide) (N := 40) (by decide) (by decide) hg.2.2.1 hg.1 (by omega) (w_rl ⟨wRf_r (by omega), trivial⟩ ⟨wRf_r (by omega), trivial⟩) ⟨Nat.le_of_ble_eq_true rfl, Nat.le_of_ble_eq_true rfl⟩ (fun ad33 ha33 X => ?_)
  have ha : ∀ q, (q < n ∨ 99999 ≤ q) → ad33 q = ad q := fun q hq => (ha33 q (by omega)).trans (ha q hq)
  have hk := w_apk (x := (0, 40, [])) hk
  have hg : wG S (S64 ++ [(0, 40, [])]) n (n + 33) k := wG_app (t := 0) (N := 40) (fs := []) hg (by simp)
  generalize hs65 : S64 ++ [(0, 40, [])] = S65 at hk hg ⊢
  refine w_putR2 X dX11_init_268 rfl (ci := 11) (C := RX11) (T := TX11) (N := 59) (ty0 := tyX11) (ty := tyX11 44) (j := 44) rfl wcl_11 tyX11_ok nmX11 (by decide) wd_1218 rfl hin rfl (by decide +kernel) (fun _ => rfl) (fun _ => rfl) hk (Nat.le_of_ble_eq_true rfl) (fs2 := [(0, 0), (0, 0), (2, n), (0, 0), (0, 0), (0, 0), (0, 0), (1, 0), (0, 0), (0, 0), (2, (n + 1)), (2, (n + 2)), (2, (n + 3)), (2, (n + 4)), (2, (n + 5)), (2, (n + 6)), (2, (n + 7)), (2, (n + 8)), (2, (n + 9)), (2, (n + 10)), (2, (n + 11)), (2, (n + 12)), (2, (n + 13)), (0, 0), (2, (n + 14)), (2, (n + 15)), (2, (n + 16)), (2, (n + 17)), (2, (n + 18)), (2, (n + 19)), (2, (n + 20)), (2, (n + 21)), (2, (n + 22)), (2, (n + 23)), (2, (n + 24)), (2, (n + 25)), (0, 0), (1, 0), (2, (n + 26)), (2, (n + 27)), (2, (n + 28)), (2, (n + 29)), (2, (n + 30)), (2, (n + 31)), (2, (n + 32)), (3, 0), (3, 0), (3, 0), (3, 0), (3, 0), (3, 0), (3, 0), (3, 0), (3, 0), (0, 0), (3, 0), (3, 0), (0, 0), (1, 0)]) rfl ?_
  have hg : wG S (S65.set k (17, 0, [(0, 0), (0, 0), (2, n), (0, 0), (0, 0), (0, 0), (0, 0), (1, 0), (0, 0), (0, 0), (2, (n + 1)), (2, (n + 2)), (2, (n + 3)), (2, (n + 4)), (2, (n + 5)), (2, (n + 6)), (2, (n + 7)), (2, (n + 8)), (2, (n + 9)), (2, (n + 10)), (2, (n + 11)), (2, (n + 12)), (2, (n + 13)), (0, 0), (2, (n + 14)), (2, (n + 15)), (2, (n + 16)), (2, (n + 17)), (2, (n + 18)), (2, (n + 19)), (2, (n + 20)), (2, (n + 21)), (2, (n + 22)), (2, (n + 23)), (2, (n + 24)), (2, (n + 25)), (0, 0), (1, 0), (2, (n + 26)), (2, (n + 27)), (2, (n + 28)), (2, (n + 29)), (2, (n + 30)), (2, (n + 31)), (2, (n + 32)), (3, 0), (3, 0), (3, 0), (3, 0), (3, 0), (3, 0), (3, 0), (3, 0), (3, 0), (0, 0), (3, 0), (3, 0), (0, 0), (1, 0)])) n (n + 33) k := wG_set2 (j := 44) (r := (n + 32)) hg hk (by omega) (Or.inl rfl) rfl
  have hk := w_stk (x := (17, 0, [(0, 0), (0, 0), (2, n), (0, 0), (0, 0), (0, 0), (0, 0), (1, 0), (0, 0), (0, 0), (2, (n + 1)), (2, (n + 2)), (2, (n + 3)), (2, (n + 4)), (2, (n + 5)), (2, (n + 6)), (2, (n + 7)), (2, (n + 8)), (2, (n + 9)), (2, (n + 10)), (2, (n + 11)), (2, (n + 12)), (2, (n + 13)), (0, 0), (2, (n + 14)), (2, (n + 15)), (2, (n + 16)), (2, (n + 17)), (2, (n + 18)), (2, (n + 19)), (2, (n + 20)), (2, (n + 21)), (2, (n + 22)), (2, (n + 23)), (2, (n + 24)), (2, (n + 25)), (0, 0), (1, 0), (2, (n + 26)), (2, (n + 27)), (2, (n + 28)), (2, (n + 29)), (2, (n + 30)), (2, (n + 31)), (2, (n + 32)), (3, 0), (3, 0), (3, 0), (3, 0), (3, 0), (3, 0), (3, 0), (3, 0), (3, 0), (0, 0), (3, 0), (3, 0), (0, 0), (1, 0)])) hk
  generalize hs66 : S65.set k (17, 0, [(0, 0), (0, 0), (2, n), (0, 0), (0, 0), (0, 0), (0, 0), (1, 0), (0, 0), (0, 0), (2, (n + 1)), (2, (n + 2)), (2, (n + 3)), (2, (n + 4)), (2, (n + 5)), (2, (n + 6)), (2, (n + 7)), (2, (n + 8)), (2, (n + 9)), (2, (n + 10)), (2, (n + 11)), (2, (n + 12)), (2, (n + 13)), (0, 0), (2, (n + 14)), (2, (n + 15)), (2, (n + 16)), (2, (n + 17)), (2, (n + 18)), (2, (n + 19)), (2, (n + 20)), (2, (n + 21)), (2, (n + 22)), (2, (n + 23)), (2, (n + 24)), (2, (n + 25)), (0, 0), (1, 0), (2, (n + 26)), (2, (n + 27)), (2, (n + 28)), (2, (n + 29)), (2, (n + 30)), (2, (n + 31)), (2, (n + 32)), (3, 0), (3, 0), (3, 0), (3, 0), (3, 0), (3, 0), (3, 0), (3, 0), (3, 0), (0, 0), (3, 0), (3, 0), (0, 0), (1, 0)]) = S66 at hk hg ⊢
  refine w_aload_n X dX11_init_271 rfl rfl rfl ?_
  refine w_bipush X dX11_init_272 rfl cb_40 ?_
  refine w_newaI X dX11_init_274 rfl wd_97 (by decide) (N := 40) (by decide) (by decide) hg.2.2.1 hg.1 (by omega) (w_rl ⟨wRf_r (by omega), trivial⟩ ⟨wRf_r (by omega), trivial⟩) ⟨Nat.le_of_ble_eq_true rfl, Nat.le_of_ble_eq_true rfl⟩ (fun ad34 ha34 X => ?_)
  have ha : ∀ q, (q < n ∨ 99999 ≤ q) → ad34 q = ad q := fun q hq => (ha34 q (by omega)).trans (ha q hq)
  have hk := w_apk (x := (0, 40, [])) hk
  have hg : wG S (S66 ++ [(0, 40, [])]) n (n + 34) k := wG_app (t := 0) (N := 40) (fs := []) hg (by simp)
  generalize hs67 : S66 ++ [(0, 40, [])] = S67 at hk hg ⊢
  refine w_putR2 X dX11_init_276 rfl (ci := 11) (C := RX11) (T := TX11) (N := 59) (ty0 := tyX11) (ty := tyX11 45) (j := 45) rfl wcl_11 tyX11_ok nmX11 (by decide) wd_1219 rfl hin rfl (by decide +kernel) (fun _ => rfl) (fun _ => rfl) hk (Nat.le_of_ble_eq_true rfl) (fs2 := [(0, 0), (0, 0), (2, n), (0, 0), (0, 0), (0, 0), (0, 0), (1, 0), (0, 0), (0, 0), (2, (n + 1)), (2, (n + 2)), (2, (n + 3)), (2, (n + 4)), (2, (n + 5)), (2, (n + 6)), (2, (n + 7)), (2, (n + 8)), (2, (n + 9)), (2, (n + 10)), (2, (n + 11)), (2, (n + 12)), (2, (n + 13)), (0, 0), (2, (n + 14)), (2, (n + 15)), (2, (n + 16)), (2, (n + 17)), (2, (n + 18)), (2, (n + 19)), (2, (n + 20)), (2, (n + 21)), (2, (n + 22)), (2, (n + 23)), (2, (n + 24)), (2, (n + 25)), (0, 0), (1, 0), (2, (n + 26)), (2, (n + 27)), (2, (n + 28)), (2, (n + 29)), (2, (n + 30)), (2, (n + 31)), (2, (n + 32)), (2, (n + 33)), (3, 0), (3, 0), (3, 0), (3, 0), (3, 0), (3, 0), (3, 0), (3, 0), (0, 0), (3, 0), (3, 0), (0, 0), (1, 0)]) rfl ?_
  have hg : wG S (S67.set k (17, 0, [(0, 0), (0, 0), (2, n), (0, 0), (0, 0), (0, 0), (0, 0), (1, 0), (0, 0), (0, 0), (2, (n + 1)), (2, (n + 2)), (2, (n + 3)), (2, (n + 4)), (2, (n + 5)), (2, (n + 6)), (2, (n + 7)), (2, (n + 8)), (2, (n + 9)), (2, (n + 10)), (2, (n + 11)), (2, (n + 12)), (2, (n + 13)), (0, 0), (2, (n + 14)), (2, (n + 15)), (2, (n + 16)), (2, (n + 17)), (2, (n + 18)), (2, (n + 19)), (2, (n + 20)), (2, (n + 21)), (2, (n + 22)), (2, (n + 23)), (2, (n + 24)), (2, (n + 25)), (0, 0), (1, 0), (2, (n + 26)), (2, (n + 27)), (2, (n + 28)), (2, (n + 29)), (2, (n + 30)), (2, (n + 31)), (2, (n + 32)), (2, (n + 33)), (3, 0), (3, 0), (3, 0), (3, 0), (3, 0), (3, 0), (3, 0), (3, 0), (0, 0), (3, 0), (3, 0), (0, 0), (1, 0)])) n (n + 34) k := wG_set2 (j := 45) (r := (n + 33)) hg hk (by omega) (Or.inl rfl) rfl
  have hk := w_stk (x := (17, 0, [(0, 0), (0, 0), (2, n), (0, 0), (0, 0), (0, 0), (0, 0), (1, 0), (0, 0), (0, 0), (2, (n + 1)), (2, (n + 2)), (2, (n + 3)), (2, (n + 4)), (2, (n + 5)), (2, (n + 6)), (2, (n + 7)), (2, (n + 8)), (2, (n + 9)), (2, (n + 10)), (2, (n + 11)), (2, (n + 12)), (2, (n + 13)), (0, 0), (2, (n + 14)), (2, (n + 15)), (2, (n + 16)), (2, (n + 17)), (2, (n + 18)), (2, (n + 19)), (2, (n + 20)), (2, (n + 21)), (2, (n + 22)), (2, (n + 23)), (2, (n + 24)), (2, (n + 25)), (0, 0), (1, 0), (2, (n + 26)), (2, (n + 27)), (2, (n + 28)), (2, (n + 29)), (2, (n + 30)), (2, (n + 31)), (2, (n + 32)), (2, (n + 33)), (3, 0), (3, 0), (3, 0), (3, 0), (3, 0), (3, 0), (3, 0), (3, 0), (0, 0), (3, 0), (3, 0), (0, 0), (1, 0)])) hk
  generalize hs68 : S67.set k (17, 0, [(0, 0), (0, 0), (2, n), (0, 0), (0, 0), (0, 0), (0, 0), (1, 0), (0, 0), (0, 0), (2, (n + 1)), (2, (n + 2)), (2, (n + 3)), (2, (n + 4)), (2, (n + 5)), (2, (n + 6)), (2, (n + 7)), (2, (n + 8)), (2, (n + 9)), (2, (n + 10)), (2, (n + 11)), (2, (n + 12)), (2, (n + 13)), (0, 0), (2, (n + 14)), (2, (n + 15)), (2, (n + 16)), (2, (n + 17)), (2, (n + 18)), (2, (n + 19)), (2, (n + 20)), (2, (n + 21)), (2, (n + 22)), (2, (n + 23)), (2, (n + 24)), (2, (n + 25)), (0, 0), (1, 0), (2, (n + 26)), (2, (n + 27)), (2, (n + 28)), (2, (n + 29)), (2, (n + 30)), (2, (n + 31)), (2, (n + 32)), (2, (n + 33)), (3, 0), (3, 0), (3, 0), (3, 0), (3, 0), (3, 0), (3, 0), (3, 0), (0, 0), (3, 0), (3, 0), (0, 0), (1, 0)]) = S68 at hk hg ⊢
  refine w_aload_n X dX11_init_279 rfl rfl rfl ?_
  refine w_bipush X dX11_init_280 rfl cb_40 ?_
  refine w_newaI X dX11_init_282 rfl wd_97 (by decide) (N := 40) (by decide) (by decide) hg.2.2.1 hg.1 (by omega) (w_rl ⟨wRf_r (by omega), trivial⟩ ⟨wRf_r (by omega), trivial⟩) ⟨Nat.le_of_ble_eq_true rfl, Nat.le_of_ble_eq_true rfl⟩ (fun ad35 ha35 X => ?_)
  have ha : ∀ q, (q < n ∨ 99999 ≤ q) → ad35 q = ad q := fun q hq => (ha35 q (by omega)).trans (ha q hq)
  have hk := w_apk (x := (0, 40, [])) hk
  have hg : wG S (S68 ++ [(0, 40, [])]) n (n + 35) k := wG_app (t := 0) (N := 40) (fs := []) hg (by simp)
  generalize hs69 : S68 ++ [(0, 40, [])] = S69 at hk hg ⊢
  refine w_putR2 X dX11_init_284 rfl (ci := 11) (C := RX11) (T := TX11) (N := 59) (ty0 := tyX11) (ty := tyX11 46) (j := 46) rfl wcl_11 tyX11_ok nmX11 (by decide) wd_1220 rfl hin rfl (by decide +kernel) (fun _ => rfl) (fun _ => rfl) hk (Nat.le_of_ble_eq_true rfl) (fs2 := [(0, 0), (0, 0), (2, n), (0, 0), (0, 0), (0, 0), (0, 0), (1, 0), (0, 0), (0, 0), (2, (n + 1)), (2, (n + 2)), (2, (n + 3)), (2, (n + 4)), (2, (n + 5)), (2, (n + 6)), (2, (n + 7)), (2, (n + 8)), (2, (n + 9)), (2, (n + 10)), (2, (n + 11)), (2, (n + 12)), (2, (n + 13)), (0, 0), (2, (n + 14)), (2, (n + 15)), (2, (n + 16)), (2, (n + 17)), (2, (n + 18)), (2, (n + 19)), (2, (n + 20)), (2, (n + 21)), (2, (n + 22)), (2, (n + 23)), (2, (n + 24)), (2, (n + 25)), (0, 0), (1, 0), (2, (n + 26)), (2, (n + 27)), (2, (n + 28)), (2, (n + 29)), (2, (n + 30)), (2, (n + 31)), (2, (n + 32)), (2, (n + 33)), (2, (n + 34)), (3, 0), (3, 0), (3, 0), (3, 0), (3, 0), (3, 0), (3, 0), (0, 0), (3, 0), (3, 0), (0, 0), (1, 0)]) rfl ?_
  have hg : wG S (S69.set k (17, 0, [(0, 0), (0, 0), (2, n), (0, 0), (0, 0), (0, 0), (0, 0), (1, 0), (0, 0), (0, 0), (2, (n + 1)), (2, (n + 2)), (2, (n + 3)), (2, (n + 4)), (2, (n + 5)), (2, (n + 6)), (2, (n + 7)), (2, (n + 8)), (2, (n + 9)), (2, (n + 10)), (2, (n + 11)), (2, (n + 12)), (2, (n + 13)), (0, 0), (2, (n + 14)), (2, (n + 15)), (2, (n + 16)), (2, (n + 17)), (2, (n + 18)), (2, (n + 19)), (2, (n + 20)), (2, (n + 21)), (2, (n + 22)), (2, (n + 23)), (2, (n + 24)), (2, (n + 25)), (0, 0), (1, 0), (2, (n + 26)), (2, (n + 27)), (2, (n + 28)), (2, (n + 29)), (2, (n + 30)), (2, (n + 31)), (2, (n + 32)), (2, (n + 33)), (2, (n + 34)), (3, 0), (3, 0), (3, 0), (3, 0), (3, 0), (3, 0), (3, 0), (0, 0), (3, 0), (3, 0), (0, 0), (1, 0)])) n (n + 35) k := wG_set2 (j := 46) (r := (n + 34)) hg hk (by omega) (Or.inl rfl) rfl
  have hk := w_stk (x := (17, 0, [(0, 0), (0, 0), (2, n), (0, 0), (0, 0), (0, 0), (0, 0), (1, 0), (0, 0), (0, 0), (2, (n + 1)), (2, (n + 2)), (2, (n + 3)), (2, (n + 4)), (2, (n + 5)), (2, (n + 6)), (2, (n + 7)), (2, (n + 8)), (2, (n + 9)), (2, (n + 10)), (2, (n + 11)), (2, (n + 12)), (2, (n + 13)), (0, 0), (2, (n + 14)), (2, (n + 15)), (2, (n + 16)), (2, (n + 17)), (2, (n + 18)), (2, (n + 19)), (2, (n + 20)), (2, (n + 21)), (2, (n + 22)), (2, (n + 23)), (2, (n + 24)), (2, (n + 25)), (0, 0), (1, 0), (2, (n + 26)), (2, (n + 27)), (2, (n + 28)), (2, (n + 29)), (2, (n + 30)), (2, (n + 31)), (2, (n + 32)), (2, (n + 33)), (2, (n + 34)), (3, 0), (3, 0), (3, 0), (3, 0), (3, 0), (3, 0), (3, 0), (0, 0), (3, 0), (3, 0), (0, 0), (1, 0)])) hk
  generalize hs70 : S69.set k (17, 0, [(0, 0), (0, 0), (2, n), (0, 0), (0, 0), (0, 0), (0, 0), (1, 0), (0, 0), (0, 0), (2, (n + 1)), (2, (n + 2)), (2, (n + 3)), (2, (n + 4)), (2, (n + 5)), (2, (n + 6)), (2, (n + 7)), (2, (n + 8)), (2, (n + 9)), (2, (n + 10)), (2, (n + 11)), (2, (n + 12)), (2, (n + 13)), (0, 0), (2, (n + 14)), (2, (n + 15)), (2, (n + 16)), (2, (n + 17)), (2, (n + 18)), (2, (n + 19)), (2, (n + 20)), (2, (n + 21)), (2, (n + 22)), (2, (n + 23)), (2, (n + 24)), (2, (n + 25)), (0, 0), (1, 0), (2, (n + 26)), (2, (n + 27)), (2, (n + 28)), (2, (n + 29)), (2, (n + 30)), (2, (n + 31)), (2, (n + 32)), (2, (n + 33)), (2, (n + 34)), (3, 0), (3, 0), (3, 0), (3, 0), (3, 0), (3, 0), (3, 0), (0, 0), (3, 0), (3, 0), (0, 0), (1, 0)]) = S70 at hk hg ⊢
  refine w_aload_n X dX11_init_287 rfl rfl rfl ?_
  refine w_bipush X dX11_init_288 rfl cb_40 ?_
  refine w_newaZ X dX11_init_290 rfl wd_1352 (by decide) (N := 40) (by decide) (by decide) hg.2.2.1 hg.1 (by omega) (w_rl ⟨wRf_r (by omega), trivial⟩ ⟨wRf_r (by omega), trivial⟩) ⟨Nat.le_of_ble_eq_true rfl, Nat.le_of_ble_eq_true rfl⟩ (fun ad36 ha36 X => ?_)
  have ha : ∀ q, (q < n ∨ 99999 ≤ q) → ad36 q = ad q := fun q hq => (ha36 q (by omega)).trans (ha q hq)
  have hk := w_apk (x := (2, 40, [])) hk
  have hg : wG S (S70 ++ [(2, 40, [])]) n (n + 36) k := wG_app (t := 2) (N := 40) (fs := []) hg (by simp)
  generalize hs71 : S70 ++ [(2, 40, [])] = S71 at hk hg ⊢
  refine w_putR2 X dX11_init_292 rfl (ci := 11) (C := RX11) (T := TX11) (N := 59) (ty0 := tyX11) (ty := tyX11 47) (j := 47) rfl wcl_11 tyX11_ok nmX11 (by decide) wd_1221 rfl hin rfl (by decide +kernel) (fun _ => rfl) (fun _ => rfl) hk (Nat.le_of_ble_eq_true rfl) (fs2 := [(0, 0), (0, 0), (2, n), (0, 0), (0, 0), (0, 0), (0, 0), (1, 0), (0, 0), (0, 0), (2, (n + 1)), (2, (n + 2)), (2, (n + 3)), (2, (n + 4)), (2, (n + 5)), (2, (n + 6)), (2, (n + 7)), (2, (n + 8)), (2, (n + 9)), (2, (n + 10)), (2, (n + 11)), (2, (n + 12)), (2, (n + 13)), (0, 0), (2, (n + 14)), (2, (n + 15)), (2, (n + 16)), (2, (n + 17)), (2, (n + 18)), (2, (n + 19)), (2, (n + 20)), (2, (n + 21)), (2, (n + 22)), (2, (n + 23)), (2, (n + 24)), (2, (n + 25)), (0, 0), (1, 0), (2, (n + 26)), (2, (n + 27)), (2, (n + 28)), (2, (n + 29)), (2, (n + 30)), (2, (n + 31)), (2, (n + 32)), (2, (n + 33)), (2, (n + 34)), (2, (n + 35)), (3, 0), (3, 0), (3, 0), (3, 0), (3, 0), (3, 0), (0, 0), (3, 0), (3, 0), (0, 0), (1, 0)]) rfl ?_
  have hg : wG S (S71.set k (17, 0, [(0, 0), (0, 0), (2, n), (0, 0), (0, 0), (0, 0), (0, 0), (1, 0), (0, 0), (0, 0), (2, (n + 1)), (2, (n + 2)), (2, (n + 3)), (2, (n + 4)), (2, (n + 5)), (2, (n + 6)), (2, (n + 7)), (2, (n + 8)), (2, (n + 9)), (2, (n + 10)), (2, (n + 11)), (2, (n + 12)), (2, (n + 13)), (0, 0), (2, (n + 14)), (2, (n + 15)), (2, (n + 16)), (2, (n + 17)), (2, (n + 18)), (2, (n + 19)), (2, (n + 20)), (2, (n + 21)), (2, (n + 22)), (2, (n + 23)), (2, (n + 24)), (2, (n + 25)), (0, 0), (1, 0), (2, (n + 26)), (2, (n + 27)), (2, (n + 28)), (2, (n + 29)), (2, (n + 30)), (2, (n + 31)), (2, (n + 32)), (2, (n + 33)), (2, (n + 34)), (2, (n + 35)), (3, 0), (3, 0), (3, 0), (3, 0), (3, 0), (3, 0), (0, 0), (3, 0), (3, 0), (0, 0), (1, 0)])) n (n + 36) k := wG_set2 (j := 47) (r := (n + 35)) hg hk (by omega) (Or.inl rfl) rfl
  have hk := w_stk (x := (17, 0, [(0, 0), (0, 0), (2, n), (0, 0), (0, 0), (0, 0), (0, 0), (1, 0), (0, 0), (0, 0), (2, (n + 1)), (2, (n + 2)), (2, (n + 3)), (2, (n + 4)), (2, (n + 5)), (2, (n + 6)), (2, (n + 7)), (2, (n + 8)), (2, (n + 9)), (2, (n + 10)), (2, (n + 11)), (2, (n + 12)), (2, (n + 13)), (0, 0), (2, (n + 14)), (2, (n + 15)), (2, (n + 16)), (2, (n + 17)), (2, (n + 18)), (2, (n + 19)), (2, (n + 20)), (2, (n + 21)), (2, (n + 22)), (2, (n + 23)), (2, (n + 24)), (2, (n + 25)), (0, 0), (1, 0), (2, (n + 26)), (2, (n + 27)), (2, (n + 28)), (2, (n + 29)), (2, (n + 30)), (2, (n + 31)), (2, (n + 32)), (2, (n + 33)), (2, (n + 34)), (2, (n + 35)), (3, 0), (3, 0), (3, 0), (3, 0), (3, 0), (3, 0), (0, 0), (3, 0), (3, 0), (0, 0), (1, 0)])) hk
  generalize hs72 : S71.set k (17, 0, [(0, 0), (0, 0), (2, n), (0, 0), (0, 0), (0, 0), (0, 0), (1, 0), (0, 0), (0, 0), (2, (n + 1)), (2, (n + 2)), (2, (n + 3)), (2, (n + 4)), (2, (n + 5)), (2, (n + 6)), (2, (n + 7)), (2, (n + 8)), (2, (n + 9)), (2, (n + 10)), (2, (n + 11)), (2, (n + 12)), (2, (n + 13)), (0, 0), (2, (n + 14)), (2, (n + 15)), (2, (n + 16)), (2, (n + 17)), (2, (n + 18)), (2, (n + 19)), (2, (n + 20)), (2, (n + 21)), (2, (n + 22)), (2, (n + 23)), (2, (n + 24)), (2, (n + 25)), (0, 0), (1, 0), (2, (n + 26)), (2, (n + 27)), (2, (n + 28)), (2, (n + 29)), (2, (n + 30)), (2, (n + 31)), (2, (n + 32)), (2, (n + 33)), (2, (n + 34)), (2, (n + 35)), (3, 0), (3, 0), (3, 0), (3, 0), (3, 0), (3, 0), (0, 0), (3, 0), (3, 0), (0, 0), (1, 0)]) = S72 at hk hg ⊢
  refine w_aload_n X dX11_init_295 rfl rfl rfl ?_
  refine w_bipush X dX11_init_296 rfl cb_25 ?_
  refine w_newaI X dX11_init_298 rfl wd_97 (by decide) (N := 25) (by decide) (by decide) hg.2.2.1 hg.1 (by omega) (w_rl ⟨wRf_r (by omega), trivial⟩ ⟨wRf_r (by omega), trivial⟩) ⟨Nat.le_of_ble_eq_true rfl, Nat.le_of_ble_eq_true rfl⟩ (fun ad37 ha37 X => ?_)
  have ha : ∀ q, (q < n ∨ 99999 ≤ q) → ad37 q = ad q := fun q hq => (ha37 q (by omega)).trans (ha q hq)
  have hk := w_apk (x := (0, 25, [])) hk
  have hg : wG S (S72 ++ [(0, 25, [])]) n (n + 37) k := wG_app (t := 0) (N := 25) (fs := []) hg (by simp)
  generalize hs73 : S72 ++ [(0, 25, [])] = S73 at hk hg ⊢
  refine w_putR2 X dX11_init_300 rfl (ci := 11) (C := RX11) (T := TX11) (N := 59) (ty0 := tyX11) (ty := tyX11 48) (j := 48) rfl wcl_11 tyX11_ok nmX11 (by decide) wd_1222 rfl hin rfl (by decide +kernel) (fun _ => rfl) (fun _ => rfl) hk (Nat.le_of_ble_eq_true rfl) (fs2 := [(0, 0), (0, 0), (2, n), (0, 0), (0, 0), (0, 0), (0, 0), (1, 0), (0, 0), (0, 0), (2, (n + 1)), (2, (n + 2)), (2, (n + 3)), (2, (n + 4)), (2, (n + 5)), (2, (n + 6)), (2, (n + 7)), (2, (n + 8)), (2, (n + 9)), (2, (n + 10)), (2, (n + 11)), (2, (n + 12)), (2, (n + 13)), (0, 0), (2, (n + 14)), (2, (n + 15)), (2, (n + 16)), (2, (n + 17)), (2, (n + 18)), (2, (n + 19)), (2, (n + 20)), (2, (n + 21)), (2, (n + 22)), (2, (n + 23)), (2, (n + 24)), (2, (n + 25)), (0, 0), (1, 0), (2, (n + 26)), (2, (n + 27)), (2, (n + 28)), (2, (n + 29)), (2, (n + 30)), (2, (n + 31)), (2, (n + 32)), (2, (n + 33)), (2, (n + 34)), (2, (n + 35)), (2, (n + 36)), (3, 0), (3, 0), (3, 0), (3, 0), (3, 0), (0, 0), (3, 0), (3, 0), (0, 0), (1, 0)]) rfl ?_
  have hg : wG S (S73.set k (17, 0, [(0, 0), (0, 0), (2, n), (0, 0), (0, 0), (0, 0), (0, 0), (1, 0), (0, 0), (0, 0), (2, (n + 1)), (2, (n + 2)), (2, (n + 3)), (2, (n + 4)), (2, (n + 5)), (2, (n + 6)), (2, (n + 7)), (2, (n + 8)), (2, (n + 9)), (2, (n + 10)), (2, (n + 11)), (2, (n + 12)), (2, (n + 13)), (0, 0), (2, (n + 14)), (2, (n + 15)), (2, (n + 16)), (2, (n + 17)), (2, (n + 18)), (2, (n + 19)), (2, (n + 20)), (2, (n + 21)), (2, (n + 22)), (2, (n + 23)), (2, (n + 24)), (2, (n + 25)), (0, 0), (1, 0), (2, (n + 26)), (2, (n + 27)), (2, (n + 28)), (2, (n + 29)), (2, (n + 30)), (2, (n + 31)), (2, (n + 32)), (2, (n + 33)), (2, (n + 34)), (2, (n + 35)), (2, (n + 36)), (3, 0), (3, 0), (3, 0), (3, 0), (3, 0), (0, 0), (3, 0), (3, 0), (0, 0), (1, 0)])) n (n + 37) k := wG_set2 (j := 48) (r := (n + 36)) hg hk (by omega) (Or.inl rfl) rfl
  have hk := w_stk (x := (17, 0, [(0, 0), (0, 0), (2, n), (0, 0), (0, 0), (0, 0), (0, 0), (1, 0), (0, 0), (0, 0), (2, (n + 1)), (2, (n + 2)), (2, (n + 3)), (2, (n + 4)), (2, (n + 5)), (2, (n + 6)), (2, (n + 7)), (2, (n + 8)), (2, (n + 9)), (2, (n + 10)), (2, (n + 11)), (2, (n + 12)), (2, (n + 13)), (0, 0), (2, (n + 14)), (2, (n + 15)), (2, (n + 16)), (2, (n + 17)), (2, (n + 18)), (2, (n + 19)), (2, (n + 20)), (2, (n + 21)), (2, (n + 22)), (2, (n + 23)), (2, (n + 24)), (2, (n + 25)), (0, 0), (1, 0), (2, (n + 26)), (2, (n + 27)), (2, (n + 28)), (2, (n + 29)), (2, (n + 30)), (2, (n + 31)), (2, (n + 32)), (2, (n + 33)), (2, (n + 34)), (2, (n + 35)), (2, (n + 36)), (3, 0), (3, 0), (3, 0), (3, 0), (3, 0), (0, 0), (3, 0), (3, 0), (0, 0), (1, 0)])) hk
  generalize hs74 : S73.set k (17, 0, [(0, 0), (0, 0), (2, n), (0, 0), (0, 0), (0, 0), (0, 0), (1, 0), (0, 0), (0, 0), (2, (n + 1)), (2, (n + 2)), (2, (n + 3)), (2, (n + 4)), (2, (n + 5)), (2, (n + 6)), (2, (n + 7)), (2, (n + 8)), (2, (n + 9)), (2, (n + 10)), (2, (n + 11)), (2, (n + 12)), (2, (n + 13)), (0, 0), (2, (n + 14)), (2, (n + 15)), (2, (n + 16)), (2, (n + 17)), (2, (n + 18)), (2, (n + 19)), (2, (n + 20)), (2, (n + 21)), (2, (n + 22)), (2, (n + 23)), (2, (n + 24)), (2, (n + 25)), (0, 0), (1, 0), (2, (n + 26)), (2, (n + 27)), (2, (n + 28)), (2, (n + 29)), (2, (n + 30)), (2, (n + 31)), (2, (n + 32)), (2, (n + 33)), (2, (n + 34)), (2, (n + 35)), (2, (n + 36)), (3, 0), (3, 0), (3, 0), (3, 0), (3, 0), (0, 0), (3, 0), (3, 0), (0, 0), (1, 0)]) = S74 at hk hg ⊢
  refine w_aload_n X dX11_init_303 rfl rfl rfl ?_
  refine w_bipush X dX11_init_304 rfl cb_25 ?_
  refine w_newaI X dX11_init_306 rfl wd_97 (by decide) (N := 25) (by decide) (by decide) hg.2.2.1 hg.1 (by omega) (w_rl ⟨wRf_r (by omega), trivial⟩ ⟨wRf_r (by omega), trivial⟩) ⟨Nat.le_of_ble_eq_true rfl, Nat.le_of_ble_eq_true rfl⟩ (fun ad38 ha38 X => ?_)
  have ha : ∀ q, (q < n ∨ 99999 ≤ q) → ad38 q = ad q := fun q hq => (ha38 q (by omega)).trans (ha q hq)
  have hk := w_apk (x := (0, 25, [])) hk
  have hg : wG S (S74 ++ [(0, 25, [])]) n (n + 38) k := wG_app (t := 0) (N := 25) (fs := []) hg (by simp)
  generalize hs75 : S74 ++ [(0, 25, [])] = S75 at hk hg ⊢
  refine w_putR2 X dX11_init_308 rfl (ci := 11) (C := RX11) (T := TX11) (N := 59) (ty0 := tyX11) (ty := tyX11 49) (j := 49) rfl wcl_11 tyX11_ok nmX11 (by decide) wd_1223 rfl hin rfl (by decide +kernel) (fun _ => rfl) (fun _ => rfl) hk (Nat.le_of_ble_eq_true rfl) (fs2 := [(0, 0), (0, 0), (2, n), (0, 0), (0, 0), (0, 0), (0, 0), (1, 0), (0, 0), (0, 0), (2, (n + 1)), (2, (n + 2)), (2, (n + 3)), (2, (n + 4)), (2, (n + 5)), (2, (n + 6)), (2, (n + 7)), (2, (n + 8)), (2, (n + 9)), (2, (n + 10)), (2, (n + 11)), (2, (n + 12)), (2, (n + 13)), (0, 0), (2, (n + 14)), (2, (n + 15)), (2, (n + 16)), (2, (n + 17)), (2, (n + 18)), (2, (n + 19)), (2, (n + 20)), (2, (n + 21)), (2, (n + 22)), (2, (n + 23)), (2, (n + 24)), (2, (n + 25)), (0, 0), (1, 0), (2, (n + 26)), (2, (n + 27)), (2, (n + 28)), (2, (n + 29)), (2, (n + 30)), (2, (n + 31)), (2, (n + 32)), (2, (n + 33)), (2, (n + 34)), (2, (n + 35)), (2, (n + 36)), (2, (n + 37)), (3, 0), (3, 0), (3, 0), (3, 0), (0, 0), (3, 0), (3, 0), (0, 0), (1, 0)]) rfl ?_
  have hg : wG S (S75.set k (17, 0, [(0, 0), (0, 0), (2, n), (0, 0), (0, 0), (0, 0), (0, 0), (1, 0), (0, 0), (0, 0), (2, (n + 1)), (2, (n + 2)), (2, (n + 3)), (2, (n + 4)), (2, (n + 5)), (2, (n + 6)), (2, (n + 7)), (2, (n + 8)), (2, (n + 9)), (2, (n + 10)), (2, (n + 11)), (2, (n + 12)), (2, (n + 13)), (0, 0), (2, (n + 14)), (2, (n + 15)), (2, (n + 16)), (2, (n + 17)), (2, (n + 18)), (2, (n + 19)), (2, (n + 20)), (2, (n + 21)), (2, (n + 22)), (2, (n + 23)), (2, (n + 24)), (2, (n + 25)), (0, 0), (1, 0), (2, (n + 26)), (2, (n + 27)), (2, (n + 28)), (2, (n + 29)), (2, (n + 30)), (2, (n + 31)), (2, (n + 32)), (2, (n + 33)), (2, (n + 34)), (2, (n + 35)), (2, (n + 36)), (2, (n + 37)), (3, 0), (3, 0), (3, 0), (3, 0), (0, 0), (3, 0), (3, 0), (0, 0), (1, 0)])) n (n + 38) k := wG_set2 (j := 49) (r := (n + 37)) hg hk (by omega) (Or.inl rfl) rfl
  have hk := w_stk (x := (17, 0, [(0, 0), (0, 0), (2, n), (0, 0), (0, 0), (0, 0), (0, 0), (1, 0), (0, 0), (0, 0), (2, (n + 1)), (2, (n + 2)), (2, (n + 3)), (2, (n + 4)), (2, (n + 5)), (2, (n + 6)), (2, (n + 7)), (2, (n + 8)), (2, (n + 9)), (2, (n + 10)), (2, (n + 11)), (2, (n + 12)), (2, (n + 13)), (0, 0), (2, (n + 14)), (2, (n + 15)), (2, (n + 16)), (2, (n + 17)), (2, (n + 18)), (2, (n + 19)), (2, (n + 20)), (2, (n + 21)), (2, (n + 22)), (2, (n + 23)), (2, (n + 24)), (2, (n + 25)), (0, 0), (1, 0), (2, (n + 26)), (2, (n + 27)), (2, (n + 28)), (2, (n + 29)), (2, (n + 30)), (2, (n + 31)), (2, (n + 32)), (2, (n + 33)), (2, (n + 34)), (2, (n + 35)), (2, (n + 36)), (2, (n + 37)), (3, 0), (3, 0), (3, 0), (3, 0), (0, 0), (3, 0), (3, 0), (0, 0), (1, 0)])) hk
  generalize hs76 : S75.set k (17, 0, [(0, 0), (0, 0), (2, n), (0, 0), (0, 0), (0, 0), (0, 0), (1, 0), (0, 0), (0, 0), (2, (n + 1)), (2, (n + 2)), (2, (n + 3)), (2, (n + 4)), (2, (n + 5)), (2, (n + 6)), (2, (n + 7)), (2, (n + 8)), (2, (n + 9)), (2, (n + 10)), (2, (n + 11)), (2, (n + 12)), (2, (n + 13)), (0, 0), (2, (n + 14)), (2, (n + 15)), (2, (n + 16)), (2, (n + 17)), (2, (n + 18)), (2, (n + 19)), (2, (n + 20)), (2, (n + 21)), (2, (n + 22)), (2, (n + 23)), (2, (n + 24)), (2, (n + 25)), (0, 0), (1, 0), (2, (n + 26)), (2, (n + 27)), (2, (n + 28)), (2, (n + 29)), (2, (n + 30)), (2, (n + 31)), (2, (n + 32)), (2, (n + 33)), (2, (n + 34)), (2, (n + 35)), (2, (n + 36)), (2, (n + 37)), (3, 0), (3, 0), (3, 0), (3, 0), (0, 0), (3, 0), (3, 0), (0, 0), (1, 0)]) = S76 at hk hg ⊢
  refine w_aload_n X dX11_init_311 rfl rfl rfl ?_
  refine w_bipush X dX11_init_312 rfl cb_25 ?_
  refine w_newaI X dX11_init_314 rfl wd_97 (by decide) (N := 25) (by decide) (by decide) hg.2.2.1 hg.1 (by omega) (w_rl ⟨wRf_r (by omega), trivial⟩ ⟨wRf_r (by omega), trivial⟩) ⟨Nat.le_of_ble_eq_true rfl, Nat.le_of_ble_eq_true rfl⟩ (fun ad39 ha39 X => ?_)
  have ha : ∀ q, (q < n ∨ 99999 ≤ q) → ad39 q = ad q := fun q hq => (ha39 q (by omega)).trans (ha q hq)
  have hk := w_apk (x := (0, 25, [])) hk
  have hg : wG S (S76 ++ [(0, 25, [])]) n (n + 39) k := wG_app (t := 0) (N := 25) (fs := []) hg (by simp)
  generalize hs77 : S76 ++ [(0, 25, [])] = S77 at hk hg ⊢
  refine w_putR2 X dX11_init_316 rfl (ci := 11) (C := RX11) (T := TX11) (N := 59) (ty0 := tyX11) (ty := tyX11 50) (j := 50) rfl wcl_11 tyX11_ok nmX11 (by decide) wd_1224 rfl hin rfl (by decide +kernel) (fun _ => rfl) (fun _ => rfl) hk (Nat.le_of_ble_eq_true rfl) (fs2 := [(0, 0), (0, 0), (2, n), (0, 0), (0, 0), (0, 0), (0, 0), (1, 0), (0, 0), (0, 0), (2, (n + 1)), (2, (n + 2)), (2, (n + 3)), (2, (n + 4)), (2, (n + 5)), (2, (n + 6)), (2, (n + 7)), (2, (n + 8)), (2, (n + 9)), (2, (n + 10)), (2, (n + 11)), (2, (n + 12)), (2, (n + 13)), (0, 0), (2, (n + 14)), (2, (n + 15)), (2, (n + 16)), (2, (n + 17)), (2, (n + 18)), (2, (n + 19)), (2, (n + 20)), (2, (n + 21)), (2, (n + 22)), (2, (n + 23)), (2, (n + 24)), (2, (n + 25)), (0, 0), (1, 0), (2, (n + 26)), (2, (n + 27)), (2, (n + 28)), (2, (n + 29)), (2, (n + 30)), (2, (n + 31)), (2, (n + 32)), (2, (n + 33)), (2, (n + 34)), (2, (n + 35)), (2, (n + 36)), (2, (n + 37)), (2, (n + 38)), (3, 0), (3, 0), (3, 0), (0, 0), (3, 0), (3, 0), (0, 0), (1, 0)]) rfl ?_
  have hg : wG S (S77.set k (17, 0, [(0, 0), (0, 0), (2, n), (0, 0), (0, 0), (0, 0), (0, 0), (1, 0), (0, 0), (0, 0), (2, (n + 1)), (2, (n + 2)), (2, (n + 3)), (2, (n + 4)), (2, (n + 5)), (2, (n + 6)), (2, (n + 7)), (2, (n + 8)), (2, (n + 9)), (2, (n + 10)), (2, (n + 11)), (2, (n + 12)), (2, (n + 13)), (0, 0), (2, (n + 14)), (2, (n + 15)), (2, (n + 16)), (2, (n + 17)), (2, (n + 18)), (2, (n + 19)), (2, (n + 20)), (2, (n + 21)), (2, (n + 22)), (2, (n + 23)), (2, (n + 24)), (2, (n + 25)), (0, 0), (1, 0), (2, (n + 26)), (2, (n + 27)), (2, (n + 28)), (2, (n + 29)), (2, (n + 30)), (2, (n + 31)), (2, (n + 32)), (2, (n + 33)), (2, (n + 34)), (2, (n + 35)), (2, (n + 36)), (2, (n + 37)), (2, (n + 38)), (3, 0), (3, 0), (3, 0), (0, 0), (3, 0), (3, 0), (0, 0), (1, 0)])) n (n + 39) k := wG_set2 (j := 50) (r := (n + 38)) hg hk (by omega) (Or.inl rfl) rfl
  have hk := w_stk (x := (17, 0, [(0, 0), (0, 0), (2, n), (0, 0), (0, 0), (0, 0), (0, 0), (1, 0), (0, 0), (0, 0), (2, (n + 1)), (2, (n + 2)), (2, (n + 3)), (2, (n + 4)), (2, (n + 5)), (2, (n + 6)), (2, (n + 7)), (2, (n + 8)), (2, (n + 9)), (2, (n + 10)), (2, (n + 11)), (2, (n + 12)), (2, (n + 13)), (0, 0), (2, (n + 14)), (2, (n + 15)), (2, (n + 16)), (2, (n + 17)), (2, (n + 18)), (2, (n + 19)), (2, (n + 20)), (2, (n + 21)), (2, (n + 22)), (2, (n + 23)), (2, (n + 24)), (2, (n + 25)), (0, 0), (1, 0), (2, (n + 26)), (2, (n + 27)), (2, (n + 28)), (2, (n + 29)), (2, (n + 30)), (2, (n + 31)), (2, (n + 32)), (2, (n + 33)), (2, (n + 34)), (2, (n + 35)), (2, (n + 36)), (2, (n + 37)), (2, (n + 38)), (3, 0), (3, 0), (3, 0), (0, 0), (3, 0), (3, 0), (0, 0), (1, 0)])) hk
  generalize hs78 : S77.set k (17, 0, [(0, 0), (0, 0), (2, n), (0, 0), (0, 0), (0, 0), (0, 0), (1, 0), (0, 0), (0, 0), (2, (n + 1)), (2, (n + 2)), (2, (n + 3)), (2, (n + 4)), (2, (n + 5)), (2, (n + 6)), (2, (n + 7)), (2, (n + 8)), (2, (n + 9)), (2, (n + 10)), (2, (n + 11)), (2, (n + 12)), (2, (n + 13)), (0, 0), (2, (n + 14)), (2, (n + 15)), (2, (n + 16)), (2, (n + 17)), (2, (n + 18)), (2, (n + 19)), (2, (n + 20)), (2, (n + 21)), (2, (n + 22)), (2, (n + 23)), (2, (n + 24)), (2, (n + 25)), (0, 0), (1, 0), (2, (n + 26)), (2, (n + 27)), (2, (n + 28)), (2, (n + 29)), (2, (n + 30)), (2, (n + 31)), (2, (n + 32)), (2, (n + 33)), (2, (n + 34)), (2, (n + 35)), (2, (n + 36)), (2, (n + 37)), (2, (n + 38)), (3, 0), (3, 0), (3, 0), (0, 0), (3, 0), (3, 0), (0, 0), (1, 0)]) = S78 at hk hg ⊢
  refine w_aload_n X dX11_init_319 rfl rfl rfl ?_
  refine w_bipush X dX11_init_320 rfl cb_100 ?_
  refine w_newaI X dX11_init_322 rfl wd_97 (by decide) (N := 100) (by decide) (by decide) hg.2.2.1 hg.1 (by omega) (w_rl ⟨wRf_r (by omega), trivial⟩ ⟨wRf_r (by omega), trivial⟩) ⟨Nat.le_of_ble_eq_true rfl, Nat.le_of_ble_eq_true rfl⟩ (fun ad40 ha40 X => ?_)
  have ha : ∀ q, (q < n ∨ 99999 ≤ q) → ad40 q = ad q := fun q hq => (ha40 q (by omega)).trans (ha q hq)
  have hk := w_apk (x := (0, 100, [])) hk
  have hg : wG S (S78 ++ [(0, 100, [])]) n (n + 40) k := wG_app (t := 0) (N := 100) (fs := []) hg (by simp)
  generalize hs79 : S78 ++ [(0, 100, [])] = S79 at hk hg ⊢
  refine w_putR2 X dX11_init_324 rfl (ci := 11) (C := RX11) (T := TX11) (N := 59) (ty0 := tyX11) (ty := tyX11 51) (j := 51) rfl wcl_11 tyX11_ok nmX11 (by decide) wd_1225 rfl hin rfl (by decide +kernel) (fun _ => rfl) (fun _ => rfl) hk (Nat.le_of_ble_eq_true rfl) (fs2 := [(0, 0), (0, 0), (2, n), (0, 0), (0, 0), (0, 0), (0, 0), (1, 0), (0, 0), (0, 0), (2, (n + 1)), (2, (n + 2)), (2, (n + 3)), (2, (n + 4)), (2, (n + 5)), (2, (n + 6)), (2, (n + 7)), (2, (n + 8)), (2, (n + 9)), (2, (n + 10)), (2, (n + 11)), (2, (n + 12)), (2, (n + 13)), (0, 0), (2, (n + 14)), (2, (n + 15)), (2, (n + 16)), (2, (n + 17)), (2, (n + 18)), (2, (n + 19)), (2, (n + 20)), (2, (n + 21)), (2, (n + 22)), (2, (n + 23)), (2, (n + 24)), (2, (n + 25)), (0, 0), (1, 0), (2, (n + 26)), (2, (n + 27)), (2, (n + 28)), (2, (n + 29)), (2, (n + 30)), (2, (n + 31)), (2, (n + 32)), (2, (n + 33)), (2, (n + 34)), (2, (n + 35)), (2, (n + 36)), (2, (n + 37)), (2, (n + 38)), (2, (n + 39)), (3, 0), (3, 0), (0, 0), (3, 0), (3, 0), (0, 0), (1, 0)]) rfl ?_
  have hg : wG S (S79.set k (17, 0, [(0, 0), (0, 0), (2, n), (0, 0), (0, 0), (0, 0), (0, 0), (1, 0), (0, 0), (0, 0), (2, (n + 1)), (2, (n + 2)), (2, (n + 3)), (2, (n + 4)), (2, (n + 5)), (2, (n + 6)), (2, (n + 7)), (2, (n + 8)), (2, (n + 9)), (2, (n + 10)), (2, (n + 11)), (2, (n + 12)), (2, (n + 13)), (0, 0), (2, (n + 14)), (2, (n + 15)), (2, (n + 16)), (2, (n + 17)), (2, (n + 18)), (2, (n + 19)), (2, (n + 20)), (2, (n + 21)), (2, (n + 22)), (2, (n + 23)), (2, (n + 24)), (2, (n + 25)), (0, 0), (1, 0), (2, (n + 26)), (2, (n + 27)), (2, (n + 28)), (2, (n + 29)), (2, (n + 30)), (2, (n + 31)), (2, (n + 32)), (2, (n + 33)), (2, (n + 34)), (2, (n + 35)), (2, (n + 36)), (2, (n + 37)), (2, (n + 38)), (2, (n + 39)), (3, 0), (3, 0), (0, 0), (3, 0), (3, 0), (0, 0), (1, 0)])) n (n + 40) k := wG_set2 (j := 51) (r := (n + 39)) hg hk (by omega) (Or.inl rfl) rfl
  have hk := w_stk (x := (17, 0, [(0, 0), (0, 0), (2, n), (0, 0), (0, 0), (0, 0), (0, 0), (1, 0), (0, 0), (0, 0), (2, (n + 1)), (2, (n + 2)), (2, (n + 3)), (2, (n + 4)), (2, (n + 5)), (2, (n + 6)), (2, (n + 7)), (2, (n + 8)), (2, (n + 9)), (2, (n + 10)), (2, (n + 11)), (2, (n + 12)), (2, (n + 13)), (0, 0), (2, (n + 14)), (2, (n + 15)), (2, (n + 16)), (2, (n + 17)), (2, (n + 18)), (2, (n + 19)), (2, (n + 20)), (2, (n + 21)), (2, (n + 22)), (2, (n + 23)), (2, (n + 24)), (2, (n + 25)), (0, 0), (1, 0), (2, (n + 26)), (2, (n + 27)), (2, (n + 28)), (2, (n + 29)), (2, (n + 30)), (2, (n + 31)), (2, (n + 32)), (2, (n + 33)), (2, (n + 34)), (2, (n + 35)), (2, (n + 36)), (2, (n + 37)), (2, (n + 38)), (2, (n + 39)), (3, 0), (3, 0), (0, 0), (3, 0), (3, 0), (0, 0), (1, 0)])) hk
  generalize hs80 : S79.set k (17, 0, [(0, 0), (0, 0), (2, n), (0, 0), (0, 0), (0, 0), (0, 0), (1, 0), (0, 0), (0, 0), (2, (n + 1)), (2, (n + 2)), (2, (n + 3)), (2, (n + 4)), (2, (n + 5)), (2, (n + 6)), (2, (n + 7)), (2, (n + 8)), (2, (n + 9)), (2, (n + 10)), (2, (n + 11)), (2, (n + 12)), (2, (n + 13)), (0, 0), (2, (n + 14)), (2, (n + 15)), (2, (n + 16)), (2, (n + 17)), (2, (n + 18)), (2, (n + 19)), (2, (n + 20)), (2, (n + 21)), (2, (n + 22)), (2, (n + 23)), (2, (n + 24)), (2, (n + 25)), (0, 0), (1, 0), (2, (n + 26)), (2, (n + 27)), (2, (n + 28)), (2, (n + 29)), (2, (n + 30)), (2, (n + 31)), (2, (n + 32)), (2, (n + 33)), (2, (n + 34)), (2, (n + 35)), (2, (n + 36)), (2, (n + 37)), (2, (n + 38)), (2, (n + 39)), (3, 0), (3, 0), (0, 0), (3, 0), (3, 0), (0, 0), (1, 0)]) = S80 at hk hg ⊢
  refine w_aload_n X dX11_init_327 rfl rfl rfl ?_
  refine w_sipush X dX11_init_328 rfl cs_400 ?_
  refine w_newaI X dX11_init_331 rfl wd_97 (by decide) (N := 400) (by decide) (by decide) hg.2.2.1 hg.1 (by omega) (w_rl ⟨wRf_r (by omega), trivial⟩ ⟨wRf_r (by omega), trivial⟩) ⟨Nat.le_of_ble_eq_true rfl, Nat.le_of_ble_eq_true rfl⟩ (fun ad41 ha41 X => ?_)
  have ha : ∀ q, (q < n ∨ 99999 ≤ q) → ad41 q = ad q := fun q hq => (ha41 q (by omega)).trans (ha q hq)
  have hk := w_apk (x := (0, 400, [])) hk
  have hg : wG S (S80 ++ [(0, 400, [])]) n (n + 41) k := wG_app (t := 0) (N := 400) (fs := []) hg (by simp)
  generalize hs81 : S80 ++ [(0, 400, [])] = S81 at hk hg ⊢
  refine w_putR2 X dX11_init_333 rfl (ci := 11) (C := RX11) (T := TX11) (N := 59) (ty0 := tyX11) (ty := tyX11 52) (j := 52) rfl wcl_11 tyX11_ok nmX11 (by decide) wd_1226 rfl hin rfl (by decide +kernel) (fun _ => rfl) (fun _ => rfl) hk (Nat.le_of_ble_eq_true rfl) (fs2 := [(0, 0), (0, 0), (2, n), (0, 0), (0, 0), (0, 0), (0, 0), (1, 0), (0, 0), (0, 0), (2, (n + 1)), (2, (n + 2)), (2, (n + 3)), (2, (n + 4)), (2, (n + 5)), (2, (n + 6)), (2, (n + 7)), (2, (n + 8)), (2, (n + 9)), (2, (n + 10)), (2, (n + 11)), (2, (n + 12)), (2, (n + 13)), (0, 0), (2, (n + 14)), (2, (n + 15)), (2, (n + 16)), (2, (n + 17)), (2, (n + 18)), (2, (n + 19)), (2, (n + 20)), (2, (n + 21)), (2, (n + 22)), (2, (n + 23)), (2, (n + 24)), (2, (n + 25)), (0, 0), (1, 0), (2, (n + 26)), (2, (n + 27)), (2, (n + 28)), (2, (n + 29)), (2, (n + 30)), (2, (n + 31)), (2, (n + 32)), (2, (n + 33)), (2, (n + 34)), (2, (n + 35)), (2, (n + 36)), (2, (n + 37)), (2, (n + 38)), (2, (n + 39)), (2, (n + 40)), (3, 0), (0, 0), (3, 0), (3, 0), (0, 0), (1, 0)]) rfl ?_
  have hg : wG S (S81.set k (17, 0, [(0, 0), (0, 0), (2, n), (0, 0), (0, 0), (0, 0), (0, 0), (1, 0), (0, 0), (0, 0), (2, (n + 1)), (2, (n + 2)), (2, (n + 3)), (2, (n + 4)), (2, (n + 5)), (2, (n + 6)), (2, (n + 7)), (2, (n + 8)), (2, (n + 9)), (2, (n + 10)), (2, (n + 11)), (2, (n + 12)), (2, (n + 13)), (0, 0), (2, (n + 14)), (2, (n + 15)), (2, (n + 16)), (2, (n + 17)), (2, (n + 18)), (2, (n + 19)), (2, (n + 20)), (2, (n + 21)), (2, (n + 22)), (2, (n + 23)), (2, (n + 24)), (2, (n + 25)), (0, 0), (1, 0), (2, (n + 26)), (2, (n + 27)), (2, (n + 28)), (2, (n + 29)), (2, (n + 30)), (2, (n + 31)), (2, (n + 32)), (2, (n + 33)), (2, (n + 34)), (2, (n + 35)), (2, (n + 36)), (2, (n + 37)), (2, (n + 38)), (2, (n + 39)), (2, (n + 40)), (3, 0), (0, 0), (3, 0), (3, 0), (0, 0), (1, 0)])) n (n + 41) k := wG_set2 (j := 52) (r := (n + 40)) hg hk (by omega) (Or.inl rfl) rfl
  have hk := w_stk (x := (17, 0, [(0, 0), (0, 0), (2, n), (0, 0), (0, 0), (0, 0), (0, 0), (1, 0), (0, 0), (0, 0), (2, (n + 1)), (2, (n + 2)), (2, (n + 3)), (2, (n + 4)), (2, (n + 5)), (2, (n + 6)), (2, (n + 7)), (2, (n + 8)), (2, (n + 9)), (2, (n + 10)), (2, (n + 11)), (2, (n + 12)), (2, (n + 13)), (0, 0), (2, (n + 14)), (2, (n + 15)), (2, (n + 16)), (2, (n + 17)), (2, (n + 18)), (2, (n + 19)), (2, (n + 20)), (2, (n + 21)), (2, (n + 22)), (2, (n + 23)), (2, (n + 24)), (2, (n + 25)), (0, 0), (1, 0), (2, (n + 26)), (2, (n + 27)), (2, (n + 28)), (2, (n + 29)), (2, (n + 30)), (2, (n + 31)), (2, (n + 32)), (2, (n + 33)), (2, (n + 34)), (2, (n + 35)), (2, (n + 36)), (2, (n + 37)), (2, (n + 38)), (2, (n + 39)), (2, (n + 40)), (3, 0), (0, 0), (3, 0), (3, 0), (0, 0), (1, 0)])) hk
  generalize hs82 : S81.set k (17, 0, [(0, 0), (0, 0), (2, n), (0, 0), (0, 0), (0, 0), (0, 0), (1, 0), (0, 0), (0, 0), (2, (n + 1)), (2, (n + 2)), (2, (n + 3)), (2, (n + 4)), (2, (n + 5)), (2, (n + 6)), (2, (n + 7)), (2, (n + 8)), (2, (n + 9)), (2, (n + 10)), (2, (n + 11)), (2, (n + 12)), (2, (n + 13)), (0, 0), (2, (n + 14)), (2, (n + 15)), (2, (n + 16)), (2, (n + 17)), (2, (n + 18)), (2, (n + 19)), (2, (n + 20)), (2, (n + 21)), (2, (n + 22)), (2, (n + 23)), (2, (n + 24)), (2, (n + 25)), (0, 0), (1, 0), (2, (n + 26)), (2, (n + 27)), (2, (n + 28)), (2, (n + 29)), (2, (n + 30)), (2, (n + 31)), (2, (n + 32)), (2, (n + 33)), (2, (n + 34)), (2, (n + 35)), (2, (n + 36)), (2, (n + 37)), (2, (n + 38)), (2, (n + 39)), (2, (n + 40)), (3, 0), (0, 0), (3, 0), (3, 0), (0, 0), (1, 0)]) = S82 at hk hg ⊢
  refine w_aload_n X dX11_init_336 rfl rfl rfl ?_
  refine w_iconst X dX11_init_337 rfl ci_4 ?_
  refine w_newaZ X dX11_init_338 rfl wd_1352 (by decide) (N := 4) (by decide) (by decide) hg.2.2.1 hg.1 (by omega) (w_rl ⟨wRf_r (by omega), trivial⟩ ⟨wRf_r (by omega), trivial⟩) ⟨Nat.le_of_ble_eq_true rfl, Nat.le_of_ble_eq_true rfl⟩ (fun ad42 ha42 X => ?_)
  have ha : ∀ q, (q < n ∨ 99999 ≤ q) → ad42 q = ad q := fun q hq => (ha42 q (by omega)).trans (ha q hq)
  have hk := w_apk (x := (2, 4, [])) hk
  have hg : wG S (S82 ++ [(2, 4, [])]) n (n + 42) k := wG_app (t := 2) (N := 4) (fs := []) hg (by simp)
  generalize hs83 : S82 ++ [(2, 4, [])] = S83 at hk hg ⊢
  refine w_putR2 X dX11_init_340 rfl (ci := 11) (C := RX11) (T := TX11) (N := 59) (ty0 := tyX11) (ty := tyX11 53) (j := 53) rfl wcl_11 tyX11_ok nmX11 (by decide) wd_1227 rfl hin rfl (by decide +kernel) (fun _ => rfl) (fun _ => rfl) hk (Nat.le_of_ble_eq_true rfl) (fs2 := [(0, 0), (0, 0), (2, n), (0, 0), (0, 0), (0, 0), (0, 0), (1, 0), (0, 0), (0, 0), (2, (n + 1)), (2, (n + 2)), (2, (n + 3)), (2, (n + 4)), (2, (n + 5)), (2, (n + 6)), (2, (n + 7)), (2, (n + 8)), (2, (n + 9)), (2, (n + 10)), (2, (n + 11)), (2, (n + 12)), (2, (n + 13)), (0, 0), (2, (n + 14)), (2, (n + 15)), (2, (n + 16)), (2, (n + 17)), (2, (n + 18)), (2, (n + 19)), (2, (n + 20)), (2, (n + 21)), (2, (n + 22)), (2, (n + 23)), (2, (n + 24)), (2, (n + 25)), (0, 0), (1, 0), (2, (n + 26)), (2, (n + 27)), (2, (n + 28)), (2, (n + 29)), (2, (n + 30)), (2, (n + 31)), (2, (n + 32)), (2, (n + 33)), (2, (n + 34)), (2, (n + 35)), (2, (n + 36)), (2, (n + 37)), (2, (n + 38)), (2, (n + 39)), (2, (n + 40)), (2, (n + 41)), (0, 0), (3, 0), (3, 0), (0, 0), (1, 0)]) rfl ?_
  have hg : wG S (S83.set k (17, 0, [(0, 0), (0, 0), (2, n), (0, 0), (0, 0), (0, 0), (0, 0), (1, 0), (0, 0), (0, 0), (2, (n + 1)), (2, (n + 2)), (2, (n + 3)), (2, (n + 4)), (2, (n + 5)), (2, (n + 6)), (2, (n + 7)), (2, (n + 8)), (2, (n + 9)), (2, (n + 10)), (2, (n + 11)), (2, (n + 12)), (2, (n + 13)), (0, 0), (2, (n + 14)), (2, (n + 15)), (2, (n + 16)), (2, (n + 17)), (2, (n + 18)), (2, (n + 19)), (2, (n + 20)), (2, (n + 21)), (2, (n + 22)), (2, (n + 23)), (2, (n + 24)), (2, (n + 25)), (0, 0), (1, 0), (2, (n + 26)), (2, (n + 27)), (2, (n + 28)), (2, (n + 29)), (2, (n + 30)), (2, (n + 31)), (2, (n + 32)), (2, (n + 33)), (2, (n + 34)), (2, (n + 35)), (2, (n + 36)), (2, (n + 37)), (2, (n + 38)), (2, (n + 39)), (2, (n + 40)), (2, (n + 41)), (0, 0), (3, 0), (3, 0), (0, 0), (1, 0)])) n (n + 42) k := wG_set2 (j := 53) (r := (n + 41)) hg hk (by omega) (Or.inl rfl) rfl
  have hk := w_stk (x := (17, 0, [(0, 0), (0, 0), (2, n), (0, 0), (0, 0), (0, 0), (0, 0), (1, 0), (0, 0), (0, 0), (2, (n + 1)), (2, (n + 2)), (2, (n + 3)), (2, (n + 4)), (2, (n + 5)), (2, (n + 6)), (2, (n + 7)), (2, (n + 8)), (2, (n + 9)), (2, (n + 10)), (2, (n + 11)), (2, (n + 12)), (2, (n + 13)), (0, 0), (2, (n + 14)), (2, (n + 15)), (2, (n + 16)), (2, (n + 17)), (2, (n + 18)), (2, (n + 19)), (2, (n + 20)), (2, (n + 21)), (2, (n + 22)), (2, (n + 23)), (2, (n + 24)), (2, (n + 25)), (0, 0), (1, 0), (2, (n + 26)), (2, (n + 27)), (2, (n + 28)), (2, (n + 29)), (2, (n + 30)), (2, (n + 31)), (2, (n + 32)), (2, (n + 33)), (2, (n + 34)), (2, (n + 35)), (2, (n + 36)), (2, (n + 37)), (2, (n + 38)), (2, (n + 39)), (2, (n + 40)), (2, (n + 41)), (0, 0), (3, 0), (3, 0), (0, 0), (1, 0)])) hk
  generalize hs84 : S83.set k (17, 0, [(0, 0), (0, 0), (2, n), (0, 0), (0, 0), (0, 0), (0, 0), (1, 0), (0, 0), (0, 0), (2, (n + 1)), (2, (n + 2)), (2, (n + 3)), (2, (n + 4)), (2, (n + 5)), (2, (n + 6)), (2, (n + 7)), (2, (n + 8)), (2, (n + 9)), (2, (n + 10)), (2, (n + 11)), (2, (n + 12)), (2, (n + 13)), (0, 0), (2, (n + 14)), (2, (n + 15)), (2, (n + 16)), (2, (n + 17)), (2, (n + 18)), (2, (n + 19)), (2, (n + 20)), (2, (n + 21)), (2, (n + 22)), (2, (n + 23)), (2, (n + 24)), (2, (n + 25)), (0, 0), (1, 0), (2, (n + 26)), (2, (n + 27)), (2, (n + 28)), (2, (n + 29)), (2, (n + 30)), (2, (n + 31)), (2, (n + 32)), (2, (n + 33)), (2, (n + 34)), (2, (n + 35)), (2, (n + 36)), (2, (n + 37)), (2, (n + 38)), (2, (n + 39)), (2, (n + 40)), (2, (n + 41)), (0, 0), (3, 0), (3, 0), (0, 0), (1, 0)]) = S84 at hk hg ⊢
  refine w_aload_n X dX11_init_343 rfl rfl rfl ?_
  refine w_bipush X dX11_init_344 rfl cb_6 ?_
  refine w_newaI X dX11_init_346 rfl wd_97 (by decide) (N := 6) (by decide) (by decide) hg.2.2.1 hg.1 (by omega) (w_rl ⟨wRf_r (by omega), trivial⟩ ⟨wRf_r (by omega), trivial⟩) ⟨Nat.le_of_ble_eq_true rfl, Nat.le_of_ble_eq_true rfl⟩ (fun ad43 ha43 X => ?_)
  have ha : ∀ q, (q < n ∨ 99999 ≤ q) → ad43 q = ad q := fun q hq => (ha43 q (by omega)).trans (ha q hq)
  have hk := w_apk (x := (0, 6, [])) hk
  have hg : wG S (S84 ++ [(0, 6, [])]) n (n + 43) k := wG_app (t := 0) (N := 6) (fs := []) hg (by simp)
  generalize hs85 : S84 ++ [(0, 6, [])] = S85 at hk hg ⊢
  refine w_putR2 X dX11_init_348 rfl (ci := 11) (C := RX11) (T := TX11) (N := 59) (ty0 := tyX11) (ty := tyX11 55) (j := 55) rfl wcl_11 tyX11_ok nmX11 (by decide) wd_1229 rfl hin rfl (by decide +kernel) (fun _ => rfl) (fun _ => rfl) hk (Nat.le_of_ble_eq_true rfl) (fs2 := [(0, 0), (0, 0), (2, n), (0, 0), (0, 0), (0, 0), (0, 0), (1, 0), (0, 0), (0, 0), (2, (n + 1)), (2, (n + 2)), (2, (n + 3)), (2, (n + 4)), (2, (n + 5)), (2, (n + 6)), (2, (n + 7)), (2, (n + 8)), (2, (n + 9)), (2, (n + 10)), (2, (n + 11)), (2, (n + 12)), (2, (n + 13)), (0, 0), (2, (n + 14)), (2, (n + 15)), (2, (n + 16)), (2, (n + 17)), (2, (n + 18)), (2, (n + 19)), (2, (n + 20)), (2, (n + 21)), (2, (n + 22)), (2, (n + 23)), (2, (n + 24)), (2, (n + 25)), (0, 0), (1, 0), (2, (n + 26)), (2, (n + 27)), (2, (n + 28)), (2, (n + 29)), (2, (n + 30)), (2, (n + 31)), (2, (n + 32)), (2, (n + 33)), (2, (n + 34)), (2, (n + 35)), (2, (n + 36)), (2, (n + 37)), (2, (n + 38)), (2, (n + 39)), (2, (n + 40)), (2, (n + 41)), (0, 0), (2, (n + 42)), (3, 0), (0, 0), (1, 0)]) rfl ?_
  have hg : wG S (S85.set k (17, 0, [(0, 0), (0, 0), (2, n), (0, 0), (0, 0), (0, 0), (0, 0), (1, 0), (0, 0), (0, 0), (2, (n + 1)), (2, (n + 2)), (2, (n + 3)), (2, (n + 4)), (2, (n + 5)), (2, (n + 6)), (2, (n + 7)), (2, (n + 8)), (2, (n + 9)), (2, (n + 10)), (2, (n + 11)), (2, (n + 12)), (2, (n + 13)), (0, 0), (2, (n + 14)), (2, (n + 15)), (2, (n + 16)), (2, (n + 17)), (2, (n + 18)), (2, (n + 19)), (2, (n + 20)), (2, (n + 21)), (2, (n + 22)), (2, (n + 23)), (2, (n + 24)), (2, (n + 25)), (0, 0), (1, 0), (2, (n + 26)), (2, (n + 27)), (2, (n + 28)), (2, (n + 29)), (2, (n + 30)), (2, (n + 31)), (2, (n + 32)), (2, (n + 33)), (2, (n + 34)), (2, (n + 35)), (2, (n + 36)), (2, (n + 37)), (2, (n + 38)), (2, (n + 39)), (2, (n + 40)), (2, (n + 41)), (0, 0), (2, (n + 42)), (3, 0), (0, 0), (1, 0)])) n (n + 43) k := wG_set2 (j := 55) (r := (n + 42)) hg hk (by omega) (Or.inl rfl) rfl
  have hk := w_stk (x := (17, 0, [(0, 0), (0, 0), (2, n), (0, 0), (0, 0), (0, 0), (0, 0), (1, 0), (0, 0), (0, 0), (2, (n + 1)), (2, (n + 2)), (2, (n + 3)), (2, (n + 4)), (2, (n + 5)), (2, (n + 6)), (2, (n + 7)), (2, (n + 8)), (2, (n + 9)), (2, (n + 10)), (2, (n + 11)), (2, (n + 12)), (2, (n + 13)), (0, 0), (2, (n + 14)), (2, (n + 15)), (2, (n + 16)), (2, (n + 17)), (2, (n + 18)), (2, (n + 19)), (2, (n + 20)), (2, (n + 21)), (2, (n + 22)), (2, (n + 23)), (2, (n + 24)), (2, (n + 25)), (0, 0), (1, 0), (2, (n + 26)), (2, (n + 27)), (2, (n + 28)), (2, (n + 29)), (2, (n + 30)), (2, (n + 31)), (2, (n + 32)), (2, (n + 33)), (2, (n + 34)), (2, (n + 35)), (2, (n + 36)), (2, (n + 37)), (2, (n + 38)), (2, (n + 39)), (2, (n + 40)), (2, (n + 41)), (0, 0), (2, (n + 42)), (3, 0), (0, 0), (1, 0)])) hk
  generalize hs86 : S85.set k (17, 0, [(0, 0), (0, 0), (2, n), (0, 0), (0, 0), (0, 0), (0, 0), (1, 0), (0, 0), (0, 0), (2, (n + 1)), (2, (n + 2)), (2, (n + 3)), (2, (n + 4)), (2, (n + 5)), (2, (n + 6)), (2, (n + 7)), (2, (n + 8)), (2, (n + 9)), (2, (n + 10)), (2, (n + 11)), (2, (n + 12)), (2, (n + 13)), (0, 0), (2, (n + 14)), (2, (n + 15)), (2, (n + 16)), (2, (n + 17)), (2, (n + 18)), (2, (n + 19)), (2, (n + 20)), (2, (n + 21)), (2, (n + 22)), (2, (n + 23)), (2, (n + 24)), (2, (n + 25)), (0, 0), (1, 0), (2, (n + 26)), (2, (n + 27)), (2, (n + 28)), (2, (n + 29)), (2, (n + 30)), (2, (n + 31)), (2, (n + 32)), (2, (n + 33)), (2, (n + 34)), (2, (n + 35)), (2, (n + 36)), (2, (n + 37)), (2, (n + 38)), (2, (n + 39)), (2, (n + 40)), (2, (n + 41)), (0, 0), (2, (n + 42)), (3, 0), (0, 0), (1, 0)]) = S86 at hk hg ⊢
  refine w_aload_n X dX11_init_351 rfl rfl rfl ?_
  refine w_bipush X dX11_init_352 rfl cb_6 ?_
  refine w_newaI X dX11_init_354 rfl wd_97 (by decide) (N := 6) (by decide) (by decide) hg.2.2.1 hg.1 (by omega) (w_rl ⟨wRf_r (by omega), trivial⟩ ⟨wRf_r (by omega), trivial⟩) ⟨Nat.le_of_ble_eq_true rfl, Nat.le_of_ble_eq_true rfl⟩ (fun ad44 ha44 X => ?_)
  have ha : ∀ q, (q < n ∨ 99999 ≤ q) → ad44 q = ad q := fun q hq => (ha44 q (by omega)).trans (ha q hq)
  have hk := w_apk (x := (0, 6, [])) hk
  have hg : wG S (S86 ++ [(0, 6, [])]) n (n + 44) k := wG_app (t := 0) (N := 6) (fs := []) hg (by simp)
  generalize hs87 : S86 ++ [(0, 6, [])] = S87 at hk hg ⊢
  refine w_putR2 X dX11_init_356 rfl (ci := 11) (C := RX11) (T := TX11) (N := 59) (ty0 := tyX11) (ty := tyX11 56) (j := 56) rfl wcl_11 tyX11_ok nmX11 (by decide) wd_1230 rfl hin rfl (by decide +kernel) (fun _ => rfl) (fun _ => rfl) hk (Nat.le_of_ble_eq_true rfl) (fs2 := [(0, 0), (0, 0), (2, n), (0, 0), (0, 0), (0, 0), (0, 0), (1, 0), (0, 0), (0, 0), (2, (n + 1)), (2, (n + 2)), (2, (n + 3)), (2, (n + 4)), (2, (n + 5)), (2, (n + 6)), (2, (n + 7)), (2, (n + 8)), (2, (n + 9)), (2, (n + 10)), (2, (n + 11)), (2, (n + 12)), (2, (n + 13)), (0, 0), (2, (n + 14)), (2, (n + 15)), (2, (n + 16)), (2, (n + 17)), (2, (n + 18)), (2, (n + 19)), (2, (n + 20)), (2, (n + 21)), (2, (n + 22)), (2, (n + 23)), (2, (n + 24)), (2, (n + 25)), (0, 0), (1, 0), (2, (n + 26)), (2, (n + 27)), (2, (n + 28)), (2, (n + 29)), (2, (n + 30)), (2, (n + 31)), (2, (n + 32)), (2, (n + 33)), (2, (n + 34)), (2, (n + 35)), (2, (n + 36)), (2, (n + 37)), (2, (n + 38)), (2, (n + 39)), (2, (n + 40)), (2, (n + 41)), (0, 0), (2, (n + 42)), (2, (n + 43)), (0, 0), (1, 0)]) rfl ?_
  have hg : wG S (S87.set k (17, 0, [(0, 0), (0, 0), (2, n), (0, 0), (0, 0), (0, 0), (0, 0), (1, 0), (0, 0), (0, 0), (2, (n + 1)), (2, (n + 2)), (2, (n + 3)), (2, (n + 4)), (2, (n + 5)), (2, (n + 6)), (2, (n + 7)), (2, (n + 8)), (2, (n + 9)), (2, (n + 10)), (2, (n + 11)), (2, (n + 12)), (2, (n + 13)), (0, 0), (2, (n + 14)), (2, (n + 15)), (2, (n + 16)), (2, (n + 17)), (2, (n + 18)), (2, (n + 19)), (2, (n + 20)), (2, (n + 21)), (2, (n + 22)), (2, (n + 23)), (2, (n + 24)), (2, (n + 25)), (0, 0), (1, 0), (2, (n + 26)), (2, (n + 27)), (2, (n + 28)), (2, (n + 29)), (2, (n + 30)), (2, (n + 31)), (2, (n + 32)), (2, (n + 33)), (2, (n + 34)), (2, (n + 35)), (2, (n + 36)), (2, (n + 37)), (2, (n + 38)), (2, (n + 39)), (2, (n + 40)), (2, (n + 41)), (0, 0), (2, (n + 42)), (2, (n + 43)), (0, 0), (1, 0)])) n (n + 44) k := wG_set2 (j := 56) (r := (n + 43)) hg hk (by omega) (Or.inl rfl) rfl
  have hk := w_stk (x := (17, 0, [(0, 0), (0, 0), (2, n), (0, 0), (0, 0), (0, 0), (0, 0), (1, 0), (0, 0), (0, 0), (2, (n + 1)), (2, (n + 2)), (2, (n + 3)), (2, (n + 4)), (2, (n + 5)), (2, (n + 6)), (2, (n + 7)), (2, (n + 8)), (2, (n + 9)), (2, (n + 10)), (2, (n + 11)), (2, (n + 12)), (2, (n + 13)), (0, 0), (2, (n + 14)), (2, (n + 15)), (2, (n + 16)), (2, (n + 17)), (2, (n + 18)), (2, (n + 19)), (2, (n + 20)), (2, (n + 21)), (2, (n + 22)), (2, (n + 23)), (2, (n + 24)), (2, (n + 25)), (0, 0), (1, 0), (2, (n + 26)), (2, (n + 27)), (2, (n + 28)), (2, (n + 29)), (2, (n + 30)), (2, (n + 31)), (2, (n + 32)), (2, (n + 33)), (2, (n + 34)), (2, (n + 35)), (2, (n + 36)), (2, (n + 37)), (2, (n + 38)), (2, (n + 39)), (2, (n + 40)), (2, (n + 41)), (0, 0), (2, (n + 42)), (2, (n + 43)), (0, 0), (1, 0)])) hk
  generalize hs88 : S87.set k (17, 0, [(0, 0), (0, 0), (2, n), (0, 0), (0, 0), (0, 0), (0, 0), (1, 0), (0, 0), (0, 0), (2, (n + 1)), (2, (n + 2)), (2, (n + 3)), (2, (n + 4)), (2, (n + 5)), (2, (n + 6)), (2, (n + 7)), (2, (n + 8)), (2, (n + 9)), (2, (n + 10)), (2, (n + 11)), (2, (n + 12)), (2, (n + 13)), (0, 0), (2, (n + 14)), (2, (n + 15)), (2, (n + 16)), (2, (n + 17)), (2, (n + 18)), (2, (n + 19)), (2, (n + 20)), (2, (n + 21)), (2, (n + 22)), (2, (n + 23)), (2, (n + 24)), (2, (n + 25)), (0, 0), (1, 0), (2, (n + 26)), (2, (n + 27)), (2, (n + 28)), (2, (n + 29)), (2, (n + 30)), (2, (n + 31)), (2, (n + 32)), (2, (n + 33)), (2, (n + 34)), (2, (n + 35)), (2, (n + 36)), (2, (n + 37)), (2, (n + 38)), (2, (n + 39)), (2, (n + 40)), (2, (n + 41)), (0, 0), (2, (n + 42)), (2, (n + 43)), (0, 0), (1, 0)]) = S88 at hk hg ⊢
  subst hs1
  subst hs2
  subst hs3
  subst hs4
  subst hs5
  subst hs6
  subst hs7
  subst hs8
  subst hs9
  subst hs10
  subst hs11
  subst hs12
  subst hs13
  subst hs14
  subst hs15
  subst hs16
  subst hs17
  subst hs18
  subst hs19
  subst hs20
  subst hs21
  subst hs22
  subst hs23
  subst hs24
  subst hs25
  subst hs26
  subst hs27
  subst hs28
  subst hs29
  subst hs30
  subst hs31
  subst hs32
  subst hs33
  subst hs34
  subst hs35
  subst hs36
  subst hs37
  subst hs38
  subst hs39
  subst hs40
  subst hs41
  subst hs42
  subst hs43
  subst hs44
  subst hs45
  subst hs46
  subst hs47
  subst hs48
  subst hs49
  subst hs50
  subst hs51
  subst hs52
  subst hs53
  subst hs54
  subst hs55
  subst hs56
  subst hs57
  subst hs58
  subst hs59
  subst hs60
  subst hs61
  subst hs62
  subst hs63
  subst hs64
  subst hs65
  subst hs66
  subst hs67
  subst hs68
  subst hs69
  subst hs70
  subst hs71
  subst hs72
  subst hs73
  subst hs74
  subst hs75
  subst hs76
  subst hs77
  subst hs78
  subst hs79
  subst hs80
  subst hs81
  subst hs82
  subst hs83
  subst hs84
  subst hs85
  subst hs86
  subst hs87
  subst hs88
  exact w_vretI X dX11_init_359 hr ha (Nat.le_of_ble_eq_true rfl) (Nat.le_of_ble_eq_true rfl)

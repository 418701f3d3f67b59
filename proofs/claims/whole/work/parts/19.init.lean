theorem wd_190 : (Jvm.Cond.code ({ cls := "WornSkin$Year", name := "<init>", desc := "()V" } : Jvm.MethodName) prog_11_method_1_code (1 : Nat) (Option.none : Option Jvm.ClassFile.FieldType)) ∈ wT0 := wT0_in (List.mem_append_right _ (List.mem_of_getElem? (i := 190) (by decide +kernel))) rfl
theorem wd_189 : (Jvm.Cond.instanceMethod ({ cls := "WornSkin$Year", name := "<init>", desc := "()V" } : Jvm.MethodName)) ∈ wT0 := wT0_in (List.mem_append_right _ (List.mem_of_getElem? (i := 189) (by decide +kernel))) rfl
theorem wd_205 : (Jvm.Cond.code ({ cls := "WornSkin$Seen", name := "<init>", desc := "()V" } : Jvm.MethodName) prog_7_method_1_code (1 : Nat) (Option.none : Option Jvm.ClassFile.FieldType)) ∈ wT0 := wT0_in (List.mem_append_right _ (List.mem_of_getElem? (i := 205) (by decide +kernel))) rfl
theorem wd_204 : (Jvm.Cond.instanceMethod ({ cls := "WornSkin$Seen", name := "<init>", desc := "()V" } : Jvm.MethodName)) ∈ wT0 := wT0_in (List.mem_append_right _ (List.mem_of_getElem? (i := 204) (by decide +kernel))) rfl
theorem wd_296 : (Jvm.Cond.methodLink "WornSkin$Bookmark" (25 : Nat) ({ cls := "WornSkin$Shelf", name := "<init>", desc := "(LWornSkin$Library;)V" } : Jvm.MethodName)) ∈ wT0 := wT0_in (List.mem_append_right _ (List.mem_of_getElem? (i := 296) (by decide +kernel))) rfl
theorem wd_160 : (Jvm.Cond.code ({ cls := "WornSkin$Shelf", name := "<init>", desc := "(LWornSkin$Library;)V" } : Jvm.MethodName) prog_8_method_1_code (2 : Nat) (Option.none : Option Jvm.ClassFile.FieldType)) ∈ wT0 := wT0_in (List.mem_append_right _ (List.mem_of_getElem? (i := 160) (by decide +kernel))) rfl
theorem wd_159 : (Jvm.Cond.instanceMethod ({ cls := "WornSkin$Shelf", name := "<init>", desc := "(LWornSkin$Library;)V" } : Jvm.MethodName)) ∈ wT0 := wT0_in (List.mem_append_right _ (List.mem_of_getElem? (i := 159) (by decide +kernel))) rfl
theorem wd_81 : (Jvm.Cond.code ({ cls := "WornSkin$Law", name := "<init>", desc := "()V" } : Jvm.MethodName) prog_4_method_1_code (1 : Nat) (Option.none : Option Jvm.ClassFile.FieldType)) ∈ wT0 := wT0_in (List.mem_append_right _ (List.mem_of_getElem? (i := 81) (by decide +kernel))) rfl
theorem wd_80 : (Jvm.Cond.instanceMethod ({ cls := "WornSkin$Law", name := "<init>", desc := "()V" } : Jvm.MethodName)) ∈ wT0 := wT0_in (List.mem_append_right _ (List.mem_of_getElem? (i := 80) (by decide +kernel))) rfl
theorem wd_232 : (Jvm.Cond.methodLink "WornSkin$Undoing" (15 : Nat) ({ cls := "WornSkin$Shelf", name := "<init>", desc := "(LWornSkin$Library;)V" } : Jvm.MethodName)) ∈ wT0 := wT0_in (List.mem_append_right _ (List.mem_of_getElem? (i := 232) (by decide +kernel))) rfl
theorem wd_37 : (Jvm.Cond.code ({ cls := "WornSkin$Tape", name := "<init>", desc := "()V" } : Jvm.MethodName) prog_9_method_1_code (1 : Nat) (Option.none : Option Jvm.ClassFile.FieldType)) ∈ wT0 := wT0_in (List.mem_append_right _ (List.mem_of_getElem? (i := 37) (by decide +kernel))) rfl
theorem wd_36 : (Jvm.Cond.instanceMethod ({ cls := "WornSkin$Tape", name := "<init>", desc := "()V" } : Jvm.MethodName)) ∈ wT0 := wT0_in (List.mem_append_right _ (List.mem_of_getElem? (i := 36) (by decide +kernel))) rfl
theorem wd_75 : (Jvm.Cond.code ({ cls := "WornSkin$Library", name := "<init>", desc := "()V" } : Jvm.MethodName) prog_6_method_1_code (1 : Nat) (Option.none : Option Jvm.ClassFile.FieldType)) ∈ wT0 := wT0_in (List.mem_append_right _ (List.mem_of_getElem? (i := 75) (by decide +kernel))) rfl
theorem wd_74 : (Jvm.Cond.instanceMethod ({ cls := "WornSkin$Library", name := "<init>", desc := "()V" } : Jvm.MethodName)) ∈ wT0 := wT0_in (List.mem_append_right _ (List.mem_of_getElem? (i := 74) (by decide +kernel))) rfl
theorem wd_158 : (Jvm.Cond.methodLink "WornSkin" (28 : Nat) ({ cls := "WornSkin$Shelf", name := "<init>", desc := "(LWornSkin$Library;)V" } : Jvm.MethodName)) ∈ wT0 := wT0_in (List.mem_append_right _ (List.mem_of_getElem? (i := 158) (by decide +kernel))) rfl
theorem wd_226 : (Jvm.Cond.methodLink "WornSkin" (57 : Nat) ({ cls := "WornSkin$Undoing", name := "<init>", desc := "(LWornSkin$Library;)V" } : Jvm.MethodName)) ∈ wT0 := wT0_in (List.mem_append_right _ (List.mem_of_getElem? (i := 226) (by decide +kernel))) rfl
theorem wd_228 : (Jvm.Cond.code ({ cls := "WornSkin$Undoing", name := "<init>", desc := "(LWornSkin$Library;)V" } : Jvm.MethodName) prog_10_method_1_code (3 : Nat) (Option.none : Option Jvm.ClassFile.FieldType)) ∈ wT0 := wT0_in (List.mem_append_right _ (List.mem_of_getElem? (i := 228) (by decide +kernel))) rfl
theorem wd_227 : (Jvm.Cond.instanceMethod ({ cls := "WornSkin$Undoing", name := "<init>", desc := "(LWornSkin$Library;)V" } : Jvm.MethodName)) ∈ wT0 := wT0_in (List.mem_append_right _ (List.mem_of_getElem? (i := 227) (by decide +kernel))) rfl
theorem wd_246 : (Jvm.Cond.methodLink "WornSkin" (64 : Nat) ({ cls := "WornSkin$Layout", name := "<init>", desc := "(LWornSkin$Library;)V" } : Jvm.MethodName)) ∈ wT0 := wT0_in (List.mem_append_right _ (List.mem_of_getElem? (i := 246) (by decide +kernel))) rfl
theorem wd_248 : (Jvm.Cond.code ({ cls := "WornSkin$Layout", name := "<init>", desc := "(LWornSkin$Library;)V" } : Jvm.MethodName) prog_5_method_1_code (2 : Nat) (Option.none : Option Jvm.ClassFile.FieldType)) ∈ wT0 := wT0_in (List.mem_append_right _ (List.mem_of_getElem? (i := 248) (by decide +kernel))) rfl
theorem wd_247 : (Jvm.Cond.instanceMethod ({ cls := "WornSkin$Layout", name := "<init>", desc := "(LWornSkin$Library;)V" } : Jvm.MethodName)) ∈ wT0 := wT0_in (List.mem_append_right _ (List.mem_of_getElem? (i := 247) (by decide +kernel))) rfl
theorem wd_278 : (Jvm.Cond.code ({ cls := "WornSkin$Draws", name := "<init>", desc := "()V" } : Jvm.MethodName) prog_3_method_1_code (1 : Nat) (Option.none : Option Jvm.ClassFile.FieldType)) ∈ wT0 := wT0_in (List.mem_append_right _ (List.mem_of_getElem? (i := 278) (by decide +kernel))) rfl
theorem wd_277 : (Jvm.Cond.instanceMethod ({ cls := "WornSkin$Draws", name := "<init>", desc := "()V" } : Jvm.MethodName)) ∈ wT0 := wT0_in (List.mem_append_right _ (List.mem_of_getElem? (i := 277) (by decide +kernel))) rfl
theorem wd_287 : (Jvm.Cond.methodLink "WornSkin" (82 : Nat) ({ cls := "WornSkin$Bookmark", name := "<init>", desc := "(LWornSkin$Library;)V" } : Jvm.MethodName)) ∈ wT0 := wT0_in (List.mem_append_right _ (List.mem_of_getElem? (i := 287) (by decide +kernel))) rfl
theorem wd_289 : (Jvm.Cond.code ({ cls := "WornSkin$Bookmark", name := "<init>", desc := "(LWornSkin$Library;)V" } : Jvm.MethodName) prog_2_method_1_code (2 : Nat) (Option.none : Option Jvm.ClassFile.FieldType)) ∈ wT0 := wT0_in (List.mem_append_right _ (List.mem_of_getElem? (i := 289) (by decide +kernel))) rfl
theorem wd_288 : (Jvm.Cond.instanceMethod ({ cls := "WornSkin$Bookmark", name := "<init>", desc := "(LWornSkin$Library;)V" } : Jvm.MethodName)) ∈ wT0 := wT0_in (List.mem_append_right _ (List.mem_of_getElem? (i := 288) (by decide +kernel))) rfl
theorem wd_279 : (Jvm.Cond.methodLink "WornSkin$Draws" (1 : Nat) ({ cls := "java/lang/Object", name := "<init>", desc := "()V" } : Jvm.MethodName)) ∈ wT0 := wT0_in (List.mem_append_right _ (List.mem_of_getElem? (i := 279) (by decide +kernel))) rfl
theorem wd_31 : (Jvm.Cond.instanceMethod ({ cls := "java/lang/Object", name := "<init>", desc := "()V" } : Jvm.MethodName)) ∈ wT0 := wT0_in (List.mem_append_right _ (List.mem_of_getElem? (i := 31) (by decide +kernel))) rfl
theorem wd_32 : (Jvm.Cond.code ({ cls := "java/lang/Object", name := "<init>", desc := "()V" } : Jvm.MethodName) object_method_1_code (1 : Nat) (Option.none : Option Jvm.ClassFile.FieldType)) ∈ wT0 := wT0_in (List.mem_append_right _ (List.mem_of_getElem? (i := 32) (by decide +kernel))) rfl
theorem wd_82 : (Jvm.Cond.methodLink "WornSkin$Law" (1 : Nat) ({ cls := "java/lang/Object", name := "<init>", desc := "()V" } : Jvm.MethodName)) ∈ wT0 := wT0_in (List.mem_append_right _ (List.mem_of_getElem? (i := 82) (by decide +kernel))) rfl
theorem wd_97 : (Jvm.Cond.arrayClass Jvm.ClassFile.FieldType.int) ∈ wT0 := wT0_in (List.mem_append_right _ (List.mem_of_getElem? (i := 97) (by decide +kernel))) rfl
theorem wd_38 : (Jvm.Cond.methodLink "WornSkin$Tape" (1 : Nat) ({ cls := "java/lang/Object", name := "<init>", desc := "()V" } : Jvm.MethodName)) ∈ wT0 := wT0_in (List.mem_append_right _ (List.mem_of_getElem? (i := 38) (by decide +kernel))) rfl
theorem wd_70 : (Jvm.Cond.arrayClass Jvm.ClassFile.FieldType.byte) ∈ wT0 := wT0_in (List.mem_append_right _ (List.mem_of_getElem? (i := 70) (by decide +kernel))) rfl
theorem wd_191 : (Jvm.Cond.methodLink "WornSkin$Year" (3 : Nat) ({ cls := "java/lang/Object", name := "<init>", desc := "()V" } : Jvm.MethodName)) ∈ wT0 := wT0_in (List.mem_append_right _ (List.mem_of_getElem? (i := 191) (by decide +kernel))) rfl
theorem wd_206 : (Jvm.Cond.methodLink "WornSkin$Seen" (1 : Nat) ({ cls := "java/lang/Object", name := "<init>", desc := "()V" } : Jvm.MethodName)) ∈ wT0 := wT0_in (List.mem_append_right _ (List.mem_of_getElem? (i := 206) (by decide +kernel))) rfl
theorem wd_161 : (Jvm.Cond.methodLink "WornSkin$Shelf" (3 : Nat) ({ cls := "java/lang/Object", name := "<init>", desc := "()V" } : Jvm.MethodName)) ∈ wT0 := wT0_in (List.mem_append_right _ (List.mem_of_getElem? (i := 161) (by decide +kernel))) rfl
theorem wd_76 : (Jvm.Cond.methodLink "WornSkin$Library" (3 : Nat) ({ cls := "java/lang/Object", name := "<init>", desc := "()V" } : Jvm.MethodName)) ∈ wT0 := wT0_in (List.mem_append_right _ (List.mem_of_getElem? (i := 76) (by decide +kernel))) rfl
theorem wd_96 : (Jvm.Cond.arrayClass Jvm.ClassFile.FieldType.long) ∈ wT0 := wT0_in (List.mem_append_right _ (List.mem_of_getElem? (i := 96) (by decide +kernel))) rfl
theorem wd_77 : (Jvm.Cond.classLink "WornSkin$Library" (40 : Nat) "WornSkin$Law") ∈ wT0 := wT0_in (List.mem_append_right _ (List.mem_of_getElem? (i := 77) (by decide +kernel))) rfl
theorem wd_78 : (Jvm.Cond.instantiable "WornSkin$Law" (4 : Nat)) ∈ wT0 := wT0_in (List.mem_append_right _ (List.mem_of_getElem? (i := 78) (by decide +kernel))) rfl
theorem wd_290 : (Jvm.Cond.methodLink "WornSkin$Bookmark" (1 : Nat) ({ cls := "java/lang/Object", name := "<init>", desc := "()V" } : Jvm.MethodName)) ∈ wT0 := wT0_in (List.mem_append_right _ (List.mem_of_getElem? (i := 290) (by decide +kernel))) rfl
theorem wd_291 : (Jvm.Cond.classLink "WornSkin$Bookmark" (7 : Nat) "WornSkin$Year") ∈ wT0 := wT0_in (List.mem_append_right _ (List.mem_of_getElem? (i := 291) (by decide +kernel))) rfl
theorem wd_187 : (Jvm.Cond.instantiable "WornSkin$Year" (2 : Nat)) ∈ wT0 := wT0_in (List.mem_append_right _ (List.mem_of_getElem? (i := 187) (by decide +kernel))) rfl
theorem wd_293 : (Jvm.Cond.classLink "WornSkin$Bookmark" (16 : Nat) "WornSkin$Seen") ∈ wT0 := wT0_in (List.mem_append_right _ (List.mem_of_getElem? (i := 293) (by decide +kernel))) rfl
theorem wd_202 : (Jvm.Cond.instantiable "WornSkin$Seen" (5 : Nat)) ∈ wT0 := wT0_in (List.mem_append_right _ (List.mem_of_getElem? (i := 202) (by decide +kernel))) rfl
theorem wd_295 : (Jvm.Cond.classLink "WornSkin$Bookmark" (23 : Nat) "WornSkin$Shelf") ∈ wT0 := wT0_in (List.mem_append_right _ (List.mem_of_getElem? (i := 295) (by decide +kernel))) rfl
theorem wd_157 : (Jvm.Cond.instantiable "WornSkin$Shelf" (6 : Nat)) ∈ wT0 := wT0_in (List.mem_append_right _ (List.mem_of_getElem? (i := 157) (by decide +kernel))) rfl
def wrlP (n : Nat) : List (Option Value) → Prop
  | [] => True
  | none :: l => wrlP n l
  | some v :: l => wRf n v ∧ wrlP n l
def wrsP (n : Nat) : List Value → Prop
  | [] => True
  | v :: l => wRf n v ∧ wrsP n l
theorem wrlP_spec {n : Nat} : ∀ (ls : List (Option Value)), wrlP n ls → ∀ (i : Nat) (v : Value), ls[i]? = some (some v) → wRf n v
  | [], _, i, v, h => by simp at h
  | none :: l, hs, 0, v, h => by simp at h
  | none :: l, hs, i + 1, v, h => wrlP_spec l hs i v h
  | some w :: l, hs, 0, v, h => by
    have h : some (some w) = some (some v) := h
    cases h
    exact hs.1
  | some w :: l, hs, i + 1, v, h => wrlP_spec l hs.2 i v h
theorem wrsP_spec {n : Nat} : ∀ (st : List Value), wrsP n st → ∀ v ∈ st, wRf n v
  | [], _, v, h => by cases h
  | w :: l, hs, v, h => by
    rcases List.mem_cons.mp h with rfl | h
    · exact hs.1
    · exact wrsP_spec l hs.2 v h
theorem w_rl {n : Nat} {ls : List (Option Value)} {st : List Value} (h1 : wrlP n ls) (h2 : wrsP n st) : wRl n ls st := ⟨wrlP_spec ls h1, wrsP_spec st h2⟩
theorem il_X0_9 : wIl RX0 9 yX9_init cX9_init 1 0 := ⟨by decide +kernel, wd_190, Or.inr ⟨"WornSkin", by decide +kernel⟩, wd_189, wd_6, rfl⟩
theorem il_X0_18 : wIl RX0 18 yX5_init cX5_init 1 0 := ⟨by decide +kernel, wd_205, Or.inr ⟨"WornSkin", by decide +kernel⟩, wd_204, wd_7, rfl⟩
theorem il_X0_25 : wIl RX0 25 yX6_init cX6_init 2 1 := ⟨by decide +kernel, wd_160, Or.inl wd_296, wd_159, wd_5, rfl⟩
theorem il_X4_42 : wIl RX4 42 yX2_init cX2_init 1 0 := ⟨by decide +kernel, wd_81, Or.inr ⟨"WornSkin", by decide +kernel⟩, wd_80, wd_4, rfl⟩
theorem il_X8_15 : wIl RX8 15 yX6_init cX6_init 2 1 := ⟨by decide +kernel, wd_160, Or.inl wd_232, wd_159, wd_5, rfl⟩
theorem il_X10_11 : wIl RX10 11 yX7_init cX7_init 1 0 := ⟨by decide +kernel, wd_37, Or.inr ⟨"WornSkin", by decide +kernel⟩, wd_36, wd_2, rfl⟩
theorem il_X10_18 : wIl RX10 18 yX4_init cX4_init 1 0 := ⟨by decide +kernel, wd_75, Or.inr ⟨"WornSkin", by decide +kernel⟩, wd_74, wd_3, rfl⟩
theorem il_X10_28 : wIl RX10 28 yX6_init cX6_init 2 1 := ⟨by decide +kernel, wd_160, Or.inl wd_158, wd_159, wd_5, rfl⟩
theorem il_X10_40 : wIl RX10 40 yX9_init cX9_init 1 0 := ⟨by decide +kernel, wd_190, Or.inr ⟨"WornSkin", by decide +kernel⟩, wd_189, wd_6, rfl⟩
theorem il_X10_50 : wIl RX10 50 yX5_init cX5_init 1 0 := ⟨by decide +kernel, wd_205, Or.inr ⟨"WornSkin", by decide +kernel⟩, wd_204, wd_7, rfl⟩
theorem il_X10_57 : wIl RX10 57 yX8_init cX8_init 3 1 := ⟨by decide +kernel, wd_228, Or.inl wd_226, wd_227, wd_8, rfl⟩
theorem il_X10_64 : wIl RX10 64 yX3_init cX3_init 2 1 := ⟨by decide +kernel, wd_248, Or.inl wd_246, wd_247, wd_9, rfl⟩
theorem il_X10_71 : wIl RX10 71 yX1_init cX1_init 1 0 := ⟨by decide +kernel, wd_278, Or.inr ⟨"WornSkin", by decide +kernel⟩, wd_277, wd_10, rfl⟩
theorem il_X10_82 : wIl RX10 82 yX0_init cX0_init 2 1 := ⟨by decide +kernel, wd_289, Or.inl wd_287, wd_288, wd_11, rfl⟩
def sX1 (S : List wSh) (n k : Nat) : List wSh := S
set_option maxRecDepth 20000 in
set_option maxHeartbeats 4000000 in
theorem gqX1 {S : List wSh} {n k : Nat} (hn : S.length = n) (hw : wWf S) (hk : S[k]? = some (7, 0, [(1, 0)])) : wG S (sX1 S n k) n (n + 0) k ∧ (sX1 S n k)[k]? = some (7, 0, [(1, 0)]) := by
  have hkl : k < n := by rw [← hn]; exact (List.getElem?_eq_some_iff.mp hk).1
  have hg : wG S S n n k := wG_rf hn hw
  exact ⟨hg, hk⟩
theorem gX1 {S : List wSh} {n k : Nat} (hn : S.length = n) (hw : wWf S) (hk : S[k]? = some (7, 0, [(1, 0)])) : wG S (sX1 S n k) n (n + 0) k := (gqX1 hn hw hk).1
theorem qX1 {S : List wSh} {n k : Nat} (hn : S.length = n) (hw : wWf S) (hk : S[k]? = some (7, 0, [(1, 0)])) : (sX1 S n k)[k]? = some (7, 0, [(1, 0)]) := (gqX1 hn hw hk).2
set_option maxRecDepth 20000 in
set_option maxHeartbeats 8000000 in
theorem iX1 (l : Launch) {S : List wSh} {n k : Nat} (hn : S.length = n) (hw : wWf S) (hk : S[k]? = some (7, 0, [(1, 0)])) (hn9 : n < 90000) : wCi l yX1_init cX1_init 1 1 0 0 S n [.ref k] (sX1 S n k) := by
  have hkl : k < n := by rw [← hn]; exact (List.getElem?_eq_some_iff.mp hk).1
  refine w_methI 0 (by decide) (Nat.le_of_ble_eq_true rfl) (ls := [some (.ref k)]) rfl ?_
  intro p e s m args below meth c D dA b0 ad X hr hin
  have hg : wG S S n n k := wG_rf hn hw
  have ha : ∀ q, (q < n ∨ 99999 ≤ q) → ad q = ad q := fun _ _ => rfl
  refine w_aload_n X dX1_init_0 rfl rfl rfl ?_
  refine w_obj X dX1_init_1 rfl wd_279 wd_31 wd_32 (Nat.le_of_ble_eq_true rfl) (Nat.le_of_ble_eq_true rfl) ?_
  exact w_vretI X dX1_init_4 hr ha (Nat.le_of_ble_eq_true rfl) (Nat.le_of_ble_eq_true rfl)
def sX2 (S : List wSh) (n k : Nat) : List wSh := ((((S ++ [(0, 1000, [])]).set k (8, 0, ([(3, 0), (0, 0), (0, 0), (3, 0)].set 0 (2, n)))) ++ [(0, 32, [])]).set k (8, 0, (([(3, 0), (0, 0), (0, 0), (3, 0)].set 0 (2, n)).set 3 (2, (n + 1)))))
set_option maxRecDepth 20000 in
set_option maxHeartbeats 4000000 in
theorem gqX2 {S : List wSh} {n k : Nat} (hn : S.length = n) (hw : wWf S) (hk : S[k]? = some (8, 0, [(3, 0), (0, 0), (0, 0), (3, 0)])) : wG S (sX2 S n k) n (n + 2) k ∧ (sX2 S n k)[k]? = some (8, 0, (([(3, 0), (0, 0), (0, 0), (3, 0)].set 0 (2, n)).set 3 (2, (n + 1)))) := by
  have hkl : k < n := by rw [← hn]; exact (List.getElem?_eq_some_iff.mp hk).1
  have hg : wG S S n n k := wG_rf hn hw
  have hk := w_apk (x := (0, 1000, [])) hk
  have hg := wG_app (t := 0) (N := 1000) (fs := []) hg (by simp)
  generalize hs1 : S ++ [(0, 1000, [])] = S1 at hk hg
  have hg := wG_set (j := 0) (r := n) hg hk (by omega) (Or.inl rfl)
  have hk := w_stk (x := (8, 0, ([(3, 0), (0, 0), (0, 0), (3, 0)].set 0 (2, n)))) hk
  generalize hs2 : S1.set k (8, 0, ([(3, 0), (0, 0), (0, 0), (3, 0)].set 0 (2, n))) = S2 at hk hg
  have hk := w_apk (x := (0, 32, [])) hk
  have hg := wG_app (t := 0) (N := 32) (fs := []) hg (by simp)
  generalize hs3 : S2 ++ [(0, 32, [])] = S3 at hk hg
  have hg := wG_set (j := 3) (r := (n + 1)) hg hk (by omega) (Or.inl rfl)
  have hk := w_stk (x := (8, 0, (([(3, 0), (0, 0), (0, 0), (3, 0)].set 0 (2, n)).set 3 (2, (n + 1))))) hk
  generalize hs4 : S3.set k (8, 0, (([(3, 0), (0, 0), (0, 0), (3, 0)].set 0 (2, n)).set 3 (2, (n + 1)))) = S4 at hk hg
  subst hs1
  subst hs2
  subst hs3
  subst hs4
  exact ⟨hg, hk⟩
theorem gX2 {S : List wSh} {n k : Nat} (hn : S.length = n) (hw : wWf S) (hk : S[k]? = some (8, 0, [(3, 0), (0, 0), (0, 0), (3, 0)])) : wG S (sX2 S n k) n (n + 2) k := (gqX2 hn hw hk).1
theorem qX2 {S : List wSh} {n k : Nat} (hn : S.length = n) (hw : wWf S) (hk : S[k]? = some (8, 0, [(3, 0), (0, 0), (0, 0), (3, 0)])) : (sX2 S n k)[k]? = some (8, 0, (([(3, 0), (0, 0), (0, 0), (3, 0)].set 0 (2, n)).set 3 (2, (n + 1)))) := (gqX2 hn hw hk).2
set_option maxRecDepth 20000 in
set_option maxHeartbeats 8000000 in
theorem iX2 (l : Launch) {S : List wSh} {n k : Nat} (hn : S.length = n) (hw : wWf S) (hk : S[k]? = some (8, 0, [(3, 0), (0, 0), (0, 0), (3, 0)])) (hn9 : n < 90000) : wCi l yX2_init cX2_init 1 1 2 1032 S n [.ref k] (sX2 S n k) := by
  have hkl : k < n := by rw [← hn]; exact (List.getElem?_eq_some_iff.mp hk).1
  refine w_methI 0 (by decide) (Nat.le_of_ble_eq_true rfl) (ls := [some (.ref k)]) rfl ?_
  intro p e s m args below meth c D dA b0 ad X hr hin
  have hg : wG S S n n k := wG_rf hn hw
  have ha : ∀ q, (q < n ∨ 99999 ≤ q) → ad q = ad q := fun _ _ => rfl
  refine w_aload_n X dX2_init_0 rfl rfl rfl ?_
  refine w_obj X dX2_init_1 rfl wd_82 wd_31 wd_32 (Nat.le_of_ble_eq_true rfl) (Nat.le_of_ble_eq_true rfl) ?_
  refine w_aload_n X dX2_init_4 rfl rfl rfl ?_
  refine w_sipush X dX2_init_5 rfl cs_1000 ?_
  refine w_newaI X dX2_init_8 rfl wd_97 (by decide) (N := 1000) (by decide) (by decide) hg.2.2.1 hg.1 (by omega) (w_rl ⟨Or.inl (by omega), trivial⟩ ⟨Or.inl (by omega), trivial⟩) ⟨Nat.le_of_ble_eq_true rfl, Nat.le_of_ble_eq_true rfl⟩ (fun ad1 ha1 X => ?_)
  have ha : ∀ q, (q < n ∨ 99999 ≤ q) → ad1 q = ad q := fun q hq => (ha1 q (by omega)).trans (ha q hq)
  have hk := w_apk (x := (0, 1000, [])) hk
  have hg := wG_app (t := 0) (N := 1000) (fs := []) hg (by simp)
  generalize hs1 : S ++ [(0, 1000, [])] = S1 at hk hg ⊢
  refine w_putR X dX2_init_10 rfl (ci := 2) (C := RX2) (T := TX2) (N := 4) (ty0 := tyX2) (ty := tyX2 0) (j := 0) rfl wcl_2 tyX2_ok nmX2 (by decide) wd_83 rfl hin rfl (by decide +kernel) (fun _ => rfl) (fun _ => rfl) hk (Nat.le_of_ble_eq_true rfl) ?_
  have hg := wG_set (j := 0) (r := n) hg hk (by omega) (Or.inl rfl)
  have hk := w_stk (x := (8, 0, ([(3, 0), (0, 0), (0, 0), (3, 0)].set 0 (2, n)))) hk
  generalize hs2 : S1.set k (8, 0, ([(3, 0), (0, 0), (0, 0), (3, 0)].set 0 (2, n))) = S2 at hk hg ⊢
  refine w_aload_n X dX2_init_13 rfl rfl rfl ?_
  refine w_bipush X dX2_init_14 rfl cb_32 ?_
  refine w_newaI X dX2_init_16 rfl wd_97 (by decide) (N := 32) (by decide) (by decide) hg.2.2.1 hg.1 (by omega) (w_rl ⟨Or.inl (by omega), trivial⟩ ⟨Or.inl (by omega), trivial⟩) ⟨Nat.le_of_ble_eq_true rfl, Nat.le_of_ble_eq_true rfl⟩ (fun ad2 ha2 X => ?_)
  have ha : ∀ q, (q < n ∨ 99999 ≤ q) → ad2 q = ad q := fun q hq => (ha2 q (by omega)).trans (ha q hq)
  have hk := w_apk (x := (0, 32, [])) hk
  have hg := wG_app (t := 0) (N := 32) (fs := []) hg (by simp)
  generalize hs3 : S2 ++ [(0, 32, [])] = S3 at hk hg ⊢
  refine w_putR X dX2_init_18 rfl (ci := 2) (C := RX2) (T := TX2) (N := 4) (ty0 := tyX2) (ty := tyX2 3) (j := 3) rfl wcl_2 tyX2_ok nmX2 (by decide) wd_86 rfl hin rfl (by decide +kernel) (fun _ => rfl) (fun _ => rfl) hk (Nat.le_of_ble_eq_true rfl) ?_
  have hg := wG_set (j := 3) (r := (n + 1)) hg hk (by omega) (Or.inl rfl)
  have hk := w_stk (x := (8, 0, (([(3, 0), (0, 0), (0, 0), (3, 0)].set 0 (2, n)).set 3 (2, (n + 1))))) hk
  generalize hs4 : S3.set k (8, 0, (([(3, 0), (0, 0), (0, 0), (3, 0)].set 0 (2, n)).set 3 (2, (n + 1)))) = S4 at hk hg ⊢
  subst hs1
  subst hs2
  subst hs3
  subst hs4
  exact w_vretI X dX2_init_21 hr ha (Nat.le_of_ble_eq_true rfl) (Nat.le_of_ble_eq_true rfl)
def sX7 (S : List wSh) (n k : Nat) : List wSh := ((S ++ [(1, 1000, [])]).set k (13, 0, ([(3, 0), (0, 0), (0, 0), (0, 0), (0, 0), (0, 0), (1, 0), (0, 0)].set 0 (2, n))))
set_option maxRecDepth 20000 in
set_option maxHeartbeats 4000000 in
theorem gqX7 {S : List wSh} {n k : Nat} (hn : S.length = n) (hw : wWf S) (hk : S[k]? = some (13, 0, [(3, 0), (0, 0), (0, 0), (0, 0), (0, 0), (0, 0), (1, 0), (0, 0)])) : wG S (sX7 S n k) n (n + 1) k ∧ (sX7 S n k)[k]? = some (13, 0, ([(3, 0), (0, 0), (0, 0), (0, 0), (0, 0), (0, 0), (1, 0), (0, 0)].set 0 (2, n))) := by
  have hkl : k < n := by rw [← hn]; exact (List.getElem?_eq_some_iff.mp hk).1
  have hg : wG S S n n k := wG_rf hn hw
  have hk := w_apk (x := (1, 1000, [])) hk
  have hg := wG_app (t := 1) (N := 1000) (fs := []) hg (by simp)
  generalize hs1 : S ++ [(1, 1000, [])] = S1 at hk hg
  have hg := wG_set (j := 0) (r := n) hg hk (by omega) (Or.inl rfl)
  have hk := w_stk (x := (13, 0, ([(3, 0), (0, 0), (0, 0), (0, 0), (0, 0), (0, 0), (1, 0), (0, 0)].set 0 (2, n)))) hk
  generalize hs2 : S1.set k (13, 0, ([(3, 0), (0, 0), (0, 0), (0, 0), (0, 0), (0, 0), (1, 0), (0, 0)].set 0 (2, n))) = S2 at hk hg
  subst hs1
  subst hs2
  exact ⟨hg, hk⟩
theorem gX7 {S : List wSh} {n k : Nat} (hn : S.length = n) (hw : wWf S) (hk : S[k]? = some (13, 0, [(3, 0), (0, 0), (0, 0), (0, 0), (0, 0), (0, 0), (1, 0), (0, 0)])) : wG S (sX7 S n k) n (n + 1) k := (gqX7 hn hw hk).1
theorem qX7 {S : List wSh} {n k : Nat} (hn : S.length = n) (hw : wWf S) (hk : S[k]? = some (13, 0, [(3, 0), (0, 0), (0, 0), (0, 0), (0, 0), (0, 0), (1, 0), (0, 0)])) : (sX7 S n k)[k]? = some (13, 0, ([(3, 0), (0, 0), (0, 0), (0, 0), (0, 0), (0, 0), (1, 0), (0, 0)].set 0 (2, n))) := (gqX7 hn hw hk).2
set_option maxRecDepth 20000 in
set_option maxHeartbeats 8000000 in
theorem iX7 (l : Launch) {S : List wSh} {n k : Nat} (hn : S.length = n) (hw : wWf S) (hk : S[k]? = some (13, 0, [(3, 0), (0, 0), (0, 0), (0, 0), (0, 0), (0, 0), (1, 0), (0, 0)])) (hn9 : n < 90000) : wCi l yX7_init cX7_init 1 1 1 1000 S n [.ref k] (sX7 S n k) := by
  have hkl : k < n := by rw [← hn]; exact (List.getElem?_eq_some_iff.mp hk).1
  refine w_methI 0 (by decide) (Nat.le_of_ble_eq_true rfl) (ls := [some (.ref k)]) rfl ?_
  intro p e s m args below meth c D dA b0 ad X hr hin
  have hg : wG S S n n k := wG_rf hn hw
  have ha : ∀ q, (q < n ∨ 99999 ≤ q) → ad q = ad q := fun _ _ => rfl
  refine w_aload_n X dX7_init_0 rfl rfl rfl ?_
  refine w_obj X dX7_init_1 rfl wd_38 wd_31 wd_32 (Nat.le_of_ble_eq_true rfl) (Nat.le_of_ble_eq_true rfl) ?_
  refine w_aload_n X dX7_init_4 rfl rfl rfl ?_
  refine w_sipush X dX7_init_5 rfl cs_1000 ?_
  refine w_newaB X dX7_init_8 rfl wd_70 (by decide) (N := 1000) (by decide) (by decide) hg.2.2.1 hg.1 (by omega) (w_rl ⟨Or.inl (by omega), trivial⟩ ⟨Or.inl (by omega), trivial⟩) ⟨Nat.le_of_ble_eq_true rfl, Nat.le_of_ble_eq_true rfl⟩ (fun ad1 ha1 X => ?_)
  have ha : ∀ q, (q < n ∨ 99999 ≤ q) → ad1 q = ad q := fun q hq => (ha1 q (by omega)).trans (ha q hq)
  have hk := w_apk (x := (1, 1000, [])) hk
  have hg := wG_app (t := 1) (N := 1000) (fs := []) hg (by simp)
  generalize hs1 : S ++ [(1, 1000, [])] = S1 at hk hg ⊢
  refine w_putR X dX7_init_10 rfl (ci := 7) (C := RX7) (T := TX7) (N := 8) (ty0 := tyX7) (ty := tyX7 0) (j := 0) rfl wcl_7 tyX7_ok nmX7 (by decide) wd_39 rfl hin rfl (by decide +kernel) (fun _ => rfl) (fun _ => rfl) hk (Nat.le_of_ble_eq_true rfl) ?_
  have hg := wG_set (j := 0) (r := n) hg hk (by omega) (Or.inl rfl)
  have hk := w_stk (x := (13, 0, ([(3, 0), (0, 0), (0, 0), (0, 0), (0, 0), (0, 0), (1, 0), (0, 0)].set 0 (2, n)))) hk
  generalize hs2 : S1.set k (13, 0, ([(3, 0), (0, 0), (0, 0), (0, 0), (0, 0), (0, 0), (1, 0), (0, 0)].set 0 (2, n))) = S2 at hk hg ⊢
  subst hs1
  subst hs2
  exact w_vretI X dX7_init_13 hr ha (Nat.le_of_ble_eq_true rfl) (Nat.le_of_ble_eq_true rfl)
def sX9 (S : List wSh) (n k : Nat) : List wSh := ((S ++ [(0, 40, [])]).set k (15, 0, ([(0, 0), (3, 0)].set 1 (2, n))))
set_option maxRecDepth 20000 in
set_option maxHeartbeats 4000000 in
theorem gqX9 {S : List wSh} {n k : Nat} (hn : S.length = n) (hw : wWf S) (hk : S[k]? = some (15, 0, [(0, 0), (3, 0)])) : wG S (sX9 S n k) n (n + 1) k ∧ (sX9 S n k)[k]? = some (15, 0, ([(0, 0), (3, 0)].set 1 (2, n))) := by
  have hkl : k < n := by rw [← hn]; exact (List.getElem?_eq_some_iff.mp hk).1
  have hg : wG S S n n k := wG_rf hn hw
  have hk := w_apk (x := (0, 40, [])) hk
  have hg := wG_app (t := 0) (N := 40) (fs := []) hg (by simp)
  generalize hs1 : S ++ [(0, 40, [])] = S1 at hk hg
  have hg := wG_set (j := 1) (r := n) hg hk (by omega) (Or.inl rfl)
  have hk := w_stk (x := (15, 0, ([(0, 0), (3, 0)].set 1 (2, n)))) hk
  generalize hs2 : S1.set k (15, 0, ([(0, 0), (3, 0)].set 1 (2, n))) = S2 at hk hg
  subst hs1
  subst hs2
  exact ⟨hg, hk⟩
theorem gX9 {S : List wSh} {n k : Nat} (hn : S.length = n) (hw : wWf S) (hk : S[k]? = some (15, 0, [(0, 0), (3, 0)])) : wG S (sX9 S n k) n (n + 1) k := (gqX9 hn hw hk).1
theorem qX9 {S : List wSh} {n k : Nat} (hn : S.length = n) (hw : wWf S) (hk : S[k]? = some (15, 0, [(0, 0), (3, 0)])) : (sX9 S n k)[k]? = some (15, 0, ([(0, 0), (3, 0)].set 1 (2, n))) := (gqX9 hn hw hk).2
set_option maxRecDepth 20000 in
set_option maxHeartbeats 8000000 in
theorem iX9 (l : Launch) {S : List wSh} {n k : Nat} (hn : S.length = n) (hw : wWf S) (hk : S[k]? = some (15, 0, [(0, 0), (3, 0)])) (hn9 : n < 90000) : wCi l yX9_init cX9_init 1 1 1 40 S n [.ref k] (sX9 S n k) := by
  have hkl : k < n := by rw [← hn]; exact (List.getElem?_eq_some_iff.mp hk).1
  refine w_methI 0 (by decide) (Nat.le_of_ble_eq_true rfl) (ls := [some (.ref k)]) rfl ?_
  intro p e s m args below meth c D dA b0 ad X hr hin
  have hg : wG S S n n k := wG_rf hn hw
  have ha : ∀ q, (q < n ∨ 99999 ≤ q) → ad q = ad q := fun _ _ => rfl
  refine w_aload_n X dX9_init_0 rfl rfl rfl ?_
  refine w_obj X dX9_init_1 rfl wd_191 wd_31 wd_32 (Nat.le_of_ble_eq_true rfl) (Nat.le_of_ble_eq_true rfl) ?_
  refine w_aload_n X dX9_init_4 rfl rfl rfl ?_
  refine w_bipush X dX9_init_5 rfl cb_40 ?_
  refine w_newaI X dX9_init_7 rfl wd_97 (by decide) (N := 40) (by decide) (by decide) hg.2.2.1 hg.1 (by omega) (w_rl ⟨Or.inl (by omega), trivial⟩ ⟨Or.inl (by omega), trivial⟩) ⟨Nat.le_of_ble_eq_true rfl, Nat.le_of_ble_eq_true rfl⟩ (fun ad1 ha1 X => ?_)
  have ha : ∀ q, (q < n ∨ 99999 ≤ q) → ad1 q = ad q := fun q hq => (ha1 q (by omega)).trans (ha q hq)
  have hk := w_apk (x := (0, 40, [])) hk
  have hg := wG_app (t := 0) (N := 40) (fs := []) hg (by simp)
  generalize hs1 : S ++ [(0, 40, [])] = S1 at hk hg ⊢
  refine w_putR X dX9_init_9 rfl (ci := 9) (C := RX9) (T := TX9) (N := 2) (ty0 := tyX9) (ty := tyX9 1) (j := 1) rfl wcl_9 tyX9_ok nmX9 (by decide) wd_194 rfl hin rfl (by decide +kernel) (fun _ => rfl) (fun _ => rfl) hk (Nat.le_of_ble_eq_true rfl) ?_
  have hg := wG_set (j := 1) (r := n) hg hk (by omega) (Or.inl rfl)
  have hk := w_stk (x := (15, 0, ([(0, 0), (3, 0)].set 1 (2, n)))) hk
  generalize hs2 : S1.set k (15, 0, ([(0, 0), (3, 0)].set 1 (2, n))) = S2 at hk hg ⊢
  subst hs1
  subst hs2
  exact w_vretI X dX9_init_12 hr ha (Nat.le_of_ble_eq_true rfl) (Nat.le_of_ble_eq_true rfl)
def sX5 (S : List wSh) (n k : Nat) : List wSh := ((((((((S ++ [(0, 8, [])]).set k (11, 0, ([(0, 0), (3, 0), (3, 0), (3, 0), (3, 0)].set 1 (2, n)))) ++ [(0, 8, [])]).set k (11, 0, (([(0, 0), (3, 0), (3, 0), (3, 0), (3, 0)].set 1 (2, n)).set 2 (2, (n + 1))))) ++ [(0, 8, [])]).set k (11, 0, ((([(0, 0), (3, 0), (3, 0), (3, 0), (3, 0)].set 1 (2, n)).set 2 (2, (n + 1))).set 3 (2, (n + 2))))) ++ [(0, 8, [])]).set k (11, 0, (((([(0, 0), (3, 0), (3, 0), (3, 0), (3, 0)].set 1 (2, n)).set 2 (2, (n + 1))).set 3 (2, (n + 2))).set 4 (2, (n + 3)))))
set_option maxRecDepth 20000 in
set_option maxHeartbeats 4000000 in
theorem gqX5 {S : List wSh} {n k : Nat} (hn : S.length = n) (hw : wWf S) (hk : S[k]? = some (11, 0, [(0, 0), (3, 0), (3, 0), (3, 0), (3, 0)])) : wG S (sX5 S n k) n (n + 4) k ∧ (sX5 S n k)[k]? = some (11, 0, (((([(0, 0), (3, 0), (3, 0), (3, 0), (3, 0)].set 1 (2, n)).set 2 (2, (n + 1))).set 3 (2, (n + 2))).set 4 (2, (n + 3)))) := by
  have hkl : k < n := by rw [← hn]; exact (List.getElem?_eq_some_iff.mp hk).1
  have hg : wG S S n n k := wG_rf hn hw
  have hk := w_apk (x := (0, 8, [])) hk
  have hg := wG_app (t := 0) (N := 8) (fs := []) hg (by simp)
  generalize hs1 : S ++ [(0, 8, [])] = S1 at hk hg
  have hg := wG_set (j := 1) (r := n) hg hk (by omega) (Or.inl rfl)
  have hk := w_stk (x := (11, 0, ([(0, 0), (3, 0), (3, 0), (3, 0), (3, 0)].set 1 (2, n)))) hk
  generalize hs2 : S1.set k (11, 0, ([(0, 0), (3, 0), (3, 0), (3, 0), (3, 0)].set 1 (2, n))) = S2 at hk hg
  have hk := w_apk (x := (0, 8, [])) hk
  have hg := wG_app (t := 0) (N := 8) (fs := []) hg (by simp)
  generalize hs3 : S2 ++ [(0, 8, [])] = S3 at hk hg
  have hg := wG_set (j := 2) (r := (n + 1)) hg hk (by omega) (Or.inl rfl)
  have hk := w_stk (x := (11, 0, (([(0, 0), (3, 0), (3, 0), (3, 0), (3, 0)].set 1 (2, n)).set 2 (2, (n + 1))))) hk
  generalize hs4 : S3.set k (11, 0, (([(0, 0), (3, 0), (3, 0), (3, 0), (3, 0)].set 1 (2, n)).set 2 (2, (n + 1)))) = S4 at hk hg
  have hk := w_apk (x := (0, 8, [])) hk
  have hg := wG_app (t := 0) (N := 8) (fs := []) hg (by simp)
  generalize hs5 : S4 ++ [(0, 8, [])] = S5 at hk hg
  have hg := wG_set (j := 3) (r := (n + 2)) hg hk (by omega) (Or.inl rfl)
  have hk := w_stk (x := (11, 0, ((([(0, 0), (3, 0), (3, 0), (3, 0), (3, 0)].set 1 (2, n)).set 2 (2, (n + 1))).set 3 (2, (n + 2))))) hk
  generalize hs6 : S5.set k (11, 0, ((([(0, 0), (3, 0), (3, 0), (3, 0), (3, 0)].set 1 (2, n)).set 2 (2, (n + 1))).set 3 (2, (n + 2)))) = S6 at hk hg
  have hk := w_apk (x := (0, 8, [])) hk
  have hg := wG_app (t := 0) (N := 8) (fs := []) hg (by simp)
  generalize hs7 : S6 ++ [(0, 8, [])] = S7 at hk hg
  have hg := wG_set (j := 4) (r := (n + 3)) hg hk (by omega) (Or.inl rfl)
  have hk := w_stk (x := (11, 0, (((([(0, 0), (3, 0), (3, 0), (3, 0), (3, 0)].set 1 (2, n)).set 2 (2, (n + 1))).set 3 (2, (n + 2))).set 4 (2, (n + 3))))) hk
  generalize hs8 : S7.set k (11, 0, (((([(0, 0), (3, 0), (3, 0), (3, 0), (3, 0)].set 1 (2, n)).set 2 (2, (n + 1))).set 3 (2, (n + 2))).set 4 (2, (n + 3)))) = S8 at hk hg
  subst hs1
  subst hs2
  subst hs3
  subst hs4
  subst hs5
  subst hs6
  subst hs7
  subst hs8
  exact ⟨hg, hk⟩
theorem gX5 {S : List wSh} {n k : Nat} (hn : S.length = n) (hw : wWf S) (hk : S[k]? = some (11, 0, [(0, 0), (3, 0), (3, 0), (3, 0), (3, 0)])) : wG S (sX5 S n k) n (n + 4) k := (gqX5 hn hw hk).1
theorem qX5 {S : List wSh} {n k : Nat} (hn : S.length = n) (hw : wWf S) (hk : S[k]? = some (11, 0, [(0, 0), (3, 0), (3, 0), (3, 0), (3, 0)])) : (sX5 S n k)[k]? = some (11, 0, (((([(0, 0), (3, 0), (3, 0), (3, 0), (3, 0)].set 1 (2, n)).set 2 (2, (n + 1))).set 3 (2, (n + 2))).set 4 (2, (n + 3)))) := (gqX5 hn hw hk).2
set_option maxRecDepth 20000 in
set_option maxHeartbeats 8000000 in
theorem iX5 (l : Launch) {S : List wSh} {n k : Nat} (hn : S.length = n) (hw : wWf S) (hk : S[k]? = some (11, 0, [(0, 0), (3, 0), (3, 0), (3, 0), (3, 0)])) (hn9 : n < 90000) : wCi l yX5_init cX5_init 1 1 4 32 S n [.ref k] (sX5 S n k) := by
  have hkl : k < n := by rw [← hn]; exact (List.getElem?_eq_some_iff.mp hk).1
  refine w_methI 0 (by decide) (Nat.le_of_ble_eq_true rfl) (ls := [some (.ref k)]) rfl ?_
  intro p e s m args below meth c D dA b0 ad X hr hin
  have hg : wG S S n n k := wG_rf hn hw
  have ha : ∀ q, (q < n ∨ 99999 ≤ q) → ad q = ad q := fun _ _ => rfl
  refine w_aload_n X dX5_init_0 rfl rfl rfl ?_
  refine w_obj X dX5_init_1 rfl wd_206 wd_31 wd_32 (Nat.le_of_ble_eq_true rfl) (Nat.le_of_ble_eq_true rfl) ?_
  refine w_aload_n X dX5_init_4 rfl rfl rfl ?_
  refine w_bipush X dX5_init_5 rfl cb_8 ?_
  refine w_newaI X dX5_init_7 rfl wd_97 (by decide) (N := 8) (by decide) (by decide) hg.2.2.1 hg.1 (by omega) (w_rl ⟨Or.inl (by omega), trivial⟩ ⟨Or.inl (by omega), trivial⟩) ⟨Nat.le_of_ble_eq_true rfl, Nat.le_of_ble_eq_true rfl⟩ (fun ad1 ha1 X => ?_)
  have ha : ∀ q, (q < n ∨ 99999 ≤ q) → ad1 q = ad q := fun q hq => (ha1 q (by omega)).trans (ha q hq)
  have hk := w_apk (x := (0, 8, [])) hk
  have hg := wG_app (t := 0) (N := 8) (fs := []) hg (by simp)
  generalize hs1 : S ++ [(0, 8, [])] = S1 at hk hg ⊢
  refine w_putR X dX5_init_9 rfl (ci := 5) (C := RX5) (T := TX5) (N := 5) (ty0 := tyX5) (ty := tyX5 1) (j := 1) rfl wcl_5 tyX5_ok nmX5 (by decide) wd_209 rfl hin rfl (by decide +kernel) (fun _ => rfl) (fun _ => rfl) hk (Nat.le_of_ble_eq_true rfl) ?_
  have hg := wG_set (j := 1) (r := n) hg hk (by omega) (Or.inl rfl)
  have hk := w_stk (x := (11, 0, ([(0, 0), (3, 0), (3, 0), (3, 0), (3, 0)].set 1 (2, n)))) hk
  generalize hs2 : S1.set k (11, 0, ([(0, 0), (3, 0), (3, 0), (3, 0), (3, 0)].set 1 (2, n))) = S2 at hk hg ⊢
  refine w_aload_n X dX5_init_12 rfl rfl rfl ?_
  refine w_bipush X dX5_init_13 rfl cb_8 ?_
  refine w_newaI X dX5_init_15 rfl wd_97 (by decide) (N := 8) (by decide) (by decide) hg.2.2.1 hg.1 (by omega) (w_rl ⟨Or.inl (by omega), trivial⟩ ⟨Or.inl (by omega), trivial⟩) ⟨Nat.le_of_ble_eq_true rfl, Nat.le_of_ble_eq_true rfl⟩ (fun ad2 ha2 X => ?_)
  have ha : ∀ q, (q < n ∨ 99999 ≤ q) → ad2 q = ad q := fun q hq => (ha2 q (by omega)).trans (ha q hq)
  have hk := w_apk (x := (0, 8, [])) hk
  have hg := wG_app (t := 0) (N := 8) (fs := []) hg (by simp)
  generalize hs3 : S2 ++ [(0, 8, [])] = S3 at hk hg ⊢
  refine w_putR X dX5_init_17 rfl (ci := 5) (C := RX5) (T := TX5) (N := 5) (ty0 := tyX5) (ty := tyX5 2) (j := 2) rfl wcl_5 tyX5_ok nmX5 (by decide) wd_210 rfl hin rfl (by decide +kernel) (fun _ => rfl) (fun _ => rfl) hk (Nat.le_of_ble_eq_true rfl) ?_
  have hg := wG_set (j := 2) (r := (n + 1)) hg hk (by omega) (Or.inl rfl)
  have hk := w_stk (x := (11, 0, (([(0, 0), (3, 0), (3, 0), (3, 0), (3, 0)].set 1 (2, n)).set 2 (2, (n + 1))))) hk
  generalize hs4 : S3.set k (11, 0, (([(0, 0), (3, 0), (3, 0), (3, 0), (3, 0)].set 1 (2, n)).set 2 (2, (n + 1)))) = S4 at hk hg ⊢
  refine w_aload_n X dX5_init_20 rfl rfl rfl ?_
  refine w_bipush X dX5_init_21 rfl cb_8 ?_
  refine w_newaI X dX5_init_23 rfl wd_97 (by decide) (N := 8) (by decide) (by decide) hg.2.2.1 hg.1 (by omega) (w_rl ⟨Or.inl (by omega), trivial⟩ ⟨Or.inl (by omega), trivial⟩) ⟨Nat.le_of_ble_eq_true rfl, Nat.le_of_ble_eq_true rfl⟩ (fun ad3 ha3 X => ?_)
  have ha : ∀ q, (q < n ∨ 99999 ≤ q) → ad3 q = ad q := fun q hq => (ha3 q (by omega)).trans (ha q hq)
  have hk := w_apk (x := (0, 8, [])) hk
  have hg := wG_app (t := 0) (N := 8) (fs := []) hg (by simp)
  generalize hs5 : S4 ++ [(0, 8, [])] = S5 at hk hg ⊢
  refine w_putR X dX5_init_25 rfl (ci := 5) (C := RX5) (T := TX5) (N := 5) (ty0 := tyX5) (ty := tyX5 3) (j := 3) rfl wcl_5 tyX5_ok nmX5 (by decide) wd_211 rfl hin rfl (by decide +kernel) (fun _ => rfl) (fun _ => rfl) hk (Nat.le_of_ble_eq_true rfl) ?_
  have hg := wG_set (j := 3) (r := (n + 2)) hg hk (by omega) (Or.inl rfl)
  have hk := w_stk (x := (11, 0, ((([(0, 0), (3, 0), (3, 0), (3, 0), (3, 0)].set 1 (2, n)).set 2 (2, (n + 1))).set 3 (2, (n + 2))))) hk
  generalize hs6 : S5.set k (11, 0, ((([(0, 0), (3, 0), (3, 0), (3, 0), (3, 0)].set 1 (2, n)).set 2 (2, (n + 1))).set 3 (2, (n + 2)))) = S6 at hk hg ⊢
  refine w_aload_n X dX5_init_28 rfl rfl rfl ?_
  refine w_bipush X dX5_init_29 rfl cb_8 ?_
  refine w_newaI X dX5_init_31 rfl wd_97 (by decide) (N := 8) (by decide) (by decide) hg.2.2.1 hg.1 (by omega) (w_rl ⟨Or.inl (by omega), trivial⟩ ⟨Or.inl (by omega), trivial⟩) ⟨Nat.le_of_ble_eq_true rfl, Nat.le_of_ble_eq_true rfl⟩ (fun ad4 ha4 X => ?_)
  have ha : ∀ q, (q < n ∨ 99999 ≤ q) → ad4 q = ad q := fun q hq => (ha4 q (by omega)).trans (ha q hq)
  have hk := w_apk (x := (0, 8, [])) hk
  have hg := wG_app (t := 0) (N := 8) (fs := []) hg (by simp)
  generalize hs7 : S6 ++ [(0, 8, [])] = S7 at hk hg ⊢
  refine w_putR X dX5_init_33 rfl (ci := 5) (C := RX5) (T := TX5) (N := 5) (ty0 := tyX5) (ty := tyX5 4) (j := 4) rfl wcl_5 tyX5_ok nmX5 (by decide) wd_212 rfl hin rfl (by decide +kernel) (fun _ => rfl) (fun _ => rfl) hk (Nat.le_of_ble_eq_true rfl) ?_
  have hg := wG_set (j := 4) (r := (n + 3)) hg hk (by omega) (Or.inl rfl)
  have hk := w_stk (x := (11, 0, (((([(0, 0), (3, 0), (3, 0), (3, 0), (3, 0)].set 1 (2, n)).set 2 (2, (n + 1))).set 3 (2, (n + 2))).set 4 (2, (n + 3))))) hk
  generalize hs8 : S7.set k (11, 0, (((([(0, 0), (3, 0), (3, 0), (3, 0), (3, 0)].set 1 (2, n)).set 2 (2, (n + 1))).set 3 (2, (n + 2))).set 4 (2, (n + 3)))) = S8 at hk hg ⊢
  subst hs1
  subst hs2
  subst hs3
  subst hs4
  subst hs5
  subst hs6
  subst hs7
  subst hs8
  exact w_vretI X dX5_init_36 hr ha (Nat.le_of_ble_eq_true rfl) (Nat.le_of_ble_eq_true rfl)
def sX6 (S : List wSh) (n k : Nat) (t : Nat) : List wSh := (((((((((S ++ [(0, 3, [])]).set k (12, 0, ([(3, 0), (0, 0), (3, 0), (3, 0), (3, 0), (3, 0)].set 2 (2, n)))) ++ [(0, 3, [])]).set k (12, 0, (([(3, 0), (0, 0), (3, 0), (3, 0), (3, 0), (3, 0)].set 2 (2, n)).set 3 (2, (n + 1))))) ++ [(0, 18, [])]).set k (12, 0, ((([(3, 0), (0, 0), (3, 0), (3, 0), (3, 0), (3, 0)].set 2 (2, n)).set 3 (2, (n + 1))).set 4 (2, (n + 2))))) ++ [(0, 18, [])]).set k (12, 0, (((([(3, 0), (0, 0), (3, 0), (3, 0), (3, 0), (3, 0)].set 2 (2, n)).set 3 (2, (n + 1))).set 4 (2, (n + 2))).set 5 (2, (n + 3))))).set k (12, 0, ((((([(3, 0), (0, 0), (3, 0), (3, 0), (3, 0), (3, 0)].set 2 (2, n)).set 3 (2, (n + 1))).set 4 (2, (n + 2))).set 5 (2, (n + 3))).set 0 (2, t))))
set_option maxRecDepth 20000 in
set_option maxHeartbeats 4000000 in
theorem gqX6 {S : List wSh} {n k t : Nat} (hn : S.length = n) (hw : wWf S) (hk : S[k]? = some (12, 0, [(3, 0), (0, 0), (3, 0), (3, 0), (3, 0), (3, 0)])) (ht : t < n) : wG S (sX6 S n k t) n (n + 4) k ∧ (sX6 S n k t)[k]? = some (12, 0, ((((([(3, 0), (0, 0), (3, 0), (3, 0), (3, 0), (3, 0)].set 2 (2, n)).set 3 (2, (n + 1))).set 4 (2, (n + 2))).set 5 (2, (n + 3))).set 0 (2, t))) := by
  have hkl : k < n := by rw [← hn]; exact (List.getElem?_eq_some_iff.mp hk).1
  have hg : wG S S n n k := wG_rf hn hw
  have hk := w_apk (x := (0, 3, [])) hk
  have hg := wG_app (t := 0) (N := 3) (fs := []) hg (by simp)
  generalize hs1 : S ++ [(0, 3, [])] = S1 at hk hg
  have hg := wG_set (j := 2) (r := n) hg hk (by omega) (Or.inl rfl)
  have hk := w_stk (x := (12, 0, ([(3, 0), (0, 0), (3, 0), (3, 0), (3, 0), (3, 0)].set 2 (2, n)))) hk
  generalize hs2 : S1.set k (12, 0, ([(3, 0), (0, 0), (3, 0), (3, 0), (3, 0), (3, 0)].set 2 (2, n))) = S2 at hk hg
  have hk := w_apk (x := (0, 3, [])) hk
  have hg := wG_app (t := 0) (N := 3) (fs := []) hg (by simp)
  generalize hs3 : S2 ++ [(0, 3, [])] = S3 at hk hg
  have hg := wG_set (j := 3) (r := (n + 1)) hg hk (by omega) (Or.inl rfl)
  have hk := w_stk (x := (12, 0, (([(3, 0), (0, 0), (3, 0), (3, 0), (3, 0), (3, 0)].set 2 (2, n)).set 3 (2, (n + 1))))) hk
  generalize hs4 : S3.set k (12, 0, (([(3, 0), (0, 0), (3, 0), (3, 0), (3, 0), (3, 0)].set 2 (2, n)).set 3 (2, (n + 1)))) = S4 at hk hg
  have hk := w_apk (x := (0, 18, [])) hk
  have hg := wG_app (t := 0) (N := 18) (fs := []) hg (by simp)
  generalize hs5 : S4 ++ [(0, 18, [])] = S5 at hk hg
  have hg := wG_set (j := 4) (r := (n + 2)) hg hk (by omega) (Or.inl rfl)
  have hk := w_stk (x := (12, 0, ((([(3, 0), (0, 0), (3, 0), (3, 0), (3, 0), (3, 0)].set 2 (2, n)).set 3 (2, (n + 1))).set 4 (2, (n + 2))))) hk
  generalize hs6 : S5.set k (12, 0, ((([(3, 0), (0, 0), (3, 0), (3, 0), (3, 0), (3, 0)].set 2 (2, n)).set 3 (2, (n + 1))).set 4 (2, (n + 2)))) = S6 at hk hg
  have hk := w_apk (x := (0, 18, [])) hk
  have hg := wG_app (t := 0) (N := 18) (fs := []) hg (by simp)
  generalize hs7 : S6 ++ [(0, 18, [])] = S7 at hk hg
  have hg := wG_set (j := 5) (r := (n + 3)) hg hk (by omega) (Or.inl rfl)
  have hk := w_stk (x := (12, 0, (((([(3, 0), (0, 0), (3, 0), (3, 0), (3, 0), (3, 0)].set 2 (2, n)).set 3 (2, (n + 1))).set 4 (2, (n + 2))).set 5 (2, (n + 3))))) hk
  generalize hs8 : S7.set k (12, 0, (((([(3, 0), (0, 0), (3, 0), (3, 0), (3, 0), (3, 0)].set 2 (2, n)).set 3 (2, (n + 1))).set 4 (2, (n + 2))).set 5 (2, (n + 3)))) = S8 at hk hg
  have hg := wG_set (j := 0) (r := t) hg hk (by omega) (Or.inl rfl)
  have hk := w_stk (x := (12, 0, ((((([(3, 0), (0, 0), (3, 0), (3, 0), (3, 0), (3, 0)].set 2 (2, n)).set 3 (2, (n + 1))).set 4 (2, (n + 2))).set 5 (2, (n + 3))).set 0 (2, t)))) hk
  generalize hs9 : S8.set k (12, 0, ((((([(3, 0), (0, 0), (3, 0), (3, 0), (3, 0), (3, 0)].set 2 (2, n)).set 3 (2, (n + 1))).set 4 (2, (n + 2))).set 5 (2, (n + 3))).set 0 (2, t))) = S9 at hk hg
  subst hs1
  subst hs2
  subst hs3
  subst hs4
  subst hs5
  subst hs6
  subst hs7
  subst hs8
  subst hs9
  exact ⟨hg, hk⟩
theorem gX6 {S : List wSh} {n k t : Nat} (hn : S.length = n) (hw : wWf S) (hk : S[k]? = some (12, 0, [(3, 0), (0, 0), (3, 0), (3, 0), (3, 0), (3, 0)])) (ht : t < n) : wG S (sX6 S n k t) n (n + 4) k := (gqX6 hn hw hk ht).1
theorem qX6 {S : List wSh} {n k t : Nat} (hn : S.length = n) (hw : wWf S) (hk : S[k]? = some (12, 0, [(3, 0), (0, 0), (3, 0), (3, 0), (3, 0), (3, 0)])) (ht : t < n) : (sX6 S n k t)[k]? = some (12, 0, ((((([(3, 0), (0, 0), (3, 0), (3, 0), (3, 0), (3, 0)].set 2 (2, n)).set 3 (2, (n + 1))).set 4 (2, (n + 2))).set 5 (2, (n + 3))).set 0 (2, t))) := (gqX6 hn hw hk ht).2
set_option maxRecDepth 20000 in
set_option maxHeartbeats 8000000 in
theorem iX6 (l : Launch) {S : List wSh} {n k t : Nat} (hn : S.length = n) (hw : wWf S) (hk : S[k]? = some (12, 0, [(3, 0), (0, 0), (3, 0), (3, 0), (3, 0), (3, 0)])) (hn9 : n < 90000) (ht : t < n) : wCi l yX6_init cX6_init 2 1 4 42 S n [.ref k, .ref t] (sX6 S n k t) := by
  have hkl : k < n := by rw [← hn]; exact (List.getElem?_eq_some_iff.mp hk).1
  refine w_methI 0 (by decide) (Nat.le_of_ble_eq_true rfl) (ls := [some (.ref k), some (.ref t)]) rfl ?_
  intro p e s m args below meth c D dA b0 ad X hr hin
  have hg : wG S S n n k := wG_rf hn hw
  have ha : ∀ q, (q < n ∨ 99999 ≤ q) → ad q = ad q := fun _ _ => rfl
  refine w_aload_n X dX6_init_0 rfl rfl rfl ?_
  refine w_obj X dX6_init_1 rfl wd_161 wd_31 wd_32 (Nat.le_of_ble_eq_true rfl) (Nat.le_of_ble_eq_true rfl) ?_
  refine w_aload_n X dX6_init_4 rfl rfl rfl ?_
  refine w_iconst X dX6_init_5 rfl ci_3 ?_
  refine w_newaI X dX6_init_6 rfl wd_97 (by decide) (N := 3) (by decide) (by decide) hg.2.2.1 hg.1 (by omega) (w_rl ⟨Or.inl (by omega), Or.inl (by omega), trivial⟩ ⟨Or.inl (by omega), trivial⟩) ⟨Nat.le_of_ble_eq_true rfl, Nat.le_of_ble_eq_true rfl⟩ (fun ad1 ha1 X => ?_)
  have ha : ∀ q, (q < n ∨ 99999 ≤ q) → ad1 q = ad q := fun q hq => (ha1 q (by omega)).trans (ha q hq)
  have hk := w_apk (x := (0, 3, [])) hk
  have hg := wG_app (t := 0) (N := 3) (fs := []) hg (by simp)
  generalize hs1 : S ++ [(0, 3, [])] = S1 at hk hg ⊢
  refine w_putR X dX6_init_8 rfl (ci := 6) (C := RX6) (T := TX6) (N := 6) (ty0 := tyX6) (ty := tyX6 2) (j := 2) rfl wcl_6 tyX6_ok nmX6 (by decide) wd_165 rfl hin rfl (by decide +kernel) (fun _ => rfl) (fun _ => rfl) hk (Nat.le_of_ble_eq_true rfl) ?_
  have hg := wG_set (j := 2) (r := n) hg hk (by omega) (Or.inl rfl)
  have hk := w_stk (x := (12, 0, ([(3, 0), (0, 0), (3, 0), (3, 0), (3, 0), (3, 0)].set 2 (2, n)))) hk
  generalize hs2 : S1.set k (12, 0, ([(3, 0), (0, 0), (3, 0), (3, 0), (3, 0), (3, 0)].set 2 (2, n))) = S2 at hk hg ⊢
  refine w_aload_n X dX6_init_11 rfl rfl rfl ?_
  refine w_iconst X dX6_init_12 rfl ci_3 ?_
  refine w_newaI X dX6_init_13 rfl wd_97 (by decide) (N := 3) (by decide) (by decide) hg.2.2.1 hg.1 (by omega) (w_rl ⟨Or.inl (by omega), Or.inl (by omega), trivial⟩ ⟨Or.inl (by omega), trivial⟩) ⟨Nat.le_of_ble_eq_true rfl, Nat.le_of_ble_eq_true rfl⟩ (fun ad2 ha2 X => ?_)
  have ha : ∀ q, (q < n ∨ 99999 ≤ q) → ad2 q = ad q := fun q hq => (ha2 q (by omega)).trans (ha q hq)
  have hk := w_apk (x := (0, 3, [])) hk
  have hg := wG_app (t := 0) (N := 3) (fs := []) hg (by simp)
  generalize hs3 : S2 ++ [(0, 3, [])] = S3 at hk hg ⊢
  refine w_putR X dX6_init_15 rfl (ci := 6) (C := RX6) (T := TX6) (N := 6) (ty0 := tyX6) (ty := tyX6 3) (j := 3) rfl wcl_6 tyX6_ok nmX6 (by decide) wd_168 rfl hin rfl (by decide +kernel) (fun _ => rfl) (fun _ => rfl) hk (Nat.le_of_ble_eq_true rfl) ?_
  have hg := wG_set (j := 3) (r := (n + 1)) hg hk (by omega) (Or.inl rfl)
  have hk := w_stk (x := (12, 0, (([(3, 0), (0, 0), (3, 0), (3, 0), (3, 0), (3, 0)].set 2 (2, n)).set 3 (2, (n + 1))))) hk
  generalize hs4 : S3.set k (12, 0, (([(3, 0), (0, 0), (3, 0), (3, 0), (3, 0), (3, 0)].set 2 (2, n)).set 3 (2, (n + 1)))) = S4 at hk hg ⊢
  refine w_aload_n X dX6_init_18 rfl rfl rfl ?_
  refine w_bipush X dX6_init_19 rfl cb_18 ?_
  refine w_newaI X dX6_init_21 rfl wd_97 (by decide) (N := 18) (by decide) (by decide) hg.2.2.1 hg.1 (by omega) (w_rl ⟨Or.inl (by omega), Or.inl (by omega), trivial⟩ ⟨Or.inl (by omega), trivial⟩) ⟨Nat.le_of_ble_eq_true rfl, Nat.le_of_ble_eq_true rfl⟩ (fun ad3 ha3 X => ?_)
  have ha : ∀ q, (q < n ∨ 99999 ≤ q) → ad3 q = ad q := fun q hq => (ha3 q (by omega)).trans (ha q hq)
  have hk := w_apk (x := (0, 18, [])) hk
  have hg := wG_app (t := 0) (N := 18) (fs := []) hg (by simp)
  generalize hs5 : S4 ++ [(0, 18, [])] = S5 at hk hg ⊢
  refine w_putR X dX6_init_23 rfl (ci := 6) (C := RX6) (T := TX6) (N := 6) (ty0 := tyX6) (ty := tyX6 4) (j := 4) rfl wcl_6 tyX6_ok nmX6 (by decide) wd_170 rfl hin rfl (by decide +kernel) (fun _ => rfl) (fun _ => rfl) hk (Nat.le_of_ble_eq_true rfl) ?_
  have hg := wG_set (j := 4) (r := (n + 2)) hg hk (by omega) (Or.inl rfl)
  have hk := w_stk (x := (12, 0, ((([(3, 0), (0, 0), (3, 0), (3, 0), (3, 0), (3, 0)].set 2 (2, n)).set 3 (2, (n + 1))).set 4 (2, (n + 2))))) hk
  generalize hs6 : S5.set k (12, 0, ((([(3, 0), (0, 0), (3, 0), (3, 0), (3, 0), (3, 0)].set 2 (2, n)).set 3 (2, (n + 1))).set 4 (2, (n + 2)))) = S6 at hk hg ⊢
  refine w_aload_n X dX6_init_26 rfl rfl rfl ?_
  refine w_bipush X dX6_init_27 rfl cb_18 ?_
  refine w_newaI X dX6_init_29 rfl wd_97 (by decide) (N := 18) (by decide) (by decide) hg.2.2.1 hg.1 (by omega) (w_rl ⟨Or.inl (by omega), Or.inl (by omega), trivial⟩ ⟨Or.inl (by omega), trivial⟩) ⟨Nat.le_of_ble_eq_true rfl, Nat.le_of_ble_eq_true rfl⟩ (fun ad4 ha4 X => ?_)
  have ha : ∀ q, (q < n ∨ 99999 ≤ q) → ad4 q = ad q := fun q hq => (ha4 q (by omega)).trans (ha q hq)
  have hk := w_apk (x := (0, 18, [])) hk
  have hg := wG_app (t := 0) (N := 18) (fs := []) hg (by simp)
  generalize hs7 : S6 ++ [(0, 18, [])] = S7 at hk hg ⊢
  refine w_putR X dX6_init_31 rfl (ci := 6) (C := RX6) (T := TX6) (N := 6) (ty0 := tyX6) (ty := tyX6 5) (j := 5) rfl wcl_6 tyX6_ok nmX6 (by decide) wd_172 rfl hin rfl (by decide +kernel) (fun _ => rfl) (fun _ => rfl) hk (Nat.le_of_ble_eq_true rfl) ?_
  have hg := wG_set (j := 5) (r := (n + 3)) hg hk (by omega) (Or.inl rfl)
  have hk := w_stk (x := (12, 0, (((([(3, 0), (0, 0), (3, 0), (3, 0), (3, 0), (3, 0)].set 2 (2, n)).set 3 (2, (n + 1))).set 4 (2, (n + 2))).set 5 (2, (n + 3))))) hk
  generalize hs8 : S7.set k (12, 0, (((([(3, 0), (0, 0), (3, 0), (3, 0), (3, 0), (3, 0)].set 2 (2, n)).set 3 (2, (n + 1))).set 4 (2, (n + 2))).set 5 (2, (n + 3)))) = S8 at hk hg ⊢
  refine w_aload_n X dX6_init_34 rfl rfl rfl ?_
  refine w_aload_n X dX6_init_35 rfl rfl rfl ?_
  refine w_putR X dX6_init_36 rfl (ci := 6) (C := RX6) (T := TX6) (N := 6) (ty0 := tyX6) (ty := tyX6 0) (j := 0) rfl wcl_6 tyX6_ok nmX6 (by decide) wd_162 rfl hin rfl (by decide +kernel) (fun _ => rfl) (fun _ => rfl) hk (Nat.le_of_ble_eq_true rfl) ?_
  have hg := wG_set (j := 0) (r := t) hg hk (by omega) (Or.inl rfl)
  have hk := w_stk (x := (12, 0, ((((([(3, 0), (0, 0), (3, 0), (3, 0), (3, 0), (3, 0)].set 2 (2, n)).set 3 (2, (n + 1))).set 4 (2, (n + 2))).set 5 (2, (n + 3))).set 0 (2, t)))) hk
  generalize hs9 : S8.set k (12, 0, ((((([(3, 0), (0, 0), (3, 0), (3, 0), (3, 0), (3, 0)].set 2 (2, n)).set 3 (2, (n + 1))).set 4 (2, (n + 2))).set 5 (2, (n + 3))).set 0 (2, t))) = S9 at hk hg ⊢
  subst hs1
  subst hs2
  subst hs3
  subst hs4
  subst hs5
  subst hs6
  subst hs7
  subst hs8
  subst hs9
  exact w_vretI X dX6_init_39 hr ha (Nat.le_of_ble_eq_true rfl) (Nat.le_of_ble_eq_true rfl)
def sX4 (S : List wSh) (n k : Nat) : List wSh := ((sX2 (((((((((((((((((((S ++ [(3, 3, [])]).set k (10, 0, ([(0, 0), (3, 0), (3, 0), (3, 0), (3, 0), (0, 0), (3, 0), (3, 0), (3, 0), (3, 0), (0, 0), (3, 0), (3, 0)].set 1 (2, n)))) ++ [(0, 3, [])]).set k (10, 0, (([(0, 0), (3, 0), (3, 0), (3, 0), (3, 0), (0, 0), (3, 0), (3, 0), (3, 0), (3, 0), (0, 0), (3, 0), (3, 0)].set 1 (2, n)).set 2 (2, (n + 1))))) ++ [(0, 3, [])]).set k (10, 0, ((([(0, 0), (3, 0), (3, 0), (3, 0), (3, 0), (0, 0), (3, 0), (3, 0), (3, 0), (3, 0), (0, 0), (3, 0), (3, 0)].set 1 (2, n)).set 2 (2, (n + 1))).set 3 (2, (n + 2))))) ++ [(0, 3, [])]).set k (10, 0, (((([(0, 0), (3, 0), (3, 0), (3, 0), (3, 0), (0, 0), (3, 0), (3, 0), (3, 0), (3, 0), (0, 0), (3, 0), (3, 0)].set 1 (2, n)).set 2 (2, (n + 1))).set 3 (2, (n + 2))).set 4 (2, (n + 3))))) ++ [(3, 6, [])]).set k (10, 0, ((((([(0, 0), (3, 0), (3, 0), (3, 0), (3, 0), (0, 0), (3, 0), (3, 0), (3, 0), (3, 0), (0, 0), (3, 0), (3, 0)].set 1 (2, n)).set 2 (2, (n + 1))).set 3 (2, (n + 2))).set 4 (2, (n + 3))).set 6 (2, (n + 4))))) ++ [(0, 6, [])]).set k (10, 0, (((((([(0, 0), (3, 0), (3, 0), (3, 0), (3, 0), (0, 0), (3, 0), (3, 0), (3, 0), (3, 0), (0, 0), (3, 0), (3, 0)].set 1 (2, n)).set 2 (2, (n + 1))).set 3 (2, (n + 2))).set 4 (2, (n + 3))).set 6 (2, (n + 4))).set 7 (2, (n + 5))))) ++ [(0, 6, [])]).set k (10, 0, ((((((([(0, 0), (3, 0), (3, 0), (3, 0), (3, 0), (0, 0), (3, 0), (3, 0), (3, 0), (3, 0), (0, 0), (3, 0), (3, 0)].set 1 (2, n)).set 2 (2, (n + 1))).set 3 (2, (n + 2))).set 4 (2, (n + 3))).set 6 (2, (n + 4))).set 7 (2, (n + 5))).set 8 (2, (n + 6))))) ++ [(0, 6, [])]).set k (10, 0, (((((((([(0, 0), (3, 0), (3, 0), (3, 0), (3, 0), (0, 0), (3, 0), (3, 0), (3, 0), (3, 0), (0, 0), (3, 0), (3, 0)].set 1 (2, n)).set 2 (2, (n + 1))).set 3 (2, (n + 2))).set 4 (2, (n + 3))).set 6 (2, (n + 4))).set 7 (2, (n + 5))).set 8 (2, (n + 6))).set 9 (2, (n + 7))))) ++ [(0, 12, [])]).set k (10, 0, ((((((((([(0, 0), (3, 0), (3, 0), (3, 0), (3, 0), (0, 0), (3, 0), (3, 0), (3, 0), (3, 0), (0, 0), (3, 0), (3, 0)].set 1 (2, n)).set 2 (2, (n + 1))).set 3 (2, (n + 2))).set 4 (2, (n + 3))).set 6 (2, (n + 4))).set 7 (2, (n + 5))).set 8 (2, (n + 6))).set 9 (2, (n + 7))).set 11 (2, (n + 8))))) ++ [(8, 0, [(3, 0), (0, 0), (0, 0), (3, 0)])]) (n + 10) (n + 9) ).set k (10, 0, (((((((((([(0, 0), (3, 0), (3, 0), (3, 0), (3, 0), (0, 0), (3, 0), (3, 0), (3, 0), (3, 0), (0, 0), (3, 0), (3, 0)].set 1 (2, n)).set 2 (2, (n + 1))).set 3 (2, (n + 2))).set 4 (2, (n + 3))).set 6 (2, (n + 4))).set 7 (2, (n + 5))).set 8 (2, (n + 6))).set 9 (2, (n + 7))).set 11 (2, (n + 8))).set 12 (2, (n + 9)))))
set_option maxRecDepth 20000 in
set_option maxHeartbeats 4000000 in
theorem gqX4 {S : List wSh} {n k : Nat} (hn : S.length = n) (hw : wWf S) (hk : S[k]? = some (10, 0, [(0, 0), (3, 0), (3, 0), (3, 0), (3, 0), (0, 0), (3, 0), (3, 0), (3, 0), (3, 0), (0, 0), (3, 0), (3, 0)])) : wG S (sX4 S n k) n (n + 12) k ∧ (sX4 S n k)[k]? = some (10, 0, (((((((((([(0, 0), (3, 0), (3, 0), (3, 0), (3, 0), (0, 0), (3, 0), (3, 0), (3, 0), (3, 0), (0, 0), (3, 0), (3, 0)].set 1 (2, n)).set 2 (2, (n + 1))).set 3 (2, (n + 2))).set 4 (2, (n + 3))).set 6 (2, (n + 4))).set 7 (2, (n + 5))).set 8 (2, (n + 6))).set 9 (2, (n + 7))).set 11 (2, (n + 8))).set 12 (2, (n + 9)))) := by
  have hkl : k < n := by rw [← hn]; exact (List.getElem?_eq_some_iff.mp hk).1
  have hg : wG S S n n k := wG_rf hn hw
  have hk := w_apk (x := (3, 3, [])) hk
  have hg := wG_app (t := 3) (N := 3) (fs := []) hg (by simp)
  generalize hs1 : S ++ [(3, 3, [])] = S1 at hk hg
  have hg := wG_set (j := 1) (r := n) hg hk (by omega) (Or.inl rfl)
  have hk := w_stk (x := (10, 0, ([(0, 0), (3, 0), (3, 0), (3, 0), (3, 0), (0, 0), (3, 0), (3, 0), (3, 0), (3, 0), (0, 0), (3, 0), (3, 0)].set 1 (2, n)))) hk
  generalize hs2 : S1.set k (10, 0, ([(0, 0), (3, 0), (3, 0), (3, 0), (3, 0), (0, 0), (3, 0), (3, 0), (3, 0), (3, 0), (0, 0), (3, 0), (3, 0)].set 1 (2, n))) = S2 at hk hg
  have hk := w_apk (x := (0, 3, [])) hk
  have hg := wG_app (t := 0) (N := 3) (fs := []) hg (by simp)
  generalize hs3 : S2 ++ [(0, 3, [])] = S3 at hk hg
  have hg := wG_set (j := 2) (r := (n + 1)) hg hk (by omega) (Or.inl rfl)
  have hk := w_stk (x := (10, 0, (([(0, 0), (3, 0), (3, 0), (3, 0), (3, 0), (0, 0), (3, 0), (3, 0), (3, 0), (3, 0), (0, 0), (3, 0), (3, 0)].set 1 (2, n)).set 2 (2, (n + 1))))) hk
  generalize hs4 : S3.set k (10, 0, (([(0, 0), (3, 0), (3, 0), (3, 0), (3, 0), (0, 0), (3, 0), (3, 0), (3, 0), (3, 0), (0, 0), (3, 0), (3, 0)].set 1 (2, n)).set 2 (2, (n + 1)))) = S4 at hk hg
  have hk := w_apk (x := (0, 3, [])) hk
  have hg := wG_app (t := 0) (N := 3) (fs := []) hg (by simp)
  generalize hs5 : S4 ++ [(0, 3, [])] = S5 at hk hg
  have hg := wG_set (j := 3) (r := (n + 2)) hg hk (by omega) (Or.inl rfl)
  have hk := w_stk (x := (10, 0, ((([(0, 0), (3, 0), (3, 0), (3, 0), (3, 0), (0, 0), (3, 0), (3, 0), (3, 0), (3, 0), (0, 0), (3, 0), (3, 0)].set 1 (2, n)).set 2 (2, (n + 1))).set 3 (2, (n + 2))))) hk
  generalize hs6 : S5.set k (10, 0, ((([(0, 0), (3, 0), (3, 0), (3, 0), (3, 0), (0, 0), (3, 0), (3, 0), (3, 0), (3, 0), (0, 0), (3, 0), (3, 0)].set 1 (2, n)).set 2 (2, (n + 1))).set 3 (2, (n + 2)))) = S6 at hk hg
  have hk := w_apk (x := (0, 3, [])) hk
  have hg := wG_app (t := 0) (N := 3) (fs := []) hg (by simp)
  generalize hs7 : S6 ++ [(0, 3, [])] = S7 at hk hg
  have hg := wG_set (j := 4) (r := (n + 3)) hg hk (by omega) (Or.inl rfl)
  have hk := w_stk (x := (10, 0, (((([(0, 0), (3, 0), (3, 0), (3, 0), (3, 0), (0, 0), (3, 0), (3, 0), (3, 0), (3, 0), (0, 0), (3, 0), (3, 0)].set 1 (2, n)).set 2 (2, (n + 1))).set 3 (2, (n + 2))).set 4 (2, (n + 3))))) hk
  generalize hs8 : S7.set k (10, 0, (((([(0, 0), (3, 0), (3, 0), (3, 0), (3, 0), (0, 0), (3, 0), (3, 0), (3, 0), (3, 0), (0, 0), (3, 0), (3, 0)].set 1 (2, n)).set 2 (2, (n + 1))).set 3 (2, (n + 2))).set 4 (2, (n + 3)))) = S8 at hk hg
  have hk := w_apk (x := (3, 6, [])) hk
  have hg := wG_app (t := 3) (N := 6) (fs := []) hg (by simp)
  generalize hs9 : S8 ++ [(3, 6, [])] = S9 at hk hg
  have hg := wG_set (j := 6) (r := (n + 4)) hg hk (by omega) (Or.inl rfl)
  have hk := w_stk (x := (10, 0, ((((([(0, 0), (3, 0), (3, 0), (3, 0), (3, 0), (0, 0), (3, 0), (3, 0), (3, 0), (3, 0), (0, 0), (3, 0), (3, 0)].set 1 (2, n)).set 2 (2, (n + 1))).set 3 (2, (n + 2))).set 4 (2, (n + 3))).set 6 (2, (n + 4))))) hk
  generalize hs10 : S9.set k (10, 0, ((((([(0, 0), (3, 0), (3, 0), (3, 0), (3, 0), (0, 0), (3, 0), (3, 0), (3, 0), (3, 0), (0, 0), (3, 0), (3, 0)].set 1 (2, n)).set 2 (2, (n + 1))).set 3 (2, (n + 2))).set 4 (2, (n + 3))).set 6 (2, (n + 4)))) = S10 at hk hg
  have hk := w_apk (x := (0, 6, [])) hk
  have hg := wG_app (t := 0) (N := 6) (fs := []) hg (by simp)
  generalize hs11 : S10 ++ [(0, 6, [])] = S11 at hk hg
  have hg := wG_set (j := 7) (r := (n + 5)) hg hk (by omega) (Or.inl rfl)
  have hk := w_stk (x := (10, 0, (((((([(0, 0), (3, 0), (3, 0), (3, 0), (3, 0), (0, 0), (3, 0), (3, 0), (3, 0), (3, 0), (0, 0), (3, 0), (3, 0)].set 1 (2, n)).set 2 (2, (n + 1))).set 3 (2, (n + 2))).set 4 (2, (n + 3))).set 6 (2, (n + 4))).set 7 (2, (n + 5))))) hk
  generalize hs12 : S11.set k (10, 0, (((((([(0, 0), (3, 0), (3, 0), (3, 0), (3, 0), (0, 0), (3, 0), (3, 0), (3, 0), (3, 0), (0, 0), (3, 0), (3, 0)].set 1 (2, n)).set 2 (2, (n + 1))).set 3 (2, (n + 2))).set 4 (2, (n + 3))).set 6 (2, (n + 4))).set 7 (2, (n + 5)))) = S12 at hk hg
  have hk := w_apk (x := (0, 6, [])) hk
  have hg := wG_app (t := 0) (N := 6) (fs := []) hg (by simp)
  generalize hs13 : S12 ++ [(0, 6, [])] = S13 at hk hg
  have hg := wG_set (j := 8) (r := (n + 6)) hg hk (by omega) (Or.inl rfl)
  have hk := w_stk (x := (10, 0, ((((((([(0, 0), (3, 0), (3, 0), (3, 0), (3, 0), (0, 0), (3, 0), (3, 0), (3, 0), (3, 0), (0, 0), (3, 0), (3, 0)].set 1 (2, n)).set 2 (2, (n + 1))).set 3 (2, (n + 2))).set 4 (2, (n + 3))).set 6 (2, (n + 4))).set 7 (2, (n + 5))).set 8 (2, (n + 6))))) hk
  generalize hs14 : S13.set k (10, 0, ((((((([(0, 0), (3, 0), (3, 0), (3, 0), (3, 0), (0, 0), (3, 0), (3, 0), (3, 0), (3, 0), (0, 0), (3, 0), (3, 0)].set 1 (2, n)).set 2 (2, (n + 1))).set 3 (2, (n + 2))).set 4 (2, (n + 3))).set 6 (2, (n + 4))).set 7 (2, (n + 5))).set 8 (2, (n + 6)))) = S14 at hk hg
  have hk := w_apk (x := (0, 6, [])) hk
  have hg := wG_app (t := 0) (N := 6) (fs := []) hg (by simp)
  generalize hs15 : S14 ++ [(0, 6, [])] = S15 at hk hg
  have hg := wG_set (j := 9) (r := (n + 7)) hg hk (by omega) (Or.inl rfl)
  have hk := w_stk (x := (10, 0, (((((((([(0, 0), (3, 0), (3, 0), (3, 0), (3, 0), (0, 0), (3, 0), (3, 0), (3, 0), (3, 0), (0, 0), (3, 0), (3, 0)].set 1 (2, n)).set 2 (2, (n + 1))).set 3 (2, (n + 2))).set 4 (2, (n + 3))).set 6 (2, (n + 4))).set 7 (2, (n + 5))).set 8 (2, (n + 6))).set 9 (2, (n + 7))))) hk
  generalize hs16 : S15.set k (10, 0, (((((((([(0, 0), (3, 0), (3, 0), (3, 0), (3, 0), (0, 0), (3, 0), (3, 0), (3, 0), (3, 0), (0, 0), (3, 0), (3, 0)].set 1 (2, n)).set 2 (2, (n + 1))).set 3 (2, (n + 2))).set 4 (2, (n + 3))).set 6 (2, (n + 4))).set 7 (2, (n + 5))).set 8 (2, (n + 6))).set 9 (2, (n + 7)))) = S16 at hk hg
  have hk := w_apk (x := (0, 12, [])) hk
  have hg := wG_app (t := 0) (N := 12) (fs := []) hg (by simp)
  generalize hs17 : S16 ++ [(0, 12, [])] = S17 at hk hg
  have hg := wG_set (j := 11) (r := (n + 8)) hg hk (by omega) (Or.inl rfl)
  have hk := w_stk (x := (10, 0, ((((((((([(0, 0), (3, 0), (3, 0), (3, 0), (3, 0), (0, 0), (3, 0), (3, 0), (3, 0), (3, 0), (0, 0), (3, 0), (3, 0)].set 1 (2, n)).set 2 (2, (n + 1))).set 3 (2, (n + 2))).set 4 (2, (n + 3))).set 6 (2, (n + 4))).set 7 (2, (n + 5))).set 8 (2, (n + 6))).set 9 (2, (n + 7))).set 11 (2, (n + 8))))) hk
  generalize hs18 : S17.set k (10, 0, ((((((((([(0, 0), (3, 0), (3, 0), (3, 0), (3, 0), (0, 0), (3, 0), (3, 0), (3, 0), (3, 0), (0, 0), (3, 0), (3, 0)].set 1 (2, n)).set 2 (2, (n + 1))).set 3 (2, (n + 2))).set 4 (2, (n + 3))).set 6 (2, (n + 4))).set 7 (2, (n + 5))).set 8 (2, (n + 6))).set 9 (2, (n + 7))).set 11 (2, (n + 8)))) = S18 at hk hg
  have hnew := w_apn (x := (8, 0, [(3, 0), (0, 0), (0, 0), (3, 0)])) hg.1
  have hk := w_apk (x := (8, 0, [(3, 0), (0, 0), (0, 0), (3, 0)])) hk
  have hg := wG_app (t := 8) (N := 0) (fs := [(3, 0), (0, 0), (0, 0), (3, 0)]) hg (by decide)
  generalize hs19 : S18 ++ [(8, 0, [(3, 0), (0, 0), (0, 0), (3, 0)])] = S19 at hk hg hnew
  have hg2 := gX2 hg.1 hg.2.2.1 hnew 
  have hk := (hg2.2.2.2 k (by omega) (by omega)).trans hk
  have hnew := qX2 hg.1 hg.2.2.1 hnew 
  have hg := wG_call hg hg2 (by omega)
  generalize hs20 : sX2 S19 (n + 10) (n + 9) = S20 at hk hg hnew
  have hg := wG_set (j := 12) (r := (n + 9)) hg hk (by omega) (Or.inl rfl)
  have hk := w_stk (x := (10, 0, (((((((((([(0, 0), (3, 0), (3, 0), (3, 0), (3, 0), (0, 0), (3, 0), (3, 0), (3, 0), (3, 0), (0, 0), (3, 0), (3, 0)].set 1 (2, n)).set 2 (2, (n + 1))).set 3 (2, (n + 2))).set 4 (2, (n + 3))).set 6 (2, (n + 4))).set 7 (2, (n + 5))).set 8 (2, (n + 6))).set 9 (2, (n + 7))).set 11 (2, (n + 8))).set 12 (2, (n + 9))))) hk
  have hnew := w_sto (k2 := k) (x := (10, 0, (((((((((([(0, 0), (3, 0), (3, 0), (3, 0), (3, 0), (0, 0), (3, 0), (3, 0), (3, 0), (3, 0), (0, 0), (3, 0), (3, 0)].set 1 (2, n)).set 2 (2, (n + 1))).set 3 (2, (n + 2))).set 4 (2, (n + 3))).set 6 (2, (n + 4))).set 7 (2, (n + 5))).set 8 (2, (n + 6))).set 9 (2, (n + 7))).set 11 (2, (n + 8))).set 12 (2, (n + 9))))) (by omega) hnew
  generalize hs21 : S20.set k (10, 0, (((((((((([(0, 0), (3, 0), (3, 0), (3, 0), (3, 0), (0, 0), (3, 0), (3, 0), (3, 0), (3, 0), (0, 0), (3, 0), (3, 0)].set 1 (2, n)).set 2 (2, (n + 1))).set 3 (2, (n + 2))).set 4 (2, (n + 3))).set 6 (2, (n + 4))).set 7 (2, (n + 5))).set 8 (2, (n + 6))).set 9 (2, (n + 7))).set 11 (2, (n + 8))).set 12 (2, (n + 9)))) = S21 at hk hg hnew
  subst hs1
  subst hs2
  subst hs3
  subst hs4
  subst hs5
  subst hs6
  subst hs7
  subst hs8
  subst hs9
  subst hs10
  subst hs11
  subst hs12
  subst hs13
  subst hs14
  subst hs15
  subst hs16
  subst hs17
  subst hs18
  subst hs19
  subst hs20
  subst hs21
  exact ⟨hg, hk⟩
theorem gX4 {S : List wSh} {n k : Nat} (hn : S.length = n) (hw : wWf S) (hk : S[k]? = some (10, 0, [(0, 0), (3, 0), (3, 0), (3, 0), (3, 0), (0, 0), (3, 0), (3, 0), (3, 0), (3, 0), (0, 0), (3, 0), (3, 0)])) : wG S (sX4 S n k) n (n + 12) k := (gqX4 hn hw hk).1
theorem qX4 {S : List wSh} {n k : Nat} (hn : S.length = n) (hw : wWf S) (hk : S[k]? = some (10, 0, [(0, 0), (3, 0), (3, 0), (3, 0), (3, 0), (0, 0), (3, 0), (3, 0), (3, 0), (3, 0), (0, 0), (3, 0), (3, 0)])) : (sX4 S n k)[k]? = some (10, 0, (((((((((([(0, 0), (3, 0), (3, 0), (3, 0), (3, 0), (0, 0), (3, 0), (3, 0), (3, 0), (3, 0), (0, 0), (3, 0), (3, 0)].set 1 (2, n)).set 2 (2, (n + 1))).set 3 (2, (n + 2))).set 4 (2, (n + 3))).set 6 (2, (n + 4))).set 7 (2, (n + 5))).set 8 (2, (n + 6))).set 9 (2, (n + 7))).set 11 (2, (n + 8))).set 12 (2, (n + 9)))) := (gqX4 hn hw hk).2
set_option maxRecDepth 20000 in
set_option maxHeartbeats 8000000 in
theorem iX4 (l : Launch) {S : List wSh} {n k : Nat} (hn : S.length = n) (hw : wWf S) (hk : S[k]? = some (10, 0, [(0, 0), (3, 0), (3, 0), (3, 0), (3, 0), (0, 0), (3, 0), (3, 0), (3, 0), (3, 0), (0, 0), (3, 0), (3, 0)])) (hn9 : n < 90000) : wCi l yX4_init cX4_init 1 2 12 1084 S n [.ref k] (sX4 S n k) := by
  have hkl : k < n := by rw [← hn]; exact (List.getElem?_eq_some_iff.mp hk).1
  refine w_methI 0 (by decide) (Nat.le_of_ble_eq_true rfl) (ls := [some (.ref k)]) rfl ?_
  intro p e s m args below meth c D dA b0 ad X hr hin
  have hg : wG S S n n k := wG_rf hn hw
  have ha : ∀ q, (q < n ∨ 99999 ≤ q) → ad q = ad q := fun _ _ => rfl
  refine w_aload_n X dX4_init_0 rfl rfl rfl ?_
  refine w_obj X dX4_init_1 rfl wd_76 wd_31 wd_32 (Nat.le_of_ble_eq_true rfl) (Nat.le_of_ble_eq_true rfl) ?_
  refine w_aload_n X dX4_init_4 rfl rfl rfl ?_
  refine w_iconst X dX4_init_5 rfl ci_3 ?_
  refine w_newaJ X dX4_init_6 rfl wd_96 (by decide) (N := 3) (by decide) (by decide) hg.2.2.1 hg.1 (by omega) (w_rl ⟨Or.inl (by omega), trivial⟩ ⟨Or.inl (by omega), trivial⟩) ⟨Nat.le_of_ble_eq_true rfl, Nat.le_of_ble_eq_true rfl⟩ (fun ad1 ha1 X => ?_)
  have ha : ∀ q, (q < n ∨ 99999 ≤ q) → ad1 q = ad q := fun q hq => (ha1 q (by omega)).trans (ha q hq)
  have hk := w_apk (x := (3, 3, [])) hk
  have hg := wG_app (t := 3) (N := 3) (fs := []) hg (by simp)
  generalize hs1 : S ++ [(3, 3, [])] = S1 at hk hg ⊢
  refine w_putR X dX4_init_8 rfl (ci := 4) (C := RX4) (T := TX4) (N := 13) (ty0 := tyX4) (ty := tyX4 1) (j := 1) rfl wcl_4 tyX4_ok nmX4 (by decide) wd_101 rfl hin rfl (by decide +kernel) (fun _ => rfl) (fun _ => rfl) hk (Nat.le_of_ble_eq_true rfl) ?_
  have hg := wG_set (j := 1) (r := n) hg hk (by omega) (Or.inl rfl)
  have hk := w_stk (x := (10, 0, ([(0, 0), (3, 0), (3, 0), (3, 0), (3, 0), (0, 0), (3, 0), (3, 0), (3, 0), (3, 0), (0, 0), (3, 0), (3, 0)].set 1 (2, n)))) hk
  generalize hs2 : S1.set k (10, 0, ([(0, 0), (3, 0), (3, 0), (3, 0), (3, 0), (0, 0), (3, 0), (3, 0), (3, 0), (3, 0), (0, 0), (3, 0), (3, 0)].set 1 (2, n))) = S2 at hk hg ⊢
  refine w_aload_n X dX4_init_11 rfl rfl rfl ?_
  refine w_iconst X dX4_init_12 rfl ci_3 ?_
  refine w_newaI X dX4_init_13 rfl wd_97 (by decide) (N := 3) (by decide) (by decide) hg.2.2.1 hg.1 (by omega) (w_rl ⟨Or.inl (by omega), trivial⟩ ⟨Or.inl (by omega), trivial⟩) ⟨Nat.le_of_ble_eq_true rfl, Nat.le_of_ble_eq_true rfl⟩ (fun ad2 ha2 X => ?_)
  have ha : ∀ q, (q < n ∨ 99999 ≤ q) → ad2 q = ad q := fun q hq => (ha2 q (by omega)).trans (ha q hq)
  have hk := w_apk (x := (0, 3, [])) hk
  have hg := wG_app (t := 0) (N := 3) (fs := []) hg (by simp)
  generalize hs3 : S2 ++ [(0, 3, [])] = S3 at hk hg ⊢
  refine w_putR X dX4_init_15 rfl (ci := 4) (C := RX4) (T := TX4) (N := 13) (ty0 := tyX4) (ty := tyX4 2) (j := 2) rfl wcl_4 tyX4_ok nmX4 (by decide) wd_102 rfl hin rfl (by decide +kernel) (fun _ => rfl) (fun _ => rfl) hk (Nat.le_of_ble_eq_true rfl) ?_
  have hg := wG_set (j := 2) (r := (n + 1)) hg hk (by omega) (Or.inl rfl)
  have hk := w_stk (x := (10, 0, (([(0, 0), (3, 0), (3, 0), (3, 0), (3, 0), (0, 0), (3, 0), (3, 0), (3, 0), (3, 0), (0, 0), (3, 0), (3, 0)].set 1 (2, n)).set 2 (2, (n + 1))))) hk
  generalize hs4 : S3.set k (10, 0, (([(0, 0), (3, 0), (3, 0), (3, 0), (3, 0), (0, 0), (3, 0), (3, 0), (3, 0), (3, 0), (0, 0), (3, 0), (3, 0)].set 1 (2, n)).set 2 (2, (n + 1)))) = S4 at hk hg ⊢
  refine w_aload_n X dX4_init_18 rfl rfl rfl ?_
  refine w_iconst X dX4_init_19 rfl ci_3 ?_
  refine w_newaI X dX4_init_20 rfl wd_97 (by decide) (N := 3) (by decide) (by decide) hg.2.2.1 hg.1 (by omega) (w_rl ⟨Or.inl (by omega), trivial⟩ ⟨Or.inl (by omega), trivial⟩) ⟨Nat.le_of_ble_eq_true rfl, Nat.le_of_ble_eq_true rfl⟩ (fun ad3 ha3 X => ?_)
  have ha : ∀ q, (q < n ∨ 99999 ≤ q) → ad3 q = ad q := fun q hq => (ha3 q (by omega)).trans (ha q hq)
  have hk := w_apk (x := (0, 3, [])) hk
  have hg := wG_app (t := 0) (N := 3) (fs := []) hg (by simp)
  generalize hs5 : S4 ++ [(0, 3, [])] = S5 at hk hg ⊢
  refine w_putR X dX4_init_22 rfl (ci := 4) (C := RX4) (T := TX4) (N := 13) (ty0 := tyX4) (ty := tyX4 3) (j := 3) rfl wcl_4 tyX4_ok nmX4 (by decide) wd_105 rfl hin rfl (by decide +kernel) (fun _ => rfl) (fun _ => rfl) hk (Nat.le_of_ble_eq_true rfl) ?_
  have hg := wG_set (j := 3) (r := (n + 2)) hg hk (by omega) (Or.inl rfl)
  have hk := w_stk (x := (10, 0, ((([(0, 0), (3, 0), (3, 0), (3, 0), (3, 0), (0, 0), (3, 0), (3, 0), (3, 0), (3, 0), (0, 0), (3, 0), (3, 0)].set 1 (2, n)).set 2 (2, (n + 1))).set 3 (2, (n + 2))))) hk
  generalize hs6 : S5.set k (10, 0, ((([(0, 0), (3, 0), (3, 0), (3, 0), (3, 0), (0, 0), (3, 0), (3, 0), (3, 0), (3, 0), (0, 0), (3, 0), (3, 0)].set 1 (2, n)).set 2 (2, (n + 1))).set 3 (2, (n + 2)))) = S6 at hk hg ⊢
  refine w_aload_n X dX4_init_25 rfl rfl rfl ?_
  refine w_iconst X dX4_init_26 rfl ci_3 ?_
  refine w_newaI X dX4_init_27 rfl wd_97 (by decide) (N := 3) (by decide) (by decide) hg.2.2.1 hg.1 (by omega) (w_rl ⟨Or.inl (by omega), trivial⟩ ⟨Or.inl (by omega), trivial⟩) ⟨Nat.le_of_ble_eq_true rfl, Nat.le_of_ble_eq_true rfl⟩ (fun ad4 ha4 X => ?_)
  have ha : ∀ q, (q < n ∨ 99999 ≤ q) → ad4 q = ad q := fun q hq => (ha4 q (by omega)).trans (ha q hq)
  have hk := w_apk (x := (0, 3, [])) hk
  have hg := wG_app (t := 0) (N := 3) (fs := []) hg (by simp)
  generalize hs7 : S6 ++ [(0, 3, [])] = S7 at hk hg ⊢
  refine w_putR X dX4_init_29 rfl (ci := 4) (C := RX4) (T := TX4) (N := 13) (ty0 := tyX4) (ty := tyX4 4) (j := 4) rfl wcl_4 tyX4_ok nmX4 (by decide) wd_107 rfl hin rfl (by decide +kernel) (fun _ => rfl) (fun _ => rfl) hk (Nat.le_of_ble_eq_true rfl) ?_
  have hg := wG_set (j := 4) (r := (n + 3)) hg hk (by omega) (Or.inl rfl)
  have hk := w_stk (x := (10, 0, (((([(0, 0), (3, 0), (3, 0), (3, 0), (3, 0), (0, 0), (3, 0), (3, 0), (3, 0), (3, 0), (0, 0), (3, 0), (3, 0)].set 1 (2, n)).set 2 (2, (n + 1))).set 3 (2, (n + 2))).set 4 (2, (n + 3))))) hk
  generalize hs8 : S7.set k (10, 0, (((([(0, 0), (3, 0), (3, 0), (3, 0), (3, 0), (0, 0), (3, 0), (3, 0), (3, 0), (3, 0), (0, 0), (3, 0), (3, 0)].set 1 (2, n)).set 2 (2, (n + 1))).set 3 (2, (n + 2))).set 4 (2, (n + 3)))) = S8 at hk hg ⊢
  refine w_aload_n X dX4_init_32 rfl rfl rfl ?_
  refine w_bipush X dX4_init_33 rfl cb_6 ?_
  refine w_newaJ X dX4_init_35 rfl wd_96 (by decide) (N := 6) (by decide) (by decide) hg.2.2.1 hg.1 (by omega) (w_rl ⟨Or.inl (by omega), trivial⟩ ⟨Or.inl (by omega), trivial⟩) ⟨Nat.le_of_ble_eq_true rfl, Nat.le_of_ble_eq_true rfl⟩ (fun ad5 ha5 X => ?_)
  have ha : ∀ q, (q < n ∨ 99999 ≤ q) → ad5 q = ad q := fun q hq => (ha5 q (by omega)).trans (ha q hq)
  have hk := w_apk (x := (3, 6, [])) hk
  have hg := wG_app (t := 3) (N := 6) (fs := []) hg (by simp)
  generalize hs9 : S8 ++ [(3, 6, [])] = S9 at hk hg ⊢
  refine w_putR X dX4_init_37 rfl (ci := 4) (C := RX4) (T := TX4) (N := 13) (ty0 := tyX4) (ty := tyX4 6) (j := 6) rfl wcl_4 tyX4_ok nmX4 (by decide) wd_114 rfl hin rfl (by decide +kernel) (fun _ => rfl) (fun _ => rfl) hk (Nat.le_of_ble_eq_true rfl) ?_
  have hg := wG_set (j := 6) (r := (n + 4)) hg hk (by omega) (Or.inl rfl)
  have hk := w_stk (x := (10, 0, ((((([(0, 0), (3, 0), (3, 0), (3, 0), (3, 0), (0, 0), (3, 0), (3, 0), (3, 0), (3, 0), (0, 0), (3, 0), (3, 0)].set 1 (2, n)).set 2 (2, (n + 1))).set 3 (2, (n + 2))).set 4 (2, (n + 3))).set 6 (2, (n + 4))))) hk
  generalize hs10 : S9.set k (10, 0, ((((([(0, 0), (3, 0), (3, 0), (3, 0), (3, 0), (0, 0), (3, 0), (3, 0), (3, 0), (3, 0), (0, 0), (3, 0), (3, 0)].set 1 (2, n)).set 2 (2, (n + 1))).set 3 (2, (n + 2))).set 4 (2, (n + 3))).set 6 (2, (n + 4)))) = S10 at hk hg ⊢
  refine w_aload_n X dX4_init_40 rfl rfl rfl ?_
  refine w_bipush X dX4_init_41 rfl cb_6 ?_
  refine w_newaI X dX4_init_43 rfl wd_97 (by decide) (N := 6) (by decide) (by decide) hg.2.2.1 hg.1 (by omega) (w_rl ⟨Or.inl (by omega), trivial⟩ ⟨Or.inl (by omega), trivial⟩) ⟨Nat.le_of_ble_eq_true rfl, Nat.le_of_ble_eq_true rfl⟩ (fun ad6 ha6 X => ?_)
  have ha : ∀ q, (q < n ∨ 99999 ≤ q) → ad6 q = ad q := fun q hq => (ha6 q (by omega)).trans (ha q hq)
  have hk := w_apk (x := (0, 6, [])) hk
  have hg := wG_app (t := 0) (N := 6) (fs := []) hg (by simp)
  generalize hs11 : S10 ++ [(0, 6, [])] = S11 at hk hg ⊢
  refine w_putR X dX4_init_45 rfl (ci := 4) (C := RX4) (T := TX4) (N := 13) (ty0 := tyX4) (ty := tyX4 7) (j := 7) rfl wcl_4 tyX4_ok nmX4 (by decide) wd_115 rfl hin rfl (by decide +kernel) (fun _ => rfl) (fun _ => rfl) hk (Nat.le_of_ble_eq_true rfl) ?_
  have hg := wG_set (j := 7) (r := (n + 5)) hg hk (by omega) (Or.inl rfl)
  have hk := w_stk (x := (10, 0, (((((([(0, 0), (3, 0), (3, 0), (3, 0), (3, 0), (0, 0), (3, 0), (3, 0), (3, 0), (3, 0), (0, 0), (3, 0), (3, 0)].set 1 (2, n)).set 2 (2, (n + 1))).set 3 (2, (n + 2))).set 4 (2, (n + 3))).set 6 (2, (n + 4))).set 7 (2, (n + 5))))) hk
  generalize hs12 : S11.set k (10, 0, (((((([(0, 0), (3, 0), (3, 0), (3, 0), (3, 0), (0, 0), (3, 0), (3, 0), (3, 0), (3, 0), (0, 0), (3, 0), (3, 0)].set 1 (2, n)).set 2 (2, (n + 1))).set 3 (2, (n + 2))).set 4 (2, (n + 3))).set 6 (2, (n + 4))).set 7 (2, (n + 5)))) = S12 at hk hg ⊢
  refine w_aload_n X dX4_init_48 rfl rfl rfl ?_
  refine w_bipush X dX4_init_49 rfl cb_6 ?_
  refine w_newaI X dX4_init_51 rfl wd_97 (by decide) (N := 6) (by decide) (by decide) hg.2.2.1 hg.1 (by omega) (w_rl ⟨Or.inl (by omega), trivial⟩ ⟨Or.inl (by omega), trivial⟩) ⟨Nat.le_of_ble_eq_true rfl, Nat.le_of_ble_eq_true rfl⟩ (fun ad7 ha7 X => ?_)
  have ha : ∀ q, (q < n ∨ 99999 ≤ q) → ad7 q = ad q := fun q hq => (ha7 q (by omega)).trans (ha q hq)
  have hk := w_apk (x := (0, 6, [])) hk
  have hg := wG_app (t := 0) (N := 6) (fs := []) hg (by simp)
  generalize hs13 : S12 ++ [(0, 6, [])] = S13 at hk hg ⊢
  refine w_putR X dX4_init_53 rfl (ci := 4) (C := RX4) (T := TX4) (N := 13) (ty0 := tyX4) (ty := tyX4 8) (j := 8) rfl wcl_4 tyX4_ok nmX4 (by decide) wd_118 rfl hin rfl (by decide +kernel) (fun _ => rfl) (fun _ => rfl) hk (Nat.le_of_ble_eq_true rfl) ?_
  have hg := wG_set (j := 8) (r := (n + 6)) hg hk (by omega) (Or.inl rfl)
  have hk := w_stk (x := (10, 0, ((((((([(0, 0), (3, 0), (3, 0), (3, 0), (3, 0), (0, 0), (3, 0), (3, 0), (3, 0), (3, 0), (0, 0), (3, 0), (3, 0)].set 1 (2, n)).set 2 (2, (n + 1))).set 3 (2, (n + 2))).set 4 (2, (n + 3))).set 6 (2, (n + 4))).set 7 (2, (n + 5))).set 8 (2, (n + 6))))) hk
  generalize hs14 : S13.set k (10, 0, ((((((([(0, 0), (3, 0), (3, 0), (3, 0), (3, 0), (0, 0), (3, 0), (3, 0), (3, 0), (3, 0), (0, 0), (3, 0), (3, 0)].set 1 (2, n)).set 2 (2, (n + 1))).set 3 (2, (n + 2))).set 4 (2, (n + 3))).set 6 (2, (n + 4))).set 7 (2, (n + 5))).set 8 (2, (n + 6)))) = S14 at hk hg ⊢
  refine w_aload_n X dX4_init_56 rfl rfl rfl ?_
  refine w_bipush X dX4_init_57 rfl cb_6 ?_
  refine w_newaI X dX4_init_59 rfl wd_97 (by decide) (N := 6) (by decide) (by decide) hg.2.2.1 hg.1 (by omega) (w_rl ⟨Or.inl (by omega), trivial⟩ ⟨Or.inl (by omega), trivial⟩) ⟨Nat.le_of_ble_eq_true rfl, Nat.le_of_ble_eq_true rfl⟩ (fun ad8 ha8 X => ?_)
  have ha : ∀ q, (q < n ∨ 99999 ≤ q) → ad8 q = ad q := fun q hq => (ha8 q (by omega)).trans (ha q hq)
  have hk := w_apk (x := (0, 6, [])) hk
  have hg := wG_app (t := 0) (N := 6) (fs := []) hg (by simp)
  generalize hs15 : S14 ++ [(0, 6, [])] = S15 at hk hg ⊢
  refine w_putR X dX4_init_61 rfl (ci := 4) (C := RX4) (T := TX4) (N := 13) (ty0 := tyX4) (ty := tyX4 9) (j := 9) rfl wcl_4 tyX4_ok nmX4 (by decide) wd_121 rfl hin rfl (by decide +kernel) (fun _ => rfl) (fun _ => rfl) hk (Nat.le_of_ble_eq_true rfl) ?_
  have hg := wG_set (j := 9) (r := (n + 7)) hg hk (by omega) (Or.inl rfl)
  have hk := w_stk (x := (10, 0, (((((((([(0, 0), (3, 0), (3, 0), (3, 0), (3, 0), (0, 0), (3, 0), (3, 0), (3, 0), (3, 0), (0, 0), (3, 0), (3, 0)].set 1 (2, n)).set 2 (2, (n + 1))).set 3 (2, (n + 2))).set 4 (2, (n + 3))).set 6 (2, (n + 4))).set 7 (2, (n + 5))).set 8 (2, (n + 6))).set 9 (2, (n + 7))))) hk
  generalize hs16 : S15.set k (10, 0, (((((((([(0, 0), (3, 0), (3, 0), (3, 0), (3, 0), (0, 0), (3, 0), (3, 0), (3, 0), (3, 0), (0, 0), (3, 0), (3, 0)].set 1 (2, n)).set 2 (2, (n + 1))).set 3 (2, (n + 2))).set 4 (2, (n + 3))).set 6 (2, (n + 4))).set 7 (2, (n + 5))).set 8 (2, (n + 6))).set 9 (2, (n + 7)))) = S16 at hk hg ⊢
  refine w_aload_n X dX4_init_64 rfl rfl rfl ?_
  refine w_bipush X dX4_init_65 rfl cb_12 ?_
  refine w_newaI X dX4_init_67 rfl wd_97 (by decide) (N := 12) (by decide) (by decide) hg.2.2.1 hg.1 (by omega) (w_rl ⟨Or.inl (by omega), trivial⟩ ⟨Or.inl (by omega), trivial⟩) ⟨Nat.le_of_ble_eq_true rfl, Nat.le_of_ble_eq_true rfl⟩ (fun ad9 ha9 X => ?_)
  have ha : ∀ q, (q < n ∨ 99999 ≤ q) → ad9 q = ad q := fun q hq => (ha9 q (by omega)).trans (ha q hq)
  have hk := w_apk (x := (0, 12, [])) hk
  have hg := wG_app (t := 0) (N := 12) (fs := []) hg (by simp)
  generalize hs17 : S16 ++ [(0, 12, [])] = S17 at hk hg ⊢
  refine w_putR X dX4_init_69 rfl (ci := 4) (C := RX4) (T := TX4) (N := 13) (ty0 := tyX4) (ty := tyX4 11) (j := 11) rfl wcl_4 tyX4_ok nmX4 (by decide) wd_127 rfl hin rfl (by decide +kernel) (fun _ => rfl) (fun _ => rfl) hk (Nat.le_of_ble_eq_true rfl) ?_
  have hg := wG_set (j := 11) (r := (n + 8)) hg hk (by omega) (Or.inl rfl)
  have hk := w_stk (x := (10, 0, ((((((((([(0, 0), (3, 0), (3, 0), (3, 0), (3, 0), (0, 0), (3, 0), (3, 0), (3, 0), (3, 0), (0, 0), (3, 0), (3, 0)].set 1 (2, n)).set 2 (2, (n + 1))).set 3 (2, (n + 2))).set 4 (2, (n + 3))).set 6 (2, (n + 4))).set 7 (2, (n + 5))).set 8 (2, (n + 6))).set 9 (2, (n + 7))).set 11 (2, (n + 8))))) hk
  generalize hs18 : S17.set k (10, 0, ((((((((([(0, 0), (3, 0), (3, 0), (3, 0), (3, 0), (0, 0), (3, 0), (3, 0), (3, 0), (3, 0), (0, 0), (3, 0), (3, 0)].set 1 (2, n)).set 2 (2, (n + 1))).set 3 (2, (n + 2))).set 4 (2, (n + 3))).set 6 (2, (n + 4))).set 7 (2, (n + 5))).set 8 (2, (n + 6))).set 9 (2, (n + 7))).set 11 (2, (n + 8)))) = S18 at hk hg ⊢
  refine w_aload_n X dX4_init_72 rfl rfl rfl ?_
  refine w_newo X (ci := 2) (N := 4) (C := RX2) (T := TX2) (ty := tyX2) (fs := [(3, 0), (0, 0), (0, 0), (3, 0)]) dX4_init_73 rfl rfl wcl_2 tyX2_ok wd_77 wd_78 wd_4 (by decide) (by decide) hg.2.2.1 hg.1 (by omega) (w_rl ⟨Or.inl (by omega), trivial⟩ ⟨Or.inl (by omega), trivial⟩) ⟨Nat.le_of_ble_eq_true rfl, Nat.le_of_ble_eq_true rfl⟩ (fun ad10 ha10 X => ?_)
  have ha : ∀ q, (q < n ∨ 99999 ≤ q) → ad10 q = ad q := fun q hq => (ha10 q (by omega)).trans (ha q hq)
  have hnew := w_apn (x := (8, 0, [(3, 0), (0, 0), (0, 0), (3, 0)])) hg.1
  have hk := w_apk (x := (8, 0, [(3, 0), (0, 0), (0, 0), (3, 0)])) hk
  have hg := wG_app (t := 8) (N := 0) (fs := [(3, 0), (0, 0), (0, 0), (3, 0)]) hg (by decide)
  generalize hs19 : S18 ++ [(8, 0, [(3, 0), (0, 0), (0, 0), (3, 0)])] = S19 at hk hg hnew ⊢
  refine w_dup X dX4_init_76 rfl rfl ?_
  refine w_callI X dX4_init_77 rfl il_X4_42 (iX2 l hg.1 hg.2.2.1 hnew (by omega) ) (As := []) (st := [.ref (n + 9), .ref k]) rfl rfl (w_rl ⟨Or.inl (by omega), trivial⟩ ⟨Or.inl (by omega), Or.inl (by omega), trivial⟩) (Nat.le_of_ble_eq_true rfl) ⟨Nat.le_of_ble_eq_true rfl, Nat.le_of_ble_eq_true rfl⟩ ⟨Nat.le_of_ble_eq_true rfl, Nat.le_of_ble_eq_true rfl⟩ (fun ad11 ha11 X => ?_)
  have ha : ∀ q, (q < n ∨ 99999 ≤ q) → ad11 q = ad q := fun q hq => (ha11 q (by omega)).trans (ha q hq)
  have hg2 := gX2 hg.1 hg.2.2.1 hnew 
  have hk := (hg2.2.2.2 k (by omega) (by omega)).trans hk
  have hnew := qX2 hg.1 hg.2.2.1 hnew 
  have hg := wG_call hg hg2 (by omega)
  generalize hs20 : sX2 S19 (n + 10) (n + 9) = S20 at hk hg hnew ⊢
  refine w_putR X dX4_init_80 rfl (ci := 4) (C := RX4) (T := TX4) (N := 13) (ty0 := tyX4) (ty := tyX4 12) (j := 12) rfl wcl_4 tyX4_ok nmX4 (by decide) wd_128 rfl hin rfl (by decide +kernel) (fun _ => rfl) (fun _ => rfl) hk (Nat.le_of_ble_eq_true rfl) ?_
  have hg := wG_set (j := 12) (r := (n + 9)) hg hk (by omega) (Or.inl rfl)
  have hk := w_stk (x := (10, 0, (((((((((([(0, 0), (3, 0), (3, 0), (3, 0), (3, 0), (0, 0), (3, 0), (3, 0), (3, 0), (3, 0), (0, 0), (3, 0), (3, 0)].set 1 (2, n)).set 2 (2, (n + 1))).set 3 (2, (n + 2))).set 4 (2, (n + 3))).set 6 (2, (n + 4))).set 7 (2, (n + 5))).set 8 (2, (n + 6))).set 9 (2, (n + 7))).set 11 (2, (n + 8))).set 12 (2, (n + 9))))) hk
  have hnew := w_sto (k2 := k) (x := (10, 0, (((((((((([(0, 0), (3, 0), (3, 0), (3, 0), (3, 0), (0, 0), (3, 0), (3, 0), (3, 0), (3, 0), (0, 0), (3, 0), (3, 0)].set 1 (2, n)).set 2 (2, (n + 1))).set 3 (2, (n + 2))).set 4 (2, (n + 3))).set 6 (2, (n + 4))).set 7 (2, (n + 5))).set 8 (2, (n + 6))).set 9 (2, (n + 7))).set 11 (2, (n + 8))).set 12 (2, (n + 9))))) (by omega) hnew
  generalize hs21 : S20.set k (10, 0, (((((((((([(0, 0), (3, 0), (3, 0), (3, 0), (3, 0), (0, 0), (3, 0), (3, 0), (3, 0), (3, 0), (0, 0), (3, 0), (3, 0)].set 1 (2, n)).set 2 (2, (n + 1))).set 3 (2, (n + 2))).set 4 (2, (n + 3))).set 6 (2, (n + 4))).set 7 (2, (n + 5))).set 8 (2, (n + 6))).set 9 (2, (n + 7))).set 11 (2, (n + 8))).set 12 (2, (n + 9)))) = S21 at hk hg hnew ⊢
  subst hs1
  subst hs2
  subst hs3
  subst hs4
  subst hs5
  subst hs6
  subst hs7
  subst hs8
  subst hs9
  subst hs10
  subst hs11
  subst hs12
  subst hs13
  subst hs14
  subst hs15
  subst hs16
  subst hs17
  subst hs18
  subst hs19
  subst hs20
  subst hs21
  exact w_vretI X dX4_init_83 hr ha (Nat.le_of_ble_eq_true rfl) (Nat.le_of_ble_eq_true rfl)
def sX0 (S : List wSh) (n k : Nat) (t : Nat) : List wSh := ((sX6 (((sX5 (((sX9 (S ++ [(15, 0, [(0, 0), (3, 0)])]) (n + 1) n ).set k (6, 0, ([(0, 0), (3, 0), (3, 0), (3, 0)].set 2 (2, n)))) ++ [(11, 0, [(0, 0), (3, 0), (3, 0), (3, 0), (3, 0)])]) (n + 3) (n + 2) ).set k (6, 0, (([(0, 0), (3, 0), (3, 0), (3, 0)].set 2 (2, n)).set 3 (2, (n + 2))))) ++ [(12, 0, [(3, 0), (0, 0), (3, 0), (3, 0), (3, 0), (3, 0)])]) (n + 8) (n + 7) t).set k (6, 0, ((([(0, 0), (3, 0), (3, 0), (3, 0)].set 2 (2, n)).set 3 (2, (n + 2))).set 1 (2, (n + 7)))))
set_option maxRecDepth 20000 in
set_option maxHeartbeats 4000000 in
theorem gqX0 {S : List wSh} {n k t : Nat} (hn : S.length = n) (hw : wWf S) (hk : S[k]? = some (6, 0, [(0, 0), (3, 0), (3, 0), (3, 0)])) (ht : t < n) : wG S (sX0 S n k t) n (n + 12) k ∧ (sX0 S n k t)[k]? = some (6, 0, ((([(0, 0), (3, 0), (3, 0), (3, 0)].set 2 (2, n)).set 3 (2, (n + 2))).set 1 (2, (n + 7)))) := by
  have hkl : k < n := by rw [← hn]; exact (List.getElem?_eq_some_iff.mp hk).1
  have hg : wG S S n n k := wG_rf hn hw
  have hnew := w_apn (x := (15, 0, [(0, 0), (3, 0)])) hg.1
  have hk := w_apk (x := (15, 0, [(0, 0), (3, 0)])) hk
  have hg := wG_app (t := 15) (N := 0) (fs := [(0, 0), (3, 0)]) hg (by decide)
  generalize hs1 : S ++ [(15, 0, [(0, 0), (3, 0)])] = S1 at hk hg hnew
  have hg2 := gX9 hg.1 hg.2.2.1 hnew 
  have hk := (hg2.2.2.2 k (by omega) (by omega)).trans hk
  have hnew := qX9 hg.1 hg.2.2.1 hnew 
  have hg := wG_call hg hg2 (by omega)
  generalize hs2 : sX9 S1 (n + 1) n = S2 at hk hg hnew
  have hg := wG_set (j := 2) (r := n) hg hk (by omega) (Or.inl rfl)
  have hk := w_stk (x := (6, 0, ([(0, 0), (3, 0), (3, 0), (3, 0)].set 2 (2, n)))) hk
  have hnew := w_sto (k2 := k) (x := (6, 0, ([(0, 0), (3, 0), (3, 0), (3, 0)].set 2 (2, n)))) (by omega) hnew
  generalize hs3 : S2.set k (6, 0, ([(0, 0), (3, 0), (3, 0), (3, 0)].set 2 (2, n))) = S3 at hk hg hnew
  have hnew := w_apn (x := (11, 0, [(0, 0), (3, 0), (3, 0), (3, 0), (3, 0)])) hg.1
  have hk := w_apk (x := (11, 0, [(0, 0), (3, 0), (3, 0), (3, 0), (3, 0)])) hk
  have hg := wG_app (t := 11) (N := 0) (fs := [(0, 0), (3, 0), (3, 0), (3, 0), (3, 0)]) hg (by decide)
  generalize hs4 : S3 ++ [(11, 0, [(0, 0), (3, 0), (3, 0), (3, 0), (3, 0)])] = S4 at hk hg hnew
  have hg2 := gX5 hg.1 hg.2.2.1 hnew 
  have hk := (hg2.2.2.2 k (by omega) (by omega)).trans hk
  have hnew := qX5 hg.1 hg.2.2.1 hnew 
  have hg := wG_call hg hg2 (by omega)
  generalize hs5 : sX5 S4 (n + 3) (n + 2) = S5 at hk hg hnew
  have hg := wG_set (j := 3) (r := (n + 2)) hg hk (by omega) (Or.inl rfl)
  have hk := w_stk (x := (6, 0, (([(0, 0), (3, 0), (3, 0), (3, 0)].set 2 (2, n)).set 3 (2, (n + 2))))) hk
  have hnew := w_sto (k2 := k) (x := (6, 0, (([(0, 0), (3, 0), (3, 0), (3, 0)].set 2 (2, n)).set 3 (2, (n + 2))))) (by omega) hnew
  generalize hs6 : S5.set k (6, 0, (([(0, 0), (3, 0), (3, 0), (3, 0)].set 2 (2, n)).set 3 (2, (n + 2)))) = S6 at hk hg hnew
  have hnew := w_apn (x := (12, 0, [(3, 0), (0, 0), (3, 0), (3, 0), (3, 0), (3, 0)])) hg.1
  have hk := w_apk (x := (12, 0, [(3, 0), (0, 0), (3, 0), (3, 0), (3, 0), (3, 0)])) hk
  have hg := wG_app (t := 12) (N := 0) (fs := [(3, 0), (0, 0), (3, 0), (3, 0), (3, 0), (3, 0)]) hg (by decide)
  generalize hs7 : S6 ++ [(12, 0, [(3, 0), (0, 0), (3, 0), (3, 0), (3, 0), (3, 0)])] = S7 at hk hg hnew
  have hg2 := gX6 hg.1 hg.2.2.1 hnew (by omega)
  have hk := (hg2.2.2.2 k (by omega) (by omega)).trans hk
  have hnew := qX6 hg.1 hg.2.2.1 hnew (by omega)
  have hg := wG_call hg hg2 (by omega)
  generalize hs8 : sX6 S7 (n + 8) (n + 7) t = S8 at hk hg hnew
  have hg := wG_set (j := 1) (r := (n + 7)) hg hk (by omega) (Or.inl rfl)
  have hk := w_stk (x := (6, 0, ((([(0, 0), (3, 0), (3, 0), (3, 0)].set 2 (2, n)).set 3 (2, (n + 2))).set 1 (2, (n + 7))))) hk
  have hnew := w_sto (k2 := k) (x := (6, 0, ((([(0, 0), (3, 0), (3, 0), (3, 0)].set 2 (2, n)).set 3 (2, (n + 2))).set 1 (2, (n + 7))))) (by omega) hnew
  generalize hs9 : S8.set k (6, 0, ((([(0, 0), (3, 0), (3, 0), (3, 0)].set 2 (2, n)).set 3 (2, (n + 2))).set 1 (2, (n + 7)))) = S9 at hk hg hnew
  subst hs1
  subst hs2
  subst hs3
  subst hs4
  subst hs5
  subst hs6
  subst hs7
  subst hs8
  subst hs9
  exact ⟨hg, hk⟩
theorem gX0 {S : List wSh} {n k t : Nat} (hn : S.length = n) (hw : wWf S) (hk : S[k]? = some (6, 0, [(0, 0), (3, 0), (3, 0), (3, 0)])) (ht : t < n) : wG S (sX0 S n k t) n (n + 12) k := (gqX0 hn hw hk ht).1
theorem qX0 {S : List wSh} {n k t : Nat} (hn : S.length = n) (hw : wWf S) (hk : S[k]? = some (6, 0, [(0, 0), (3, 0), (3, 0), (3, 0)])) (ht : t < n) : (sX0 S n k t)[k]? = some (6, 0, ((([(0, 0), (3, 0), (3, 0), (3, 0)].set 2 (2, n)).set 3 (2, (n + 2))).set 1 (2, (n + 7)))) := (gqX0 hn hw hk ht).2
set_option maxRecDepth 20000 in
set_option maxHeartbeats 8000000 in
theorem iX0 (l : Launch) {S : List wSh} {n k t : Nat} (hn : S.length = n) (hw : wWf S) (hk : S[k]? = some (6, 0, [(0, 0), (3, 0), (3, 0), (3, 0)])) (hn9 : n < 90000) (ht : t < n) : wCi l yX0_init cX0_init 2 2 12 127 S n [.ref k, .ref t] (sX0 S n k t) := by
  have hkl : k < n := by rw [← hn]; exact (List.getElem?_eq_some_iff.mp hk).1
  refine w_methI 0 (by decide) (Nat.le_of_ble_eq_true rfl) (ls := [some (.ref k), some (.ref t)]) rfl ?_
  intro p e s m args below meth c D dA b0 ad X hr hin
  have hg : wG S S n n k := wG_rf hn hw
  have ha : ∀ q, (q < n ∨ 99999 ≤ q) → ad q = ad q := fun _ _ => rfl
  refine w_aload_n X dX0_init_0 rfl rfl rfl ?_
  refine w_obj X dX0_init_1 rfl wd_290 wd_31 wd_32 (Nat.le_of_ble_eq_true rfl) (Nat.le_of_ble_eq_true rfl) ?_
  refine w_aload_n X dX0_init_4 rfl rfl rfl ?_
  refine w_newo X (ci := 9) (N := 2) (C := RX9) (T := TX9) (ty := tyX9) (fs := [(0, 0), (3, 0)]) dX0_init_5 rfl rfl wcl_9 tyX9_ok wd_291 wd_187 wd_6 (by decide) (by decide) hg.2.2.1 hg.1 (by omega) (w_rl ⟨Or.inl (by omega), Or.inl (by omega), trivial⟩ ⟨Or.inl (by omega), trivial⟩) ⟨Nat.le_of_ble_eq_true rfl, Nat.le_of_ble_eq_true rfl⟩ (fun ad1 ha1 X => ?_)
  have ha : ∀ q, (q < n ∨ 99999 ≤ q) → ad1 q = ad q := fun q hq => (ha1 q (by omega)).trans (ha q hq)
  have hnew := w_apn (x := (15, 0, [(0, 0), (3, 0)])) hg.1
  have hk := w_apk (x := (15, 0, [(0, 0), (3, 0)])) hk
  have hg := wG_app (t := 15) (N := 0) (fs := [(0, 0), (3, 0)]) hg (by decide)
  generalize hs1 : S ++ [(15, 0, [(0, 0), (3, 0)])] = S1 at hk hg hnew ⊢
  refine w_dup X dX0_init_8 rfl rfl ?_
  refine w_callI X dX0_init_9 rfl il_X0_9 (iX9 l hg.1 hg.2.2.1 hnew (by omega) ) (As := []) (st := [.ref n, .ref k]) rfl rfl (w_rl ⟨Or.inl (by omega), Or.inl (by omega), trivial⟩ ⟨Or.inl (by omega), Or.inl (by omega), trivial⟩) (Nat.le_of_ble_eq_true rfl) ⟨Nat.le_of_ble_eq_true rfl, Nat.le_of_ble_eq_true rfl⟩ ⟨Nat.le_of_ble_eq_true rfl, Nat.le_of_ble_eq_true rfl⟩ (fun ad2 ha2 X => ?_)
  have ha : ∀ q, (q < n ∨ 99999 ≤ q) → ad2 q = ad q := fun q hq => (ha2 q (by omega)).trans (ha q hq)
  have hg2 := gX9 hg.1 hg.2.2.1 hnew 
  have hk := (hg2.2.2.2 k (by omega) (by omega)).trans hk
  have hnew := qX9 hg.1 hg.2.2.1 hnew 
  have hg := wG_call hg hg2 (by omega)
  generalize hs2 : sX9 S1 (n + 1) n = S2 at hk hg hnew ⊢
  refine w_putR X dX0_init_12 rfl (ci := 0) (C := RX0) (T := TX0) (N := 4) (ty0 := tyX0) (ty := tyX0 2) (j := 2) rfl wcl_0 tyX0_ok nmX0 (by decide) wd_301 rfl hin rfl (by decide +kernel) (fun _ => rfl) (fun _ => rfl) hk (Nat.le_of_ble_eq_true rfl) ?_
  have hg := wG_set (j := 2) (r := n) hg hk (by omega) (Or.inl rfl)
  have hk := w_stk (x := (6, 0, ([(0, 0), (3, 0), (3, 0), (3, 0)].set 2 (2, n)))) hk
  have hnew := w_sto (k2 := k) (x := (6, 0, ([(0, 0), (3, 0), (3, 0), (3, 0)].set 2 (2, n)))) (by omega) hnew
  generalize hs3 : S2.set k (6, 0, ([(0, 0), (3, 0), (3, 0), (3, 0)].set 2 (2, n))) = S3 at hk hg hnew ⊢
  refine w_aload_n X dX0_init_15 rfl rfl rfl ?_
  refine w_newo X (ci := 5) (N := 5) (C := RX5) (T := TX5) (ty := tyX5) (fs := [(0, 0), (3, 0), (3, 0), (3, 0), (3, 0)]) dX0_init_16 rfl rfl wcl_5 tyX5_ok wd_293 wd_202 wd_7 (by decide) (by decide) hg.2.2.1 hg.1 (by omega) (w_rl ⟨Or.inl (by omega), Or.inl (by omega), trivial⟩ ⟨Or.inl (by omega), trivial⟩) ⟨Nat.le_of_ble_eq_true rfl, Nat.le_of_ble_eq_true rfl⟩ (fun ad3 ha3 X => ?_)
  have ha : ∀ q, (q < n ∨ 99999 ≤ q) → ad3 q = ad q := fun q hq => (ha3 q (by omega)).trans (ha q hq)
  have hnew := w_apn (x := (11, 0, [(0, 0), (3, 0), (3, 0), (3, 0), (3, 0)])) hg.1
  have hk := w_apk (x := (11, 0, [(0, 0), (3, 0), (3, 0), (3, 0), (3, 0)])) hk
  have hg := wG_app (t := 11) (N := 0) (fs := [(0, 0), (3, 0), (3, 0), (3, 0), (3, 0)]) hg (by decide)
  generalize hs4 : S3 ++ [(11, 0, [(0, 0), (3, 0), (3, 0), (3, 0), (3, 0)])] = S4 at hk hg hnew ⊢
  refine w_dup X dX0_init_19 rfl rfl ?_
  refine w_callI X dX0_init_20 rfl il_X0_18 (iX5 l hg.1 hg.2.2.1 hnew (by omega) ) (As := []) (st := [.ref (n + 2), .ref k]) rfl rfl (w_rl ⟨Or.inl (by omega), Or.inl (by omega), trivial⟩ ⟨Or.inl (by omega), Or.inl (by omega), trivial⟩) (Nat.le_of_ble_eq_true rfl) ⟨Nat.le_of_ble_eq_true rfl, Nat.le_of_ble_eq_true rfl⟩ ⟨Nat.le_of_ble_eq_true rfl, Nat.le_of_ble_eq_true rfl⟩ (fun ad4 ha4 X => ?_)
  have ha : ∀ q, (q < n ∨ 99999 ≤ q) → ad4 q = ad q := fun q hq => (ha4 q (by omega)).trans (ha q hq)
  have hg2 := gX5 hg.1 hg.2.2.1 hnew 
  have hk := (hg2.2.2.2 k (by omega) (by omega)).trans hk
  have hnew := qX5 hg.1 hg.2.2.1 hnew 
  have hg := wG_call hg hg2 (by omega)
  generalize hs5 : sX5 S4 (n + 3) (n + 2) = S5 at hk hg hnew ⊢
  refine w_putR X dX0_init_23 rfl (ci := 0) (C := RX0) (T := TX0) (N := 4) (ty0 := tyX0) (ty := tyX0 3) (j := 3) rfl wcl_0 tyX0_ok nmX0 (by decide) wd_303 rfl hin rfl (by decide +kernel) (fun _ => rfl) (fun _ => rfl) hk (Nat.le_of_ble_eq_true rfl) ?_
  have hg := wG_set (j := 3) (r := (n + 2)) hg hk (by omega) (Or.inl rfl)
  have hk := w_stk (x := (6, 0, (([(0, 0), (3, 0), (3, 0), (3, 0)].set 2 (2, n)).set 3 (2, (n + 2))))) hk
  have hnew := w_sto (k2 := k) (x := (6, 0, (([(0, 0), (3, 0), (3, 0), (3, 0)].set 2 (2, n)).set 3 (2, (n + 2))))) (by omega) hnew
  generalize hs6 : S5.set k (6, 0, (([(0, 0), (3, 0), (3, 0), (3, 0)].set 2 (2, n)).set 3 (2, (n + 2)))) = S6 at hk hg hnew ⊢
  refine w_aload_n X dX0_init_26 rfl rfl rfl ?_
  refine w_newo X (ci := 6) (N := 6) (C := RX6) (T := TX6) (ty := tyX6) (fs := [(3, 0), (0, 0), (3, 0), (3, 0), (3, 0), (3, 0)]) dX0_init_27 rfl rfl wcl_6 tyX6_ok wd_295 wd_157 wd_5 (by decide) (by decide) hg.2.2.1 hg.1 (by omega) (w_rl ⟨Or.inl (by omega), Or.inl (by omega), trivial⟩ ⟨Or.inl (by omega), trivial⟩) ⟨Nat.le_of_ble_eq_true rfl, Nat.le_of_ble_eq_true rfl⟩ (fun ad5 ha5 X => ?_)
  have ha : ∀ q, (q < n ∨ 99999 ≤ q) → ad5 q = ad q := fun q hq => (ha5 q (by omega)).trans (ha q hq)
  have hnew := w_apn (x := (12, 0, [(3, 0), (0, 0), (3, 0), (3, 0), (3, 0), (3, 0)])) hg.1
  have hk := w_apk (x := (12, 0, [(3, 0), (0, 0), (3, 0), (3, 0), (3, 0), (3, 0)])) hk
  have hg := wG_app (t := 12) (N := 0) (fs := [(3, 0), (0, 0), (3, 0), (3, 0), (3, 0), (3, 0)]) hg (by decide)
  generalize hs7 : S6 ++ [(12, 0, [(3, 0), (0, 0), (3, 0), (3, 0), (3, 0), (3, 0)])] = S7 at hk hg hnew ⊢
  refine w_dup X dX0_init_30 rfl rfl ?_
  refine w_aload_n X dX0_init_31 rfl rfl rfl ?_
  refine w_callI X dX0_init_32 rfl il_X0_25 (iX6 l hg.1 hg.2.2.1 hnew (by omega) (by omega)) (As := [.ref t]) (st := [.ref (n + 7), .ref k]) rfl rfl (w_rl ⟨Or.inl (by omega), Or.inl (by omega), trivial⟩ ⟨Or.inl (by omega), Or.inl (by omega), trivial⟩) (Nat.le_of_ble_eq_true rfl) ⟨Nat.le_of_ble_eq_true rfl, Nat.le_of_ble_eq_true rfl⟩ ⟨Nat.le_of_ble_eq_true rfl, Nat.le_of_ble_eq_true rfl⟩ (fun ad6 ha6 X => ?_)
  have ha : ∀ q, (q < n ∨ 99999 ≤ q) → ad6 q = ad q := fun q hq => (ha6 q (by omega)).trans (ha q hq)
  have hg2 := gX6 hg.1 hg.2.2.1 hnew (by omega)
  have hk := (hg2.2.2.2 k (by omega) (by omega)).trans hk
  have hnew := qX6 hg.1 hg.2.2.1 hnew (by omega)
  have hg := wG_call hg hg2 (by omega)
  generalize hs8 : sX6 S7 (n + 8) (n + 7) t = S8 at hk hg hnew ⊢
  refine w_putR X dX0_init_35 rfl (ci := 0) (C := RX0) (T := TX0) (N := 4) (ty0 := tyX0) (ty := tyX0 1) (j := 1) rfl wcl_0 tyX0_ok nmX0 (by decide) wd_299 rfl hin rfl (by decide +kernel) (fun _ => rfl) (fun _ => rfl) hk (Nat.le_of_ble_eq_true rfl) ?_
  have hg := wG_set (j := 1) (r := (n + 7)) hg hk (by omega) (Or.inl rfl)
  have hk := w_stk (x := (6, 0, ((([(0, 0), (3, 0), (3, 0), (3, 0)].set 2 (2, n)).set 3 (2, (n + 2))).set 1 (2, (n + 7))))) hk
  have hnew := w_sto (k2 := k) (x := (6, 0, ((([(0, 0), (3, 0), (3, 0), (3, 0)].set 2 (2, n)).set 3 (2, (n + 2))).set 1 (2, (n + 7))))) (by omega) hnew
  generalize hs9 : S8.set k (6, 0, ((([(0, 0), (3, 0), (3, 0), (3, 0)].set 2 (2, n)).set 3 (2, (n + 2))).set 1 (2, (n + 7)))) = S9 at hk hg hnew ⊢
  subst hs1
  subst hs2
  subst hs3
  subst hs4
  subst hs5
  subst hs6
  subst hs7
  subst hs8
  subst hs9
  exact w_vretI X dX0_init_38 hr ha (Nat.le_of_ble_eq_true rfl) (Nat.le_of_ble_eq_true rfl)

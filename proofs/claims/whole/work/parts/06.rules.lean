/-! THE JUDGEMENT: from a state of numbers the machine comes to Q. -/
def wTy (dA : Nat → ClassId) : List (ClassId × FieldType) := [(dA 0, .int), (dA 1, .byte), (dA 2, .boolean), (dA 3, .long), (dA 4, .object "WornSkin$Bookmark"), (dA 5, .object "WornSkin$Shelf")]
def wA (b0 : Nat) : Nat → Prop := fun q => b0 ≤ q
/-- the texts of the class: each once -/
def wSx : List String := ["()<=+-*;", "skin", "lines", "thick", "hole", "text", "damp", "shows", "write", "scrape", "third", "week", "gall", "soot", "charter", "psalm", "recipe", "oath", "not", "and", "or", "wet", "deep", "bite", "thin"]
def wSl : List Nat := wSx.map (fun t => t.length)
def wSb : List (List Int32) := wSx.map (fun t => t.toList.map (fun c => nI c.toNat))
/-- where each stands in the pools: class, entry, text, its number -/
def wSk : List (String × Nat × String × Nat) := [("WornSkin$Tape", 38, "()<=+-*;", 0), ("WornSkin$Library", 82, "skin", 1), ("WornSkin$Tape", 62, "skin", 1), ("WornSkin$Tape", 68, "lines", 2), ("WornSkin$Tape", 70, "thick", 3), ("WornSkin$Tape", 72, "hole", 4), ("WornSkin$Tape", 74, "text", 5), ("WornSkin$Tape", 76, "damp", 6), ("WornSkin$Tape", 78, "shows", 7), ("WornSkin$Tape", 80, "write", 8), ("WornSkin$Tape", 82, "scrape", 9), ("WornSkin$Tape", 84, "third", 10), ("WornSkin$Tape", 86, "week", 11), ("WornSkin$Tape", 88, "gall", 12), ("WornSkin$Tape", 90, "soot", 13), ("WornSkin$Tape", 92, "charter", 14), ("WornSkin$Tape", 94, "psalm", 15), ("WornSkin$Tape", 96, "recipe", 16), ("WornSkin$Tape", 98, "oath", 17), ("WornSkin$Tape", 100, "not", 18), ("WornSkin$Tape", 102, "and", 19), ("WornSkin$Tape", 104, "or", 20), ("WornSkin$Library", 125, "lines", 2), ("WornSkin$Library", 134, "thick", 3), ("WornSkin$Library", 92, "hole", 4), ("WornSkin$Library", 97, "text", 5), ("WornSkin$Library", 156, "psalm", 15), ("WornSkin$Library", 158, "recipe", 16), ("WornSkin$Library", 160, "oath", 17), ("WornSkin$Library", 162, "charter", 14), ("WornSkin$Library", 164, "gall", 12), ("WornSkin$Library", 166, "soot", 13), ("WornSkin$Library", 102, "damp", 6), ("WornSkin$Library", 106, "shows", 7), ("WornSkin$Law", 86, "wet", 21), ("WornSkin$Law", 88, "deep", 22), ("WornSkin$Law", 90, "bite", 23), ("WornSkin$Law", 92, "thin", 24), ("WornSkin$Law", 78, "not", 18), ("WornSkin$Law", 62, "and", 19), ("WornSkin$Law", 68, "or", 20), ("WornSkin$Year", 71, "write", 8), ("WornSkin$Year", 77, "scrape", 9), ("WornSkin$Year", 79, "third", 10), ("WornSkin$Year", 81, "week", 11)]
/-- what a static of references holds: null, or what lies at ad 300000 -/
def wsv (ad : Nat → Nat) : Value := if ad 300001 = 0 then .null else .ref 300000
/-- calls of private constructors of nest mates: class, entry, method, host -/
def wNk : List (String × Nat × MethodName × String) := [("WornSkin", 11, ⟨"WornSkin$Tape", "<init>", "()V"⟩, "WornSkin"), ("WornSkin", 18, ⟨"WornSkin$Library", "<init>", "()V"⟩, "WornSkin"), ("WornSkin$Library", 42, ⟨"WornSkin$Law", "<init>", "()V"⟩, "WornSkin"), ("WornSkin", 40, ⟨"WornSkin$Year", "<init>", "()V"⟩, "WornSkin"), ("WornSkin", 50, ⟨"WornSkin$Seen", "<init>", "()V"⟩, "WornSkin"), ("WornSkin", 71, ⟨"WornSkin$Draws", "<init>", "()V"⟩, "WornSkin"), ("WornSkin$Bookmark", 9, ⟨"WornSkin$Year", "<init>", "()V"⟩, "WornSkin"), ("WornSkin$Bookmark", 18, ⟨"WornSkin$Seen", "<init>", "()V"⟩, "WornSkin")]
def wNw (s : State) : Prop := (∀ q ∈ wNk, va_Nw (.methodLinkNest q.1 q.2.1 q.2.2.1 q.2.2.2) s) ∧ va_AO "WornSkin$Bookmark" s ∧ va_AO "WornSkin$Shelf" s
def wStr (ad : Nat → Nat) (b0 : Nat) (s : State) : Prop := vk_S 25 wSl wSb (fun i => ad (100000 + i)) (fun i => ad (200000 + i)) (wA b0) s s.heap ∧ (∀ q ∈ wSk, vk_R q.1 q.2.1 q.2.2.1 (ad (100000 + q.2.2.2)) s) ∧ va_Z "java/lang/String" "COMPACT_STRINGS" "Z" (.int 1) (wA b0) s s.heap ∧ va_Z "jdk/internal/util/Preconditions" "SIOOBE_FORMATTER" "Ljava/util/function/BiFunction;" (wv ad (wsv ad)) (wA b0) s s.heap ∧ wNw s
def wCx (p : Program) (s : State) (m : MethodId) (args : Array Value) (meth : Method) (c : Code) (own : String) (cc : ByteArray) (nL : Nat) (D : va_G) (dA : Nat → ClassId) (b0 : Nat) (ad : Nat → Nat) : Prop :=
  p.tables.exec = Jvm.exec ∧ c.code = cc ∧ c.maxLocals = nL ∧ s.vm.findClass own = some m.cls ∧ (∀ w ∈ wT0, w.before args s = true) ∧ va_K D vwCl (wTy dA) s ∧ b0 ≤ s.heap.size ∧ meth.locks = false ∧ wStr ad b0 s
def wM (p : Program) (l : Launch) (e : Env) (R : Room) (s : State) (m : MethodId) (args : Array Value) (below : List Frame) (meth : Method) (c : Code) (ck cn : Nat) (Q : State → Prop) (nL : Nat) (D : va_G) (dA : Nat → ClassId) (b0 : Nat) (ad : Nat → Nat) (S : List wSh) (pc : Nat) (ls : List (Option Value)) (st : List Value) (h : wSt) : Prop :=
  ∀ (H : Heap) (locs : List Loc) (arr : Array Slot), va_P D vwCl (wW ad dA S h) H → va_D (wA b0) (wW ad dA S h) → va_S (wA b0) s.heap H locs → wL ad nL ls arr → W p l e R s m args below meth c H locs ck cn Q (F0 m pc arr (st.map (wv ad)))
section WR
variable {p : Program} {l : Launch} {e : Env} {R : Room} {s : State} {m : MethodId} {args : Array Value} {below : List Frame} {meth : Method} {c : Code} {ck cn : Nat} {Q : State → Prop} {own : String} {cc : ByteArray} {nL : Nat} {D : va_G} {dA : Nat → ClassId} {b0 : Nat} {ad : Nat → Nat} {S : List wSh} {pc q : Nat} {ls : List (Option Value)} {st : List Value} {h : wSt}
theorem w_iconst (X : wCx p s m args meth c own cc nL D dA b0 ad) {n : Int} {v : Int32} (hd : decode cc pc = .ok (.iconst n, 1)) (hp : pc + 1 = q) (hv : Int32.ofInt n = v) (k : wM p l e R s m args below meth c ck cn Q nL D dA b0 ad S q ls (.int v :: st) h) : wM p l e R s m args below meth c ck cn Q nL D dA b0 ad S pc ls st h := by
  subst hp
  exact fun H locs arr hP hD hS hL => lv_iconst X.1 X.2.1 hd hv (k H locs arr hP hD hS hL)
theorem w_bipush (X : wCx p s m args meth c own cc nL D dA b0 ad) {n : Int} {v : Int32} (hd : decode cc pc = .ok (.bipush n, 2)) (hp : pc + 2 = q) (hv : (Int8.ofInt n).toInt32 = v) (k : wM p l e R s m args below meth c ck cn Q nL D dA b0 ad S q ls (.int v :: st) h) : wM p l e R s m args below meth c ck cn Q nL D dA b0 ad S pc ls st h := by
  subst hp
  exact fun H locs arr hP hD hS hL => lv_bipush X.1 X.2.1 hd hv (k H locs arr hP hD hS hL)
theorem w_sipush (X : wCx p s m args meth c own cc nL D dA b0 ad) {n : Int} {v : Int32} (hd : decode cc pc = .ok (.sipush n, 3)) (hp : pc + 3 = q) (hv : (Int16.ofInt n).toInt32 = v) (k : wM p l e R s m args below meth c ck cn Q nL D dA b0 ad S q ls (.int v :: st) h) : wM p l e R s m args below meth c ck cn Q nL D dA b0 ad S pc ls st h := by
  subst hp
  exact fun H locs arr hP hD hS hL => lv_sipush X.1 X.2.1 hd hv (k H locs arr hP hD hS hL)
theorem w_lconst (X : wCx p s m args meth c own cc nL D dA b0 ad) {n : Fin 2} {v : Int64} (hd : decode cc pc = .ok (.lconst n, 1)) (hp : pc + 1 = q) (hv : Int64.ofNat (n : Nat) = v) (k : wM p l e R s m args below meth c ck cn Q nL D dA b0 ad S q ls (.long v :: st) h) : wM p l e R s m args below meth c ck cn Q nL D dA b0 ad S pc ls st h := by
  subst hp
  exact fun H locs arr hP hD hS hL => lv_lconst X.1 X.2.1 hd hv (k H locs arr hP hD hS hL)
theorem w_ldc (X : wCx p s m args meth c own cc nL D dA b0 ad) {i : Nat} {v : Int32} (hd : decode cc pc = .ok (.ldc i, 2)) (hp : pc + 2 = q) (hc : Cond.constant own i v ∈ wT0) (k : wM p l e R s m args below meth c ck cn Q nL D dA b0 ad S q ls (.int v :: st) h) : wM p l e R s m args below meth c ck cn Q nL D dA b0 ad S pc ls st h := by
  subst hp
  exact fun H locs arr hP hD hS hL => lv_ldc X.1 X.2.1 X.2.2.2.1 (X.2.2.2.2.1 _ hc) hd (k H locs arr hP hD hS hL)
theorem w_ldcw (X : wCx p s m args meth c own cc nL D dA b0 ad) {i : Nat} {v : Int32} (hd : decode cc pc = .ok (.ldc_w i, 3)) (hp : pc + 3 = q) (hc : Cond.constant own i v ∈ wT0) (k : wM p l e R s m args below meth c ck cn Q nL D dA b0 ad S q ls (.int v :: st) h) : wM p l e R s m args below meth c ck cn Q nL D dA b0 ad S pc ls st h := by
  subst hp
  exact fun H locs arr hP hD hS hL => lv_ldcw X.1 X.2.1 X.2.2.2.1 (X.2.2.2.2.1 _ hc) hd (k H locs arr hP hD hS hL)
theorem w_ldc2 (X : wCx p s m args meth c own cc nL D dA b0 ad) {i : Nat} {v : Int64} (hd : decode cc pc = .ok (.ldc2_w i, 3)) (hp : pc + 3 = q) (hc : Cond.constantLong own i v ∈ wT0) (k : wM p l e R s m args below meth c ck cn Q nL D dA b0 ad S q ls (.long v :: st) h) : wM p l e R s m args below meth c ck cn Q nL D dA b0 ad S pc ls st h := by
  subst hp
  exact fun H locs arr hP hD hS hL => lv_ldc2 X.1 X.2.1 X.2.2.2.1 (X.2.2.2.2.1 _ hc) hd (k H locs arr hP hD hS hL)
theorem w_iload_n (X : wCx p s m args meth c own cc nL D dA b0 ad) {k0 : Fin 4} {i : Nat} {x : Int32} (hd : decode cc pc = .ok (.iload_n k0, 1)) (hp : pc + 1 = q) (hi : (k0 : Nat) = i) (hl : ls[i]? = some (some (.int x))) (k : wM p l e R s m args below meth c ck cn Q nL D dA b0 ad S q ls (.int x :: st) h) : wM p l e R s m args below meth c ck cn Q nL D dA b0 ad S pc ls st h := by
  subst hp
  exact fun H locs arr hP hD hS hL => lv_iload_n X.1 X.2.1 hd hi (hL.2.2 i _ hl) (k H locs arr hP hD hS hL)
theorem w_iload (X : wCx p s m args meth c own cc nL D dA b0 ad) {i : Nat} {x : Int32} (hd : decode cc pc = .ok (.iload i, 2)) (hp : pc + 2 = q) (hl : ls[i]? = some (some (.int x))) (k : wM p l e R s m args below meth c ck cn Q nL D dA b0 ad S q ls (.int x :: st) h) : wM p l e R s m args below meth c ck cn Q nL D dA b0 ad S pc ls st h := by
  subst hp
  exact fun H locs arr hP hD hS hL => lv_iload X.1 X.2.1 hd (hL.2.2 i _ hl) (k H locs arr hP hD hS hL)
theorem w_istore_n (X : wCx p s m args meth c own cc nL D dA b0 ad) {k0 : Fin 4} {i : Nat} {x : Int32} {ls' : List (Option Value)} (hd : decode cc pc = .ok (.istore_n k0, 1)) (hp : pc + 1 = q) (hi : (k0 : Nat) = i) (hk : wok1 ls i = true) (hn : i < nL) (hq : (ls.set i (some (.int x))) = ls') (k : wM p l e R s m args below meth c ck cn Q nL D dA b0 ad S q ls' st h) : wM p l e R s m args below meth c ck cn Q nL D dA b0 ad S pc ls (.int x :: st) h := by
  subst hp
  exact fun H locs arr hP hD hS hL => lv_istore_n X.1 X.2.1 hd hi (wL_has hL) hn rfl (fun arr2 hl2 => k H locs arr2 hP hD hS (by rw [← hq]; exact wL_set1 hk hl2))
theorem w_istore (X : wCx p s m args meth c own cc nL D dA b0 ad) {i : Nat} {x : Int32} {ls' : List (Option Value)} (hd : decode cc pc = .ok (.istore i, 2)) (hp : pc + 2 = q) (hk : wok1 ls i = true) (hn : i < nL) (hq : (ls.set i (some (.int x))) = ls') (k : wM p l e R s m args below meth c ck cn Q nL D dA b0 ad S q ls' st h) : wM p l e R s m args below meth c ck cn Q nL D dA b0 ad S pc ls (.int x :: st) h := by
  subst hp
  exact fun H locs arr hP hD hS hL => lv_istore X.1 X.2.1 hd (wL_has hL) hn rfl (fun arr2 hl2 => k H locs arr2 hP hD hS (by rw [← hq]; exact wL_set1 hk hl2))
theorem w_lload_n (X : wCx p s m args meth c own cc nL D dA b0 ad) {k0 : Fin 4} {i : Nat} {x : Int64} (hd : decode cc pc = .ok (.lload_n k0, 1)) (hp : pc + 1 = q) (hi : (k0 : Nat) = i) (hl : ls[i]? = some (some (.long x))) (k : wM p l e R s m args below meth c ck cn Q nL D dA b0 ad S q ls (.long x :: st) h) : wM p l e R s m args below meth c ck cn Q nL D dA b0 ad S pc ls st h := by
  subst hp
  exact fun H locs arr hP hD hS hL => lv_lload_n X.1 X.2.1 hd hi (hL.2.2 i _ hl) (k H locs arr hP hD hS hL)
theorem w_lload (X : wCx p s m args meth c own cc nL D dA b0 ad) {i : Nat} {x : Int64} (hd : decode cc pc = .ok (.lload i, 2)) (hp : pc + 2 = q) (hl : ls[i]? = some (some (.long x))) (k : wM p l e R s m args below meth c ck cn Q nL D dA b0 ad S q ls (.long x :: st) h) : wM p l e R s m args below meth c ck cn Q nL D dA b0 ad S pc ls st h := by
  subst hp
  exact fun H locs arr hP hD hS hL => lv_lload X.1 X.2.1 hd (hL.2.2 i _ hl) (k H locs arr hP hD hS hL)
theorem w_lstore_n (X : wCx p s m args meth c own cc nL D dA b0 ad) {k0 : Fin 4} {i : Nat} {x : Int64} {ls' : List (Option Value)} (hd : decode cc pc = .ok (.lstore_n k0, 1)) (hp : pc + 1 = q) (hi : (k0 : Nat) = i) (hk : wok1 ls i = true) (hn : i + 1 < nL) (hq : ((ls.set i (some (.long x))).set (i + 1) none) = ls') (k : wM p l e R s m args below meth c ck cn Q nL D dA b0 ad S q ls' st h) : wM p l e R s m args below meth c ck cn Q nL D dA b0 ad S pc ls (.long x :: st) h := by
  subst hp
  exact fun H locs arr hP hD hS hL => lv_lstore_n X.1 X.2.1 hd hi (wL_has hL) hn rfl (fun arr2 hl2 => k H locs arr2 hP hD hS (by rw [← hq]; exact wL_set2 hk hl2))
theorem w_lstore (X : wCx p s m args meth c own cc nL D dA b0 ad) {i : Nat} {x : Int64} {ls' : List (Option Value)} (hd : decode cc pc = .ok (.lstore i, 2)) (hp : pc + 2 = q) (hk : wok1 ls i = true) (hn : i + 1 < nL) (hq : ((ls.set i (some (.long x))).set (i + 1) none) = ls') (k : wM p l e R s m args below meth c ck cn Q nL D dA b0 ad S q ls' st h) : wM p l e R s m args below meth c ck cn Q nL D dA b0 ad S pc ls (.long x :: st) h := by
  subst hp
  exact fun H locs arr hP hD hS hL => lv_lstore X.1 X.2.1 hd (wL_has hL) hn rfl (fun arr2 hl2 => k H locs arr2 hP hD hS (by rw [← hq]; exact wL_set2 hk hl2))
theorem w_aload_n (X : wCx p s m args meth c own cc nL D dA b0 ad) {k0 : Fin 4} {i : Nat} {x : Nat} (hd : decode cc pc = .ok (.aload_n k0, 1)) (hp : pc + 1 = q) (hi : (k0 : Nat) = i) (hl : ls[i]? = some (some (.ref x))) (k : wM p l e R s m args below meth c ck cn Q nL D dA b0 ad S q ls (.ref x :: st) h) : wM p l e R s m args below meth c ck cn Q nL D dA b0 ad S pc ls st h := by
  subst hp
  exact fun H locs arr hP hD hS hL => lv_aload_n X.1 X.2.1 hd hi (hL.2.2 i _ hl) (k H locs arr hP hD hS hL)
theorem w_aload (X : wCx p s m args meth c own cc nL D dA b0 ad) {i : Nat} {x : Nat} (hd : decode cc pc = .ok (.aload i, 2)) (hp : pc + 2 = q) (hl : ls[i]? = some (some (.ref x))) (k : wM p l e R s m args below meth c ck cn Q nL D dA b0 ad S q ls (.ref x :: st) h) : wM p l e R s m args below meth c ck cn Q nL D dA b0 ad S pc ls st h := by
  subst hp
  exact fun H locs arr hP hD hS hL => lv_aload X.1 X.2.1 hd (hL.2.2 i _ hl) (k H locs arr hP hD hS hL)
theorem w_astore_n (X : wCx p s m args meth c own cc nL D dA b0 ad) {k0 : Fin 4} {i : Nat} {x : Nat} {ls' : List (Option Value)} (hd : decode cc pc = .ok (.astore_n k0, 1)) (hp : pc + 1 = q) (hi : (k0 : Nat) = i) (hk : wok1 ls i = true) (hn : i < nL) (hq : (ls.set i (some (.ref x))) = ls') (k : wM p l e R s m args below meth c ck cn Q nL D dA b0 ad S q ls' st h) : wM p l e R s m args below meth c ck cn Q nL D dA b0 ad S pc ls (.ref x :: st) h := by
  subst hp
  exact fun H locs arr hP hD hS hL => lv_astore_n X.1 X.2.1 hd hi (wL_has hL) hn rfl (fun arr2 hl2 => k H locs arr2 hP hD hS (by rw [← hq]; exact wL_set1 hk hl2))
theorem w_astore (X : wCx p s m args meth c own cc nL D dA b0 ad) {i : Nat} {x : Nat} {ls' : List (Option Value)} (hd : decode cc pc = .ok (.astore i, 2)) (hp : pc + 2 = q) (hk : wok1 ls i = true) (hn : i < nL) (hq : (ls.set i (some (.ref x))) = ls') (k : wM p l e R s m args below meth c ck cn Q nL D dA b0 ad S q ls' st h) : wM p l e R s m args below meth c ck cn Q nL D dA b0 ad S pc ls (.ref x :: st) h := by
  subst hp
  exact fun H locs arr hP hD hS hL => lv_astore X.1 X.2.1 hd (wL_has hL) hn rfl (fun arr2 hl2 => k H locs arr2 hP hD hS (by rw [← hq]; exact wL_set1 hk hl2))
theorem w_iinc (X : wCx p s m args meth c own cc nL D dA b0 ad) {i : Nat} {n : Int} {x v : Int32} {ls' : List (Option Value)} (hd : decode cc pc = .ok (.iinc i n, 3)) (hp : pc + 3 = q) (hl : ls[i]? = some (some (.int x))) (hk : wok1 ls i = true) (hn : i < nL) (hv : x + Int32.ofInt n = v) (hq : ls.set i (some (.int v)) = ls') (k : wM p l e R s m args below meth c ck cn Q nL D dA b0 ad S q ls' st h) : wM p l e R s m args below meth c ck cn Q nL D dA b0 ad S pc ls st h := by
  subst hp
  intro H locs arr hP hD hS hL
  obtain ⟨j, hj⟩ := List.getElem?_of_mem (wl_mem.mpr ⟨_, hl, rfl⟩)
  exact lv_iinc X.1 X.2.1 hd (wL_has hL) (k := j) hj hv hn rfl (fun arr2 hl2 => k H locs arr2 hP hD hS (by rw [← hq]; exact wL_set1 (x := .int v) hk hl2))
theorem w_iadd (X : wCx p s m args meth c own cc nL D dA b0 ad) {x y : Int32} (hd : decode cc pc = .ok (.iadd, 1)) (hp : pc + 1 = q) (k : wM p l e R s m args below meth c ck cn Q nL D dA b0 ad S q ls (.int (x + y) :: st) h) : wM p l e R s m args below meth c ck cn Q nL D dA b0 ad S pc ls (.int y :: .int x :: st) h := by
  subst hp
  exact fun H locs arr hP hD hS hL => lv_iadd X.1 X.2.1 hd (k H locs arr hP hD hS hL)
theorem w_isub (X : wCx p s m args meth c own cc nL D dA b0 ad) {x y : Int32} (hd : decode cc pc = .ok (.isub, 1)) (hp : pc + 1 = q) (k : wM p l e R s m args below meth c ck cn Q nL D dA b0 ad S q ls (.int (x - y) :: st) h) : wM p l e R s m args below meth c ck cn Q nL D dA b0 ad S pc ls (.int y :: .int x :: st) h := by
  subst hp
  exact fun H locs arr hP hD hS hL => lv_isub X.1 X.2.1 hd (k H locs arr hP hD hS hL)
theorem w_imul (X : wCx p s m args meth c own cc nL D dA b0 ad) {x y : Int32} (hd : decode cc pc = .ok (.imul, 1)) (hp : pc + 1 = q) (k : wM p l e R s m args below meth c ck cn Q nL D dA b0 ad S q ls (.int (x * y) :: st) h) : wM p l e R s m args below meth c ck cn Q nL D dA b0 ad S pc ls (.int y :: .int x :: st) h := by
  subst hp
  exact fun H locs arr hP hD hS hL => lv_imul X.1 X.2.1 hd (k H locs arr hP hD hS hL)
theorem w_iand (X : wCx p s m args meth c own cc nL D dA b0 ad) {x y : Int32} (hd : decode cc pc = .ok (.iand, 1)) (hp : pc + 1 = q) (k : wM p l e R s m args below meth c ck cn Q nL D dA b0 ad S q ls (.int (x &&& y) :: st) h) : wM p l e R s m args below meth c ck cn Q nL D dA b0 ad S pc ls (.int y :: .int x :: st) h := by
  subst hp
  exact fun H locs arr hP hD hS hL => lv_iand X.1 X.2.1 hd (k H locs arr hP hD hS hL)
theorem w_ior (X : wCx p s m args meth c own cc nL D dA b0 ad) {x y : Int32} (hd : decode cc pc = .ok (.ior, 1)) (hp : pc + 1 = q) (k : wM p l e R s m args below meth c ck cn Q nL D dA b0 ad S q ls (.int (x ||| y) :: st) h) : wM p l e R s m args below meth c ck cn Q nL D dA b0 ad S pc ls (.int y :: .int x :: st) h := by
  subst hp
  exact fun H locs arr hP hD hS hL => lv_ior X.1 X.2.1 hd (k H locs arr hP hD hS hL)
theorem w_ixor (X : wCx p s m args meth c own cc nL D dA b0 ad) {x y : Int32} (hd : decode cc pc = .ok (.ixor, 1)) (hp : pc + 1 = q) (k : wM p l e R s m args below meth c ck cn Q nL D dA b0 ad S q ls (.int (x ^^^ y) :: st) h) : wM p l e R s m args below meth c ck cn Q nL D dA b0 ad S pc ls (.int y :: .int x :: st) h := by
  subst hp
  exact fun H locs arr hP hD hS hL => lv_ixor X.1 X.2.1 hd (k H locs arr hP hD hS hL)
theorem w_ishl (X : wCx p s m args meth c own cc nL D dA b0 ad) {x y : Int32} (hd : decode cc pc = .ok (.ishl, 1)) (hp : pc + 1 = q) (k : wM p l e R s m args below meth c ck cn Q nL D dA b0 ad S q ls (.int (x <<< (y &&& 31)) :: st) h) : wM p l e R s m args below meth c ck cn Q nL D dA b0 ad S pc ls (.int y :: .int x :: st) h := by
  subst hp
  exact fun H locs arr hP hD hS hL => lv_ishl X.1 X.2.1 hd (k H locs arr hP hD hS hL)
theorem w_ishr (X : wCx p s m args meth c own cc nL D dA b0 ad) {x y : Int32} (hd : decode cc pc = .ok (.ishr, 1)) (hp : pc + 1 = q) (k : wM p l e R s m args below meth c ck cn Q nL D dA b0 ad S q ls (.int (x >>> (y &&& 31)) :: st) h) : wM p l e R s m args below meth c ck cn Q nL D dA b0 ad S pc ls (.int y :: .int x :: st) h := by
  subst hp
  exact fun H locs arr hP hD hS hL => lv_ishr X.1 X.2.1 hd (k H locs arr hP hD hS hL)
theorem w_iushr (X : wCx p s m args meth c own cc nL D dA b0 ad) {x y : Int32} (hd : decode cc pc = .ok (.iushr, 1)) (hp : pc + 1 = q) (k : wM p l e R s m args below meth c ck cn Q nL D dA b0 ad S q ls (.int (x.toUInt32 >>> (y.toUInt32 &&& Int32.toUInt32 31)).toInt32 :: st) h) : wM p l e R s m args below meth c ck cn Q nL D dA b0 ad S pc ls (.int y :: .int x :: st) h := by
  subst hp
  exact fun H locs arr hP hD hS hL => lv_iushr X.1 X.2.1 hd rfl (k H locs arr hP hD hS hL)
theorem w_idiv (X : wCx p s m args meth c own cc nL D dA b0 ad) {x y : Int32} (hd : decode cc pc = .ok (.idiv, 1)) (hp : pc + 1 = q) (hne : ¬ y = 0) (k : wM p l e R s m args below meth c ck cn Q nL D dA b0 ad S q ls (.int (x / y) :: st) h) : wM p l e R s m args below meth c ck cn Q nL D dA b0 ad S pc ls (.int y :: .int x :: st) h := by
  subst hp
  exact fun H locs arr hP hD hS hL => lv_idiv X.1 X.2.1 hd hne (k H locs arr hP hD hS hL)
theorem w_irem (X : wCx p s m args meth c own cc nL D dA b0 ad) {x y : Int32} (hd : decode cc pc = .ok (.irem, 1)) (hp : pc + 1 = q) (hne : ¬ y = 0) (k : wM p l e R s m args below meth c ck cn Q nL D dA b0 ad S q ls (.int (x - x / y * y) :: st) h) : wM p l e R s m args below meth c ck cn Q nL D dA b0 ad S pc ls (.int y :: .int x :: st) h := by
  subst hp
  exact fun H locs arr hP hD hS hL => lv_irem X.1 X.2.1 hd hne (k H locs arr hP hD hS hL)
theorem w_ineg (X : wCx p s m args meth c own cc nL D dA b0 ad) {x : Int32} (hd : decode cc pc = .ok (.ineg, 1)) (hp : pc + 1 = q) (k : wM p l e R s m args below meth c ck cn Q nL D dA b0 ad S q ls (.int (-x) :: st) h) : wM p l e R s m args below meth c ck cn Q nL D dA b0 ad S pc ls (.int x :: st) h := by
  subst hp
  exact fun H locs arr hP hD hS hL => lv_ineg X.1 X.2.1 hd (k H locs arr hP hD hS hL)
theorem w_ladd (X : wCx p s m args meth c own cc nL D dA b0 ad) {x y : Int64} (hd : decode cc pc = .ok (.ladd, 1)) (hp : pc + 1 = q) (k : wM p l e R s m args below meth c ck cn Q nL D dA b0 ad S q ls (.long (x + y) :: st) h) : wM p l e R s m args below meth c ck cn Q nL D dA b0 ad S pc ls (.long y :: .long x :: st) h := by
  subst hp
  exact fun H locs arr hP hD hS hL => lv_ladd X.1 X.2.1 hd (k H locs arr hP hD hS hL)
theorem w_lsub (X : wCx p s m args meth c own cc nL D dA b0 ad) {x y : Int64} (hd : decode cc pc = .ok (.lsub, 1)) (hp : pc + 1 = q) (k : wM p l e R s m args below meth c ck cn Q nL D dA b0 ad S q ls (.long (x - y) :: st) h) : wM p l e R s m args below meth c ck cn Q nL D dA b0 ad S pc ls (.long y :: .long x :: st) h := by
  subst hp
  exact fun H locs arr hP hD hS hL => lv_lsub X.1 X.2.1 hd (k H locs arr hP hD hS hL)
theorem w_lmul (X : wCx p s m args meth c own cc nL D dA b0 ad) {x y : Int64} (hd : decode cc pc = .ok (.lmul, 1)) (hp : pc + 1 = q) (k : wM p l e R s m args below meth c ck cn Q nL D dA b0 ad S q ls (.long (x * y) :: st) h) : wM p l e R s m args below meth c ck cn Q nL D dA b0 ad S pc ls (.long y :: .long x :: st) h := by
  subst hp
  exact fun H locs arr hP hD hS hL => lv_lmul X.1 X.2.1 hd (k H locs arr hP hD hS hL)
theorem w_land (X : wCx p s m args meth c own cc nL D dA b0 ad) {x y : Int64} (hd : decode cc pc = .ok (.land, 1)) (hp : pc + 1 = q) (k : wM p l e R s m args below meth c ck cn Q nL D dA b0 ad S q ls (.long (x &&& y) :: st) h) : wM p l e R s m args below meth c ck cn Q nL D dA b0 ad S pc ls (.long y :: .long x :: st) h := by
  subst hp
  exact fun H locs arr hP hD hS hL => lv_land X.1 X.2.1 hd (k H locs arr hP hD hS hL)
theorem w_lor (X : wCx p s m args meth c own cc nL D dA b0 ad) {x y : Int64} (hd : decode cc pc = .ok (.lor, 1)) (hp : pc + 1 = q) (k : wM p l e R s m args below meth c ck cn Q nL D dA b0 ad S q ls (.long (x ||| y) :: st) h) : wM p l e R s m args below meth c ck cn Q nL D dA b0 ad S pc ls (.long y :: .long x :: st) h := by
  subst hp
  exact fun H locs arr hP hD hS hL => lv_lor X.1 X.2.1 hd (k H locs arr hP hD hS hL)
theorem w_ldiv (X : wCx p s m args meth c own cc nL D dA b0 ad) {x y : Int64} (hd : decode cc pc = .ok (.ldiv, 1)) (hp : pc + 1 = q) (hne : ¬ y = 0) (k : wM p l e R s m args below meth c ck cn Q nL D dA b0 ad S q ls (.long (x / y) :: st) h) : wM p l e R s m args below meth c ck cn Q nL D dA b0 ad S pc ls (.long y :: .long x :: st) h := by
  subst hp
  exact fun H locs arr hP hD hS hL => lv_ldiv X.1 X.2.1 hd hne (k H locs arr hP hD hS hL)
theorem w_lrem (X : wCx p s m args meth c own cc nL D dA b0 ad) {x y : Int64} (hd : decode cc pc = .ok (.lrem, 1)) (hp : pc + 1 = q) (hne : ¬ y = 0) (k : wM p l e R s m args below meth c ck cn Q nL D dA b0 ad S q ls (.long (x - x / y * y) :: st) h) : wM p l e R s m args below meth c ck cn Q nL D dA b0 ad S pc ls (.long y :: .long x :: st) h := by
  subst hp
  exact fun H locs arr hP hD hS hL => lv_lrem X.1 X.2.1 hd hne (k H locs arr hP hD hS hL)
theorem w_lshl (X : wCx p s m args meth c own cc nL D dA b0 ad) {x : Int64} {y : Int32} (hd : decode cc pc = .ok (.lshl, 1)) (hp : pc + 1 = q) (k : wM p l e R s m args below meth c ck cn Q nL D dA b0 ad S q ls (.long (x <<< (y.toInt64 &&& 63)) :: st) h) : wM p l e R s m args below meth c ck cn Q nL D dA b0 ad S pc ls (.int y :: .long x :: st) h := by
  subst hp
  exact fun H locs arr hP hD hS hL => lv_lshl X.1 X.2.1 hd rfl (k H locs arr hP hD hS hL)
theorem w_lushr (X : wCx p s m args meth c own cc nL D dA b0 ad) {x : Int64} {y : Int32} (hd : decode cc pc = .ok (.lushr, 1)) (hp : pc + 1 = q) (k : wM p l e R s m args below meth c ck cn Q nL D dA b0 ad S q ls (.long (x.toUInt64 >>> (y.toInt64.toUInt64 &&& Int64.toUInt64 63)).toInt64 :: st) h) : wM p l e R s m args below meth c ck cn Q nL D dA b0 ad S pc ls (.int y :: .long x :: st) h := by
  subst hp
  exact fun H locs arr hP hD hS hL => lv_lushr X.1 X.2.1 hd rfl (k H locs arr hP hD hS hL)
theorem w_i2l (X : wCx p s m args meth c own cc nL D dA b0 ad) {x : Int32} (hd : decode cc pc = .ok (.i2l, 1)) (hp : pc + 1 = q) (k : wM p l e R s m args below meth c ck cn Q nL D dA b0 ad S q ls (.long x.toInt64 :: st) h) : wM p l e R s m args below meth c ck cn Q nL D dA b0 ad S pc ls (.int x :: st) h := by
  subst hp
  exact fun H locs arr hP hD hS hL => lv_i2l X.1 X.2.1 hd rfl (k H locs arr hP hD hS hL)
theorem w_l2i (X : wCx p s m args meth c own cc nL D dA b0 ad) {x : Int64} (hd : decode cc pc = .ok (.l2i, 1)) (hp : pc + 1 = q) (k : wM p l e R s m args below meth c ck cn Q nL D dA b0 ad S q ls (.int x.toInt32 :: st) h) : wM p l e R s m args below meth c ck cn Q nL D dA b0 ad S pc ls (.long x :: st) h := by
  subst hp
  exact fun H locs arr hP hD hS hL => lv_l2i X.1 X.2.1 hd rfl (k H locs arr hP hD hS hL)
theorem w_i2b (X : wCx p s m args meth c own cc nL D dA b0 ad) {x : Int32} (hd : decode cc pc = .ok (.i2b, 1)) (hp : pc + 1 = q) (k : wM p l e R s m args below meth c ck cn Q nL D dA b0 ad S q ls (.int x.toInt8.toInt32 :: st) h) : wM p l e R s m args below meth c ck cn Q nL D dA b0 ad S pc ls (.int x :: st) h := by
  subst hp
  exact fun H locs arr hP hD hS hL => lv_i2b X.1 X.2.1 hd rfl (k H locs arr hP hD hS hL)
theorem w_i2c (X : wCx p s m args meth c own cc nL D dA b0 ad) {x : Int32} (hd : decode cc pc = .ok (.i2c, 1)) (hp : pc + 1 = q) (k : wM p l e R s m args below meth c ck cn Q nL D dA b0 ad S q ls (.int (x.toUInt32 % 65536).toInt32 :: st) h) : wM p l e R s m args below meth c ck cn Q nL D dA b0 ad S pc ls (.int x :: st) h := by
  subst hp
  exact fun H locs arr hP hD hS hL => lv_i2c X.1 X.2.1 hd rfl (k H locs arr hP hD hS hL)
theorem w_lcmp (X : wCx p s m args meth c own cc nL D dA b0 ad) {x y : Int64} (hd : decode cc pc = .ok (.lcmp, 1)) (hp : pc + 1 = q) (k : wM p l e R s m args below meth c ck cn Q nL D dA b0 ad S q ls (.int (lg_cmp x y) :: st) h) : wM p l e R s m args below meth c ck cn Q nL D dA b0 ad S pc ls (.long y :: .long x :: st) h := by
  subst hp
  exact fun H locs arr hP hD hS hL => W.lcmp X.1 X.2.1 hd (k H locs arr hP hD hS hL)
theorem w_dup (X : wCx p s m args meth c own cc nL D dA b0 ad) {v : Value} (hd : decode cc pc = .ok (.dup, 1)) (hp : pc + 1 = q) (hv : v.category = 1) (k : wM p l e R s m args below meth c ck cn Q nL D dA b0 ad S q ls (v :: v :: st) h) : wM p l e R s m args below meth c ck cn Q nL D dA b0 ad S pc ls (v :: st) h := by
  subst hp
  exact fun H locs arr hP hD hS hL => lv_dup X.1 X.2.1 hd (by rw [wv_cat]; exact hv) (k H locs arr hP hD hS hL)
theorem w_pop (X : wCx p s m args meth c own cc nL D dA b0 ad) {v : Value} (hd : decode cc pc = .ok (.pop, 1)) (hp : pc + 1 = q) (hv : v.category = 1) (k : wM p l e R s m args below meth c ck cn Q nL D dA b0 ad S q ls st h) : wM p l e R s m args below meth c ck cn Q nL D dA b0 ad S pc ls (v :: st) h := by
  subst hp
  exact fun H locs arr hP hD hS hL => lv_pop X.1 X.2.1 hd (by rw [wv_cat]; exact hv) (k H locs arr hP hD hS hL)
theorem w_dup2 (X : wCx p s m args meth c own cc nL D dA b0 ad) {v w : Value} (hd : decode cc pc = .ok (.dup2, 1)) (hp : pc + 1 = q) (hv : v.category = 1) (hw : w.category = 1) (k : wM p l e R s m args below meth c ck cn Q nL D dA b0 ad S q ls (v :: w :: v :: w :: st) h) : wM p l e R s m args below meth c ck cn Q nL D dA b0 ad S pc ls (v :: w :: st) h := by
  subst hp
  exact fun H locs arr hP hD hS hL => lv_dup2_11 X.1 X.2.1 hd (by rw [wv_cat]; exact hv) (by rw [wv_cat]; exact hw) (k H locs arr hP hD hS hL)
theorem w_if_eq (X : wCx p s m args meth c own cc nL D dA b0 ad) {x : Int32} {off : Int} {t : Nat} (hd : decode cc pc = .ok (.ifCond .eq off, 3)) (hp : pc + 3 = q) (ht : (pc : Int) + off = (t : Int)) (kt : x = 0 → wM p l e R s m args below meth c ck cn Q nL D dA b0 ad S t ls st h) (kf : ¬ x = 0 → wM p l e R s m args below meth c ck cn Q nL D dA b0 ad S q ls st h) : wM p l e R s m args below meth c ck cn Q nL D dA b0 ad S pc ls (.int x :: st) h := by
  subst hp
  exact fun H locs arr hP hD hS hL => lv_if_eq X.1 X.2.1 hd ht (fun z => kt z H locs arr hP hD hS hL) (fun z => kf z H locs arr hP hD hS hL)
theorem w_if_ne (X : wCx p s m args meth c own cc nL D dA b0 ad) {x : Int32} {off : Int} {t : Nat} (hd : decode cc pc = .ok (.ifCond .ne off, 3)) (hp : pc + 3 = q) (ht : (pc : Int) + off = (t : Int)) (kt : ¬ x = 0 → wM p l e R s m args below meth c ck cn Q nL D dA b0 ad S t ls st h) (kf : x = 0 → wM p l e R s m args below meth c ck cn Q nL D dA b0 ad S q ls st h) : wM p l e R s m args below meth c ck cn Q nL D dA b0 ad S pc ls (.int x :: st) h := by
  subst hp
  exact fun H locs arr hP hD hS hL => lv_if_ne X.1 X.2.1 hd ht (fun z => kt z H locs arr hP hD hS hL) (fun z => kf z H locs arr hP hD hS hL)
theorem w_if_lt (X : wCx p s m args meth c own cc nL D dA b0 ad) {x : Int32} {off : Int} {t : Nat} (hd : decode cc pc = .ok (.ifCond .lt off, 3)) (hp : pc + 3 = q) (ht : (pc : Int) + off = (t : Int)) (kt : x < 0 → wM p l e R s m args below meth c ck cn Q nL D dA b0 ad S t ls st h) (kf : ¬ x < 0 → wM p l e R s m args below meth c ck cn Q nL D dA b0 ad S q ls st h) : wM p l e R s m args below meth c ck cn Q nL D dA b0 ad S pc ls (.int x :: st) h := by
  subst hp
  exact fun H locs arr hP hD hS hL => lv_if_lt X.1 X.2.1 hd ht (fun z => kt z H locs arr hP hD hS hL) (fun z => kf z H locs arr hP hD hS hL)
theorem w_if_ge (X : wCx p s m args meth c own cc nL D dA b0 ad) {x : Int32} {off : Int} {t : Nat} (hd : decode cc pc = .ok (.ifCond .ge off, 3)) (hp : pc + 3 = q) (ht : (pc : Int) + off = (t : Int)) (kt : 0 ≤ x → wM p l e R s m args below meth c ck cn Q nL D dA b0 ad S t ls st h) (kf : ¬ 0 ≤ x → wM p l e R s m args below meth c ck cn Q nL D dA b0 ad S q ls st h) : wM p l e R s m args below meth c ck cn Q nL D dA b0 ad S pc ls (.int x :: st) h := by
  subst hp
  exact fun H locs arr hP hD hS hL => lv_if_ge X.1 X.2.1 hd ht (fun z => kt z H locs arr hP hD hS hL) (fun z => kf z H locs arr hP hD hS hL)
theorem w_if_gt (X : wCx p s m args meth c own cc nL D dA b0 ad) {x : Int32} {off : Int} {t : Nat} (hd : decode cc pc = .ok (.ifCond .gt off, 3)) (hp : pc + 3 = q) (ht : (pc : Int) + off = (t : Int)) (kt : 0 < x → wM p l e R s m args below meth c ck cn Q nL D dA b0 ad S t ls st h) (kf : ¬ 0 < x → wM p l e R s m args below meth c ck cn Q nL D dA b0 ad S q ls st h) : wM p l e R s m args below meth c ck cn Q nL D dA b0 ad S pc ls (.int x :: st) h := by
  subst hp
  exact fun H locs arr hP hD hS hL => lv_if_gt X.1 X.2.1 hd ht (fun z => kt z H locs arr hP hD hS hL) (fun z => kf z H locs arr hP hD hS hL)
theorem w_if_le (X : wCx p s m args meth c own cc nL D dA b0 ad) {x : Int32} {off : Int} {t : Nat} (hd : decode cc pc = .ok (.ifCond .le off, 3)) (hp : pc + 3 = q) (ht : (pc : Int) + off = (t : Int)) (kt : x ≤ 0 → wM p l e R s m args below meth c ck cn Q nL D dA b0 ad S t ls st h) (kf : ¬ x ≤ 0 → wM p l e R s m args below meth c ck cn Q nL D dA b0 ad S q ls st h) : wM p l e R s m args below meth c ck cn Q nL D dA b0 ad S pc ls (.int x :: st) h := by
  subst hp
  exact fun H locs arr hP hD hS hL => lv_if_le X.1 X.2.1 hd ht (fun z => kt z H locs arr hP hD hS hL) (fun z => kf z H locs arr hP hD hS hL)
theorem w_icmp_eq (X : wCx p s m args meth c own cc nL D dA b0 ad) {x y : Int32} {off : Int} {t : Nat} (hd : decode cc pc = .ok (.if_icmp .eq off, 3)) (hp : pc + 3 = q) (ht : (pc : Int) + off = (t : Int)) (kt : x = y → wM p l e R s m args below meth c ck cn Q nL D dA b0 ad S t ls st h) (kf : ¬ x = y → wM p l e R s m args below meth c ck cn Q nL D dA b0 ad S q ls st h) : wM p l e R s m args below meth c ck cn Q nL D dA b0 ad S pc ls (.int y :: .int x :: st) h := by
  subst hp
  exact fun H locs arr hP hD hS hL => lv_icmp_eq X.1 X.2.1 hd ht (fun z => kt z H locs arr hP hD hS hL) (fun z => kf z H locs arr hP hD hS hL)
theorem w_icmp_ne (X : wCx p s m args meth c own cc nL D dA b0 ad) {x y : Int32} {off : Int} {t : Nat} (hd : decode cc pc = .ok (.if_icmp .ne off, 3)) (hp : pc + 3 = q) (ht : (pc : Int) + off = (t : Int)) (kt : ¬ x = y → wM p l e R s m args below meth c ck cn Q nL D dA b0 ad S t ls st h) (kf : x = y → wM p l e R s m args below meth c ck cn Q nL D dA b0 ad S q ls st h) : wM p l e R s m args below meth c ck cn Q nL D dA b0 ad S pc ls (.int y :: .int x :: st) h := by
  subst hp
  exact fun H locs arr hP hD hS hL => lv_icmp_ne X.1 X.2.1 hd ht (fun z => kt z H locs arr hP hD hS hL) (fun z => kf z H locs arr hP hD hS hL)
theorem w_icmp_lt (X : wCx p s m args meth c own cc nL D dA b0 ad) {x y : Int32} {off : Int} {t : Nat} (hd : decode cc pc = .ok (.if_icmp .lt off, 3)) (hp : pc + 3 = q) (ht : (pc : Int) + off = (t : Int)) (kt : x < y → wM p l e R s m args below meth c ck cn Q nL D dA b0 ad S t ls st h) (kf : ¬ x < y → wM p l e R s m args below meth c ck cn Q nL D dA b0 ad S q ls st h) : wM p l e R s m args below meth c ck cn Q nL D dA b0 ad S pc ls (.int y :: .int x :: st) h := by
  subst hp
  exact fun H locs arr hP hD hS hL => lv_icmp_lt X.1 X.2.1 hd ht (fun z => kt z H locs arr hP hD hS hL) (fun z => kf z H locs arr hP hD hS hL)
theorem w_icmp_ge (X : wCx p s m args meth c own cc nL D dA b0 ad) {x y : Int32} {off : Int} {t : Nat} (hd : decode cc pc = .ok (.if_icmp .ge off, 3)) (hp : pc + 3 = q) (ht : (pc : Int) + off = (t : Int)) (kt : y ≤ x → wM p l e R s m args below meth c ck cn Q nL D dA b0 ad S t ls st h) (kf : ¬ y ≤ x → wM p l e R s m args below meth c ck cn Q nL D dA b0 ad S q ls st h) : wM p l e R s m args below meth c ck cn Q nL D dA b0 ad S pc ls (.int y :: .int x :: st) h := by
  subst hp
  exact fun H locs arr hP hD hS hL => lv_icmp_ge X.1 X.2.1 hd ht (fun z => kt z H locs arr hP hD hS hL) (fun z => kf z H locs arr hP hD hS hL)
theorem w_icmp_gt (X : wCx p s m args meth c own cc nL D dA b0 ad) {x y : Int32} {off : Int} {t : Nat} (hd : decode cc pc = .ok (.if_icmp .gt off, 3)) (hp : pc + 3 = q) (ht : (pc : Int) + off = (t : Int)) (kt : y < x → wM p l e R s m args below meth c ck cn Q nL D dA b0 ad S t ls st h) (kf : ¬ y < x → wM p l e R s m args below meth c ck cn Q nL D dA b0 ad S q ls st h) : wM p l e R s m args below meth c ck cn Q nL D dA b0 ad S pc ls (.int y :: .int x :: st) h := by
  subst hp
  exact fun H locs arr hP hD hS hL => lv_icmp_gt X.1 X.2.1 hd ht (fun z => kt z H locs arr hP hD hS hL) (fun z => kf z H locs arr hP hD hS hL)
theorem w_icmp_le (X : wCx p s m args meth c own cc nL D dA b0 ad) {x y : Int32} {off : Int} {t : Nat} (hd : decode cc pc = .ok (.if_icmp .le off, 3)) (hp : pc + 3 = q) (ht : (pc : Int) + off = (t : Int)) (kt : x ≤ y → wM p l e R s m args below meth c ck cn Q nL D dA b0 ad S t ls st h) (kf : ¬ x ≤ y → wM p l e R s m args below meth c ck cn Q nL D dA b0 ad S q ls st h) : wM p l e R s m args below meth c ck cn Q nL D dA b0 ad S pc ls (.int y :: .int x :: st) h := by
  subst hp
  exact fun H locs arr hP hD hS hL => lv_icmp_le X.1 X.2.1 hd ht (fun z => kt z H locs arr hP hD hS hL) (fun z => kf z H locs arr hP hD hS hL)
theorem w_lgc {x y : Int64} : lg_cmp x y = 0 ↔ x = y := by
  unfold lg_cmp
  constructor
  · intro h
    by_cases h1 : x > y
    · rw [if_pos h1] at h; exact absurd h (by decide)
    · rw [if_neg h1] at h
      by_cases h2 : x = y
      · exact h2
      · rw [if_neg h2] at h; exact absurd h (by decide)
  · intro h
    subst h
    rw [if_neg (by simp), if_pos rfl]
theorem w_lcmp_eq (X : wCx p s m args meth c own cc nL D dA b0 ad) {x y : Int64} {off : Int} {t : Nat} (hd0 : decode cc pc = .ok (.lcmp, 1)) (hd : decode cc (pc + 1) = .ok (.ifCond .eq off, 3)) (hp : pc + 4 = q) (ht : ((pc + 1 : Nat) : Int) + off = (t : Int)) (kt : x = y → wM p l e R s m args below meth c ck cn Q nL D dA b0 ad S t ls st h) (kf : ¬ x = y → wM p l e R s m args below meth c ck cn Q nL D dA b0 ad S q ls st h) : wM p l e R s m args below meth c ck cn Q nL D dA b0 ad S pc ls (.long y :: .long x :: st) h := by
  subst hp
  exact w_lcmp X hd0 rfl (w_if_eq X hd rfl ht (fun z => kt (w_lgc.mp z)) (fun z => kf ((fun q2 => z (w_lgc.mpr q2)))))
theorem w_lcmp_ne (X : wCx p s m args meth c own cc nL D dA b0 ad) {x y : Int64} {off : Int} {t : Nat} (hd0 : decode cc pc = .ok (.lcmp, 1)) (hd : decode cc (pc + 1) = .ok (.ifCond .ne off, 3)) (hp : pc + 4 = q) (ht : ((pc + 1 : Nat) : Int) + off = (t : Int)) (kt : ¬ x = y → wM p l e R s m args below meth c ck cn Q nL D dA b0 ad S t ls st h) (kf : x = y → wM p l e R s m args below meth c ck cn Q nL D dA b0 ad S q ls st h) : wM p l e R s m args below meth c ck cn Q nL D dA b0 ad S pc ls (.long y :: .long x :: st) h := by
  subst hp
  exact w_lcmp X hd0 rfl (w_if_ne X hd rfl ht (fun z => kt ((fun q2 => z (w_lgc.mpr q2)))) (fun z => kf (w_lgc.mp z)))
theorem w_goto (X : wCx p s m args meth c own cc nL D dA b0 ad) {off : Int} {t : Nat} (hd : decode cc pc = .ok (.goto off, 3)) (ht : (pc : Int) + off = (t : Int)) (k : wM p l e R s m args below meth c ck cn Q nL D dA b0 ad S t ls st h) : wM p l e R s m args below meth c ck cn Q nL D dA b0 ad S pc ls st h := fun H locs arr hP hD hS hL => lv_goto X.1 X.2.1 hd ht (k H locs arr hP hD hS hL)
theorem w_swOut (X : wCx p s m args meth c own cc nL D dA b0 ad) {x : Int32} {df lo hi : Int} {offs : Array Int} {len t : Nat} (hd : decode cc pc = .ok (.tableswitch df lo hi offs, len)) (ht : (pc : Int) + df = (t : Int)) (hx : x.toInt < lo ∨ hi < x.toInt) (k : wM p l e R s m args below meth c ck cn Q nL D dA b0 ad S t ls st h) : wM p l e R s m args below meth c ck cn Q nL D dA b0 ad S pc ls (.int x :: st) h := fun H locs arr hP hD hS hL => lv_tableOut X.1 X.2.1 hd hx ht (k H locs arr hP hD hS hL)
theorem w_swIn (X : wCx p s m args meth c own cc nL D dA b0 ad) {x : Int32} {df lo hi : Int} {offs : Array Int} {len t : Nat} {off : Int} (hd : decode cc pc = .ok (.tableswitch df lo hi offs, len)) (ht : (pc : Int) + off = (t : Int)) (h1 : ¬ x.toInt < lo) (h2 : ¬ hi < x.toInt) (ho : offs[(x.toInt - lo).toNat]? = some off) (k : wM p l e R s m args below meth c ck cn Q nL D dA b0 ad S t ls st h) : wM p l e R s m args below meth c ck cn Q nL D dA b0 ad S pc ls (.int x :: st) h := fun H locs arr hP hD hS hL => lv_tableIn X.1 X.2.1 hd h1 h2 ho ht (k H locs arr hP hD hS hL)
theorem w_topi {x : Int32} (k : ∀ y : Int32, y = x → wM p l e R s m args below meth c ck cn Q nL D dA b0 ad S pc ls (.int y :: st) h) : wM p l e R s m args below meth c ck cn Q nL D dA b0 ad S pc ls (.int x :: st) h := k x rfl
theorem w_topl {x : Int64} (k : ∀ y : Int64, y = x → wM p l e R s m args below meth c ck cn Q nL D dA b0 ad S pc ls (.long y :: st) h) : wM p l e R s m args below meth c ck cn Q nL D dA b0 ad S pc ls (.long x :: st) h := k x rfl
theorem w_nmh (k : ∀ h2 : wSt, h2 = h → wM p l e R s m args below meth c ck cn Q nL D dA b0 ad S pc ls st h2) : wM p l e R s m args below meth c ck cn Q nL D dA b0 ad S pc ls st h := k h rfl
theorem w_forget {ls' : List (Option Value)} (hf : ∀ (i : Nat) (v : Value), ls'[i]? = some (some v) → ls[i]? = some (some v)) (k : wM p l e R s m args below meth c ck cn Q nL D dA b0 ad S pc ls' st h) : wM p l e R s m args below meth c ck cn Q nL D dA b0 ad S pc ls st h := fun H locs arr hP hD hS hL => k H locs arr hP hD hS ⟨hL.1, hL.2.1, fun i v hv => hL.2.2 i v (hf i v hv)⟩
/-- a field by its entry in a class's pool: field j of the class ci -/
def wFl (own : String) (idx ci j : Nat) : Prop := ∃ (C : String) (T : u_T) (N : Nat), vwCl[ci]? = some (C, T, N) ∧ (∀ w ∈ u_ws C T N, w ∈ wT0) ∧ j < N ∧ Cond.fieldLink own idx (T j).1 (T j).2.1 (T j).2.2.1 ∈ wT0
def wFp (own : String) (idx ci j : Nat) (t : FieldType) : Prop := ∃ (C : String) (T : u_T) (N : Nat) (ty0 : Nat → FieldType), vwCl[ci]? = some (C, T, N) ∧ (∀ w ∈ u_ws C T N, w ∈ wT0) ∧ (∀ k, k < N → parseFieldDescriptor (T k).2.2.1 = some (ty0 k)) ∧ (∀ a, a < N → ∀ b, b < N → a ≠ b → (T a).2.1 ≠ (T b).2.1) ∧ j < N ∧ Cond.fieldLink own idx (T j).1 (T j).2.1 (T j).2.2.1 ∈ wT0 ∧ (T j).2.2.2 = false ∧ parseFieldDescriptor (T j).2.2.1 = some t
theorem w_getI (X : wCx p s m args meth c own cc nL D dA b0 ad) {idx ci j k0 z1 z2 : Nat} {fs : List (Nat × Nat)} (hd : decode cc pc = .ok (.getfield idx, 3)) (hp : pc + 3 = q) (hl : wFl own idx ci j) (hS0 : S[k0]? = some (ci + 6, z1, fs)) (hf : fs[j]? = some (0, z2)) (k : wM p l e R s m args below meth c ck cn Q nL D dA b0 ad S q ls (.int (h.1 k0 j) :: st) h) : wM p l e R s m args below meth c ck cn Q nL D dA b0 ad S pc ls (.ref k0 :: st) h := by
  subst hp
  intro H locs arr hP hD hS hL
  obtain ⟨C, T, N, hc, hin, hj, hlk⟩ := hl
  have he := wW_at (ad := ad) (dA := dA) (h := h) hS0
  rw [we_obj] at he
  exact va_get X.1 X.2.1 X.2.2.2.2.1 hin X.2.2.2.1 X.2.2.2.2.2.1 hP k0 he hc j hj (X.2.2.2.2.1 _ hlk) (fun _ h9 => h9) (by rw [List.getElem?_mapIdx, hf]; rfl) hd (k H locs arr hP hD hS hL)
theorem w_getJ (X : wCx p s m args meth c own cc nL D dA b0 ad) {idx ci j k0 z1 z2 : Nat} {fs : List (Nat × Nat)} (hd : decode cc pc = .ok (.getfield idx, 3)) (hp : pc + 3 = q) (hl : wFl own idx ci j) (hS0 : S[k0]? = some (ci + 6, z1, fs)) (hf : fs[j]? = some (1, z2)) (k : wM p l e R s m args below meth c ck cn Q nL D dA b0 ad S q ls (.long (h.2 k0 j) :: st) h) : wM p l e R s m args below meth c ck cn Q nL D dA b0 ad S pc ls (.ref k0 :: st) h := by
  subst hp
  intro H locs arr hP hD hS hL
  obtain ⟨C, T, N, hc, hin, hj, hlk⟩ := hl
  have he := wW_at (ad := ad) (dA := dA) (h := h) hS0
  rw [we_obj] at he
  exact va_get X.1 X.2.1 X.2.2.2.2.1 hin X.2.2.2.1 X.2.2.2.2.2.1 hP k0 he hc j hj (X.2.2.2.2.1 _ hlk) (fun _ h9 => h9) (by rw [List.getElem?_mapIdx, hf]; rfl) hd (k H locs arr hP hD hS hL)
theorem w_getR (X : wCx p s m args meth c own cc nL D dA b0 ad) {idx ci j k0 z1 z2 : Nat} {fs : List (Nat × Nat)} (hd : decode cc pc = .ok (.getfield idx, 3)) (hp : pc + 3 = q) (hl : wFl own idx ci j) (hS0 : S[k0]? = some (ci + 6, z1, fs)) (hf : fs[j]? = some (2, z2)) (k : wM p l e R s m args below meth c ck cn Q nL D dA b0 ad S q ls (.ref z2 :: st) h) : wM p l e R s m args below meth c ck cn Q nL D dA b0 ad S pc ls (.ref k0 :: st) h := by
  subst hp
  intro H locs arr hP hD hS hL
  obtain ⟨C, T, N, hc, hin, hj, hlk⟩ := hl
  have he := wW_at (ad := ad) (dA := dA) (h := h) hS0
  rw [we_obj] at he
  exact va_get X.1 X.2.1 X.2.2.2.2.1 hin X.2.2.2.1 X.2.2.2.2.2.1 hP k0 he hc j hj (X.2.2.2.2.1 _ hlk) (fun _ h9 => h9) (by rw [List.getElem?_mapIdx, hf]; rfl) hd (k H locs arr hP hD hS hL)
theorem w_putI (X : wCx p s m args meth c own cc nL D dA b0 ad) {idx ci j k0 z1 z2 : Nat} {fs : List (Nat × Nat)} {x : Int32} (hd : decode cc pc = .ok (.putfield idx, 3)) (hp : pc + 3 = q) (hl : wFp own idx ci j .int) (hS0 : S[k0]? = some (ci + 6, z1, fs)) (hf : fs[j]? = some (0, z2)) (k : wM p l e R s m args below meth c ck cn Q nL D dA b0 ad S q ls st (wuI h k0 j x)) : wM p l e R s m args below meth c ck cn Q nL D dA b0 ad S pc ls (.int x :: .ref k0 :: st) h := by
  subst hp
  intro H locs arr hP hD hS hL
  obtain ⟨C, T, N, ty0, hc, hin, hty, hnm, hj, hlk, hfin, hpd⟩ := hl
  have he := wW_at (ad := ad) (dA := dA) (h := h) hS0
  rw [we_obj] at he
  refine va_put X.1 X.2.1 X.2.2.2.2.1 hin ty0 hty hnm X.2.2.2.1 X.2.2.2.2.2.1 hP hD hS k0 he hc j hj (X.2.2.2.2.1 _ hlk) (fun _ h9 => h9) hfin hpd (vp_nar_int x) rfl (by rw [List.length_mapIdx]; exact (List.getElem?_eq_some_iff.mp hf).1) hd (fun H1 locs1 hP1 hD1 hS1 => ?_)
  have e1 : (wW ad dA S h).set k0 (ad k0, .inr (ci, (fs.mapIdx (fun j z => wf ad h k0 j z)).set j (.int x))) = wW ad dA S (wuI h k0 j x) := by
    refine wW_set hS0 (fun a ha => wsI_ne a ha) ?_
    rw [we_obj]
    exact congrArg (fun l => Sum.inr (ci, l)) (wf_set hf (h' := wuI h k0 j x) (by simp [wf, wuI, wsI_eq, upd]) (fun i hi => ⟨by simp [wuI, wsI, upd, hi], by simp [wuI, wsI, upd, hi]⟩)).symm
  exact k H1 locs1 arr (e1 ▸ hP1) (e1 ▸ hD1) hS1 hL
theorem w_putJ (X : wCx p s m args meth c own cc nL D dA b0 ad) {idx ci j k0 z1 z2 : Nat} {fs : List (Nat × Nat)} {x : Int64} (hd : decode cc pc = .ok (.putfield idx, 3)) (hp : pc + 3 = q) (hl : wFp own idx ci j .long) (hS0 : S[k0]? = some (ci + 6, z1, fs)) (hf : fs[j]? = some (1, z2)) (k : wM p l e R s m args below meth c ck cn Q nL D dA b0 ad S q ls st (wuJ h k0 j x)) : wM p l e R s m args below meth c ck cn Q nL D dA b0 ad S pc ls (.long x :: .ref k0 :: st) h := by
  subst hp
  intro H locs arr hP hD hS hL
  obtain ⟨C, T, N, ty0, hc, hin, hty, hnm, hj, hlk, hfin, hpd⟩ := hl
  have he := wW_at (ad := ad) (dA := dA) (h := h) hS0
  rw [we_obj] at he
  refine va_put X.1 X.2.1 X.2.2.2.2.1 hin ty0 hty hnm X.2.2.2.1 X.2.2.2.2.2.1 hP hD hS k0 he hc j hj (X.2.2.2.2.1 _ hlk) (fun _ h9 => h9) hfin hpd rfl rfl (by rw [List.length_mapIdx]; exact (List.getElem?_eq_some_iff.mp hf).1) hd (fun H1 locs1 hP1 hD1 hS1 => ?_)
  have e1 : (wW ad dA S h).set k0 (ad k0, .inr (ci, (fs.mapIdx (fun j z => wf ad h k0 j z)).set j (.long x))) = wW ad dA S (wuJ h k0 j x) := by
    refine wW_set hS0 (fun a ha => wsJ_ne a ha) ?_
    rw [we_obj]
    exact congrArg (fun l => Sum.inr (ci, l)) (wf_set hf (h' := wuJ h k0 j x) (by simp [wf, wuJ, wsJ_eq, vp_updL]) (fun i hi => ⟨by simp [wuJ, wsJ, vp_updL, hi], by simp [wuJ, wsJ, vp_updL, hi]⟩)).symm
  exact k H1 locs1 arr (e1 ▸ hP1) (e1 ▸ hD1) hS1 hL
theorem w_nz {x : Int32} (hx : fits .boolean (.int x) = true) : narrow .boolean (.int x) = .int x := by
  have h1 : x = 0 ∨ x = 1 := by simpa [fits] using hx
  rcases h1 with rfl | rfl <;> rfl
theorem w_putZ (X : wCx p s m args meth c own cc nL D dA b0 ad) {idx ci j k0 z1 z2 : Nat} {fs : List (Nat × Nat)} {x : Int32} (hd : decode cc pc = .ok (.putfield idx, 3)) (hp : pc + 3 = q) (hx : fits .boolean (.int x) = true) (hl : wFp own idx ci j .boolean) (hS0 : S[k0]? = some (ci + 6, z1, fs)) (hf : fs[j]? = some (0, z2)) (k : wM p l e R s m args below meth c ck cn Q nL D dA b0 ad S q ls st (wuI h k0 j x)) : wM p l e R s m args below meth c ck cn Q nL D dA b0 ad S pc ls (.int x :: .ref k0 :: st) h := by
  subst hp
  intro H locs arr hP hD hS hL
  obtain ⟨C, T, N, ty0, hc, hin, hty, hnm, hj, hlk, hfin, hpd⟩ := hl
  have he := wW_at (ad := ad) (dA := dA) (h := h) hS0
  rw [we_obj] at he
  refine va_put X.1 X.2.1 X.2.2.2.2.1 hin ty0 hty hnm X.2.2.2.1 X.2.2.2.2.2.1 hP hD hS k0 he hc j hj (X.2.2.2.2.1 _ hlk) (fun _ h9 => h9) hfin hpd (w_nz hx) hx (by rw [List.length_mapIdx]; exact (List.getElem?_eq_some_iff.mp hf).1) hd (fun H1 locs1 hP1 hD1 hS1 => ?_)
  have e1 : (wW ad dA S h).set k0 (ad k0, .inr (ci, (fs.mapIdx (fun j z => wf ad h k0 j z)).set j (.int x))) = wW ad dA S (wuI h k0 j x) := by
    refine wW_set hS0 (fun a ha => wsI_ne a ha) ?_
    rw [we_obj]
    exact congrArg (fun l => Sum.inr (ci, l)) (wf_set hf (h' := wuI h k0 j x) (by simp [wf, wuI, wsI_eq, upd]) (fun i hi => ⟨by simp [wuI, wsI, upd, hi], by simp [wuI, wsI, upd, hi]⟩)).symm
  exact k H1 locs1 arr (e1 ▸ hP1) (e1 ▸ hD1) hS1 hL
theorem w_iald (X : wCx p s m args meth c own cc nL D dA b0 ad) {k0 n : Nat} {fs : List (Nat × Nat)} {i : Int32} {j : Nat} (hd : decode cc pc = .ok (.iaload, 1)) (hp : pc + 1 = q) (hj : i.toNatClampNeg = j) (hS0 : S[k0]? = some (0, n, fs)) (hin : vp_in i n) (k : wM p l e R s m args below meth c ck cn Q nL D dA b0 ad S q ls (.int (h.1 k0 j) :: st) h) : wM p l e R s m args below meth c ck cn Q nL D dA b0 ad S pc ls (.int i :: .ref k0 :: st) h := by
  subst hp
  subst hj
  intro H locs arr hP hD hS hL
  have he := wW_at (ad := ad) (dA := dA) (h := h) hS0
  rw [we_arr (by omega)] at he
  exact va_iald X.1 X.2.1 X.2.2.2.2.2.1 hP k0 0 he rfl hin hd (k H locs arr hP hD hS hL)
theorem w_bald (X : wCx p s m args meth c own cc nL D dA b0 ad) {k0 n : Nat} {fs : List (Nat × Nat)} {i : Int32} {j : Nat} (hd : decode cc pc = .ok (.baload, 1)) (hp : pc + 1 = q) (hj : i.toNatClampNeg = j) (hS0 : S[k0]? = some (1, n, fs)) (hin : vp_in i n) (k : wM p l e R s m args below meth c ck cn Q nL D dA b0 ad S q ls (.int (h.1 k0 j) :: st) h) : wM p l e R s m args below meth c ck cn Q nL D dA b0 ad S pc ls (.int i :: .ref k0 :: st) h := by
  subst hp
  subst hj
  intro H locs arr hP hD hS hL
  have he := wW_at (ad := ad) (dA := dA) (h := h) hS0
  rw [we_arr (by omega)] at he
  exact va_bald X.1 X.2.1 X.2.2.2.2.2.1 hP k0 1 he rfl hin hd (k H locs arr hP hD hS hL)
theorem w_zald (X : wCx p s m args meth c own cc nL D dA b0 ad) {k0 n : Nat} {fs : List (Nat × Nat)} {i : Int32} {j : Nat} (hd : decode cc pc = .ok (.baload, 1)) (hp : pc + 1 = q) (hj : i.toNatClampNeg = j) (hS0 : S[k0]? = some (2, n, fs)) (hin : vp_in i n) (k : wM p l e R s m args below meth c ck cn Q nL D dA b0 ad S q ls (.int (h.1 k0 j) :: st) h) : wM p l e R s m args below meth c ck cn Q nL D dA b0 ad S pc ls (.int i :: .ref k0 :: st) h := by
  subst hp
  subst hj
  intro H locs arr hP hD hS hL
  have he := wW_at (ad := ad) (dA := dA) (h := h) hS0
  rw [we_arr (by omega)] at he
  exact va_zald X.1 X.2.1 X.2.2.2.2.2.1 hP k0 2 he rfl hin hd (k H locs arr hP hD hS hL)
theorem w_lald (X : wCx p s m args meth c own cc nL D dA b0 ad) {k0 n : Nat} {fs : List (Nat × Nat)} {i : Int32} {j : Nat} (hd : decode cc pc = .ok (.laload, 1)) (hp : pc + 1 = q) (hj : i.toNatClampNeg = j) (hS0 : S[k0]? = some (3, n, fs)) (hin : vp_in i n) (k : wM p l e R s m args below meth c ck cn Q nL D dA b0 ad S q ls (.long (h.2 k0 j) :: st) h) : wM p l e R s m args below meth c ck cn Q nL D dA b0 ad S pc ls (.int i :: .ref k0 :: st) h := by
  subst hp
  subst hj
  intro H locs arr hP hD hS hL
  have he := wW_at (ad := ad) (dA := dA) (h := h) hS0
  rw [we_arrJ] at he
  exact va_lald X.1 X.2.1 X.2.2.2.2.2.1 hP k0 3 he rfl hin hd (k H locs arr hP hD hS hL)
theorem w_aald4 (X : wCx p s m args meth c own cc nL D dA b0 ad) {k0 n r : Nat} {fs : List (Nat × Nat)} {i : Int32} (hd : decode cc pc = .ok (.aaload, 1)) (hp : pc + 1 = q) (hS0 : S[k0]? = some (4, n, fs)) (hin : vp_in i n) (hr : fs[i.toNatClampNeg]? = some (2, r)) (k : wM p l e R s m args below meth c ck cn Q nL D dA b0 ad S q ls (.ref r :: st) h) : wM p l e R s m args below meth c ck cn Q nL D dA b0 ad S pc ls (.int i :: .ref k0 :: st) h := by
  subst hp
  intro H locs arr hP hD hS hL
  have he := wW_at (ad := ad) (dA := dA) (h := h) hS0
  rw [we_arrQ (by omega) (by omega)] at he
  refine va_aldq X.1 X.2.1 X.2.2.2.2.2.1 hP k0 4 he rfl hin hd ?_
  have e1 : wrf ad fs i.toNatClampNeg = some (ad r) := by rw [wrf, hr]; rfl
  rw [e1]
  exact (k H locs arr hP hD hS hL)
theorem w_aald5 (X : wCx p s m args meth c own cc nL D dA b0 ad) {k0 n r : Nat} {fs : List (Nat × Nat)} {i : Int32} (hd : decode cc pc = .ok (.aaload, 1)) (hp : pc + 1 = q) (hS0 : S[k0]? = some (5, n, fs)) (hin : vp_in i n) (hr : fs[i.toNatClampNeg]? = some (2, r)) (k : wM p l e R s m args below meth c ck cn Q nL D dA b0 ad S q ls (.ref r :: st) h) : wM p l e R s m args below meth c ck cn Q nL D dA b0 ad S pc ls (.int i :: .ref k0 :: st) h := by
  subst hp
  intro H locs arr hP hD hS hL
  have he := wW_at (ad := ad) (dA := dA) (h := h) hS0
  rw [we_arrQ (by omega) (by omega)] at he
  refine va_aldq X.1 X.2.1 X.2.2.2.2.2.1 hP k0 5 he rfl hin hd ?_
  have e1 : wrf ad fs i.toNatClampNeg = some (ad r) := by rw [wrf, hr]; rfl
  rw [e1]
  exact (k H locs arr hP hD hS hL)
theorem w_iast (X : wCx p s m args meth c own cc nL D dA b0 ad) {k0 n : Nat} {fs : List (Nat × Nat)} {i x : Int32} {j : Nat} (hd : decode cc pc = .ok (.iastore, 1)) (hp : pc + 1 = q) (hj : i.toNatClampNeg = j) (hS0 : S[k0]? = some (0, n, fs)) (hin : vp_in i n) (k : wM p l e R s m args below meth c ck cn Q nL D dA b0 ad S q ls st (wuI h k0 j x)) : wM p l e R s m args below meth c ck cn Q nL D dA b0 ad S pc ls (.int x :: .int i :: .ref k0 :: st) h := by
  subst hp
  subst hj
  intro H locs arr hP hD hS hL
  have he := wW_at (ad := ad) (dA := dA) (h := h) hS0
  rw [we_arr (by omega)] at he
  refine va_iast X.1 X.2.1 X.2.2.2.2.2.1 hP hD hS k0 0 he rfl hin hd (fun H1 locs1 hP1 hD1 hS1 => ?_)
  have e1 : (wW ad dA S h).set k0 (ad k0, .inl (dA 0, n, .inl (upd (h.1 k0) i.toNatClampNeg x))) = wW ad dA S (wuI h k0 i.toNatClampNeg x) := wW_set hS0 (fun a ha => wsI_ne a ha) (by first | rw [we_arr (by omega), wsI_eq] | rw [we_arr (by omega), wuI, wsI_eq])
  exact k H1 locs1 arr (e1 ▸ hP1) (e1 ▸ hD1) hS1 hL
theorem w_bast (X : wCx p s m args meth c own cc nL D dA b0 ad) {k0 n : Nat} {fs : List (Nat × Nat)} {i x : Int32} {j : Nat} (hd : decode cc pc = .ok (.bastore, 1)) (hp : pc + 1 = q) (hj : i.toNatClampNeg = j) (hS0 : S[k0]? = some (1, n, fs)) (hin : vp_in i n) (k : wM p l e R s m args below meth c ck cn Q nL D dA b0 ad S q ls st (wuI h k0 j (vp_nar .byte x))) : wM p l e R s m args below meth c ck cn Q nL D dA b0 ad S pc ls (.int x :: .int i :: .ref k0 :: st) h := by
  subst hp
  subst hj
  intro H locs arr hP hD hS hL
  have he := wW_at (ad := ad) (dA := dA) (h := h) hS0
  rw [we_arr (by omega)] at he
  refine va_bast X.1 X.2.1 X.2.2.2.2.2.1 hP hD hS k0 1 he rfl hin hd (fun H1 locs1 hP1 hD1 hS1 => ?_)
  have e1 : (wW ad dA S h).set k0 (ad k0, .inl (dA 1, n, .inl (upd (h.1 k0) i.toNatClampNeg (vp_nar .byte x)))) = wW ad dA S (wuI h k0 i.toNatClampNeg (vp_nar .byte x)) := wW_set hS0 (fun a ha => wsI_ne a ha) (by first | rw [we_arr (by omega), wsI_eq] | rw [we_arr (by omega), wuI, wsI_eq])
  exact k H1 locs1 arr (e1 ▸ hP1) (e1 ▸ hD1) hS1 hL
theorem w_zast (X : wCx p s m args meth c own cc nL D dA b0 ad) {k0 n : Nat} {fs : List (Nat × Nat)} {i x : Int32} {j : Nat} (hd : decode cc pc = .ok (.bastore, 1)) (hp : pc + 1 = q) (hj : i.toNatClampNeg = j) (hS0 : S[k0]? = some (2, n, fs)) (hin : vp_in i n) (k : wM p l e R s m args below meth c ck cn Q nL D dA b0 ad S q ls st (wuI h k0 j (vp_nar .boolean x))) : wM p l e R s m args below meth c ck cn Q nL D dA b0 ad S pc ls (.int x :: .int i :: .ref k0 :: st) h := by
  subst hp
  subst hj
  intro H locs arr hP hD hS hL
  have he := wW_at (ad := ad) (dA := dA) (h := h) hS0
  rw [we_arr (by omega)] at he
  refine va_zast X.1 X.2.1 X.2.2.2.2.2.1 hP hD hS k0 2 he rfl hin hd (fun H1 locs1 hP1 hD1 hS1 => ?_)
  have e1 : (wW ad dA S h).set k0 (ad k0, .inl (dA 2, n, .inl (upd (h.1 k0) i.toNatClampNeg (vp_nar .boolean x)))) = wW ad dA S (wuI h k0 i.toNatClampNeg (vp_nar .boolean x)) := wW_set hS0 (fun a ha => wsI_ne a ha) (by first | rw [we_arr (by omega), wsI_eq] | rw [we_arr (by omega), wuI, wsI_eq])
  exact k H1 locs1 arr (e1 ▸ hP1) (e1 ▸ hD1) hS1 hL
theorem w_last (X : wCx p s m args meth c own cc nL D dA b0 ad) {k0 n : Nat} {fs : List (Nat × Nat)} {i : Int32} {j : Nat} {x : Int64} (hd : decode cc pc = .ok (.lastore, 1)) (hp : pc + 1 = q) (hj : i.toNatClampNeg = j) (hS0 : S[k0]? = some (3, n, fs)) (hin : vp_in i n) (k : wM p l e R s m args below meth c ck cn Q nL D dA b0 ad S q ls st (wuJ h k0 j x)) : wM p l e R s m args below meth c ck cn Q nL D dA b0 ad S pc ls (.long x :: .int i :: .ref k0 :: st) h := by
  subst hp
  subst hj
  intro H locs arr hP hD hS hL
  have he := wW_at (ad := ad) (dA := dA) (h := h) hS0
  rw [we_arrJ] at he
  refine va_last X.1 X.2.1 X.2.2.2.2.2.1 hP hD hS k0 3 he rfl hin hd (fun H1 locs1 hP1 hD1 hS1 => ?_)
  have e1 : (wW ad dA S h).set k0 (ad k0, .inl (dA 3, n, .inr (.inl (vp_updL (h.2 k0) i.toNatClampNeg x)))) = wW ad dA S (wuJ h k0 i.toNatClampNeg x) := wW_set hS0 (fun a ha => wsJ_ne a ha) (by first | rw [we_arrJ, wsJ_eq] | rw [we_arrJ, wuJ, wsJ_eq])
  exact k H1 locs1 arr (e1 ▸ hP1) (e1 ▸ hD1) hS1 hL
theorem w_alenI (X : wCx p s m args meth c own cc nL D dA b0 ad) {k0 n : Nat} {fs : List (Nat × Nat)} {v : Int32} (hd : decode cc pc = .ok (.arraylength, 1)) (hp : pc + 1 = q) (hS0 : S[k0]? = some (0, n, fs)) (hv : Int32.ofNat n = v) (k : wM p l e R s m args below meth c ck cn Q nL D dA b0 ad S q ls (.int v :: st) h) : wM p l e R s m args below meth c ck cn Q nL D dA b0 ad S pc ls (.ref k0 :: st) h := by
  subst hp
  intro H locs arr hP hD hS hL
  have he := wW_at (ad := ad) (dA := dA) (h := h) hS0
  rw [we_arr (by omega)] at he
  exact va_alen X.1 X.2.1 X.2.2.2.2.2.1 hP k0 0 he rfl hv hd (k H locs arr hP hD hS hL)
theorem w_alenJ (X : wCx p s m args meth c own cc nL D dA b0 ad) {k0 n : Nat} {fs : List (Nat × Nat)} {v : Int32} (hd : decode cc pc = .ok (.arraylength, 1)) (hp : pc + 1 = q) (hS0 : S[k0]? = some (3, n, fs)) (hv : Int32.ofNat n = v) (k : wM p l e R s m args below meth c ck cn Q nL D dA b0 ad S q ls (.int v :: st) h) : wM p l e R s m args below meth c ck cn Q nL D dA b0 ad S pc ls (.ref k0 :: st) h := by
  subst hp
  intro H locs arr hP hD hS hL
  have he := wW_at (ad := ad) (dA := dA) (h := h) hS0
  rw [we_arrJ] at he
  exact va_alen X.1 X.2.1 X.2.2.2.2.2.1 hP k0 3 he rfl hv hd (k H locs arr hP hD hS hL)
theorem w_cats (ad : Nat → Nat) (st : List Value) : ((st.map (wv ad)).map fun v => v.category).sum = (st.map fun v => v.category).sum := by
  rw [List.map_map]
  congr 1
  exact List.map_congr_left (fun v _ => wv_cat ad v)
theorem w_mmax (X : wCx p s m args meth c own cc nL D dA b0 ad) {i : Nat} {x y : Int32} (hd : decode cc pc = .ok (.invokestatic i, 3)) (hp : pc + 3 = q) (h1 : Cond.methodLink own i Lib.Math.max.name ∈ wT0) (h2 : Cond.static Lib.Math.max.name ∈ wT0) (h3 : Cond.initialized "java/lang/Math" ∈ wT0) (h4 : Cond.code Lib.Math.max.name Lib.Math.max.code 2 (some .int) ∈ wT0) (hf : 1 ≤ R.frames) (hlo : (st.map fun v => v.category).sum + 18 ≤ R.locals) (hc : ck ≤ R.cells) (hs : cn ≤ R.slots) (k : wM p l e R s m args below meth c ck cn Q nL D dA b0 ad S q ls (.int (if x < y then y else x) :: st) h) : wM p l e R s m args below meth c ck cn Q nL D dA b0 ad S pc ls (.int y :: .int x :: st) h := by
  subst hp
  exact fun H locs arr hP hD hS hL => va_mmax X.1 X.2.1 (X.2.2.1.trans hL.1.symm) X.2.2.2.1 (X.2.2.2.2.1 _ h1) (X.2.2.2.2.1 _ h2) (X.2.2.2.2.1 _ h3) (X.2.2.2.2.1 _ h4) hf (by rw [w_cats]; omega) hc hs hd (k H locs arr hP hD hS hL)
theorem w_mmin (X : wCx p s m args meth c own cc nL D dA b0 ad) {i : Nat} {x y : Int32} (hd : decode cc pc = .ok (.invokestatic i, 3)) (hp : pc + 3 = q) (h1 : Cond.methodLink own i Lib.Math.min.name ∈ wT0) (h2 : Cond.static Lib.Math.min.name ∈ wT0) (h3 : Cond.initialized "java/lang/Math" ∈ wT0) (h4 : Cond.code Lib.Math.min.name Lib.Math.min.code 2 (some .int) ∈ wT0) (hf : 1 ≤ R.frames) (hlo : (st.map fun v => v.category).sum + 18 ≤ R.locals) (hc : ck ≤ R.cells) (hs : cn ≤ R.slots) (k : wM p l e R s m args below meth c ck cn Q nL D dA b0 ad S q ls (.int (if y < x then y else x) :: st) h) : wM p l e R s m args below meth c ck cn Q nL D dA b0 ad S pc ls (.int y :: .int x :: st) h := by
  subst hp
  exact fun H locs arr hP hD hS hL => va_mmin X.1 X.2.1 (X.2.2.1.trans hL.1.symm) X.2.2.2.1 (X.2.2.2.2.1 _ h1) (X.2.2.2.2.1 _ h2) (X.2.2.2.2.1 _ h3) (X.2.2.2.2.1 _ h4) hf (by rw [w_cats]; omega) hc hs hd (k H locs arr hP hD hS hL)
theorem w_copyI (X : wCx p s m args meth c own cc nL D dA b0 ad) {i k0 k1 n0 n1 s2 d2 n2 : Nat} {fs0 fs1 : List (Nat × Nat)} {sp dp n : Int32} (hd : decode cc pc = .ok (.invokestatic i, 3)) (hp : pc + 3 = q) (hs2 : sp.toNatClampNeg = s2) (hd2 : dp.toNatClampNeg = d2) (hn2 : n.toNatClampNeg = n2) (hl1 : Cond.methodLink own i arraycopyName ∈ wT0) (hl2 : Cond.native arraycopyName ∈ wT0) (hl3 : Cond.static arraycopyName ∈ wT0) (hl4 : Cond.initialized "java/lang/System" ∈ wT0) (hS0 : S[k0]? = some (0, n0, fs0)) (hS1 : S[k1]? = some (0, n1, fs1)) (h1 : ¬ sp < 0) (h2 : ¬ dp < 0) (h3 : ¬ n < 0) (h4 : s2 + n2 ≤ n0) (h5 : d2 + n2 ≤ n1) (hf : 1 ≤ R.frames) (hlo : (st.map fun v => v.category).sum + 18 ≤ R.locals) (k : wM p l e R s m args below meth c ck cn Q nL D dA b0 ad S q ls st (wsI h k1 (va_cpy (h.1 k0) (h.1 k1) s2 d2 n2))) : wM p l e R s m args below meth c ck cn Q nL D dA b0 ad S pc ls (.int n :: .int dp :: .ref k1 :: .int sp :: .ref k0 :: st) h := by
  subst hp
  subst hs2
  subst hd2
  subst hn2
  intro H locs arr hP hD hS hL
  have he0 := wW_at (ad := ad) (dA := dA) (h := h) hS0
  have he1 := wW_at (ad := ad) (dA := dA) (h := h) hS1
  rw [we_arr (by omega)] at he0 he1
  refine va_copyi X.1 X.2.1 (X.2.2.1.trans hL.1.symm) X.2.2.2.1 (X.2.2.2.2.1 _ hl1) (X.2.2.2.2.1 _ hl2) (X.2.2.2.2.1 _ hl3) (X.2.2.2.2.1 _ hl4) X.2.2.2.2.2.1 hP hD hS k0 k1 0 0 he0 he1 rfl rfl rfl h1 h2 h3 h4 h5 (fun _ _ => rfl) hf (by rw [w_cats]; exact hlo) hd (fun H1 locs1 hP1 hD1 hS1' => ?_)
  have e1 : (wW ad dA S h).set k1 (ad k1, .inl (dA 0, n1, .inl (va_cpy (h.1 k0) (h.1 k1) sp.toNatClampNeg dp.toNatClampNeg n.toNatClampNeg))) = wW ad dA S (wsI h k1 (va_cpy (h.1 k0) (h.1 k1) sp.toNatClampNeg dp.toNatClampNeg n.toNatClampNeg)) := wW_set hS1 (fun a ha => wsI_ne a ha) (by rw [we_arr (by omega), wsI_eq])
  exact k H1 locs1 arr (e1 ▸ hP1) (e1 ▸ hD1) hS1' hL
theorem w_copyJ (X : wCx p s m args meth c own cc nL D dA b0 ad) {i k0 k1 n0 n1 s2 d2 n2 : Nat} {fs0 fs1 : List (Nat × Nat)} {sp dp n : Int32} (hd : decode cc pc = .ok (.invokestatic i, 3)) (hp : pc + 3 = q) (hs2 : sp.toNatClampNeg = s2) (hd2 : dp.toNatClampNeg = d2) (hn2 : n.toNatClampNeg = n2) (hl1 : Cond.methodLink own i arraycopyName ∈ wT0) (hl2 : Cond.native arraycopyName ∈ wT0) (hl3 : Cond.static arraycopyName ∈ wT0) (hl4 : Cond.initialized "java/lang/System" ∈ wT0) (hS0 : S[k0]? = some (3, n0, fs0)) (hS1 : S[k1]? = some (3, n1, fs1)) (h1 : ¬ sp < 0) (h2 : ¬ dp < 0) (h3 : ¬ n < 0) (h4 : s2 + n2 ≤ n0) (h5 : d2 + n2 ≤ n1) (hf : 1 ≤ R.frames) (hlo : (st.map fun v => v.category).sum + 18 ≤ R.locals) (k : wM p l e R s m args below meth c ck cn Q nL D dA b0 ad S q ls st (wsJ h k1 (va_cpy (h.2 k0) (h.2 k1) s2 d2 n2))) : wM p l e R s m args below meth c ck cn Q nL D dA b0 ad S pc ls (.int n :: .int dp :: .ref k1 :: .int sp :: .ref k0 :: st) h := by
  subst hp
  subst hs2
  subst hd2
  subst hn2
  intro H locs arr hP hD hS hL
  have he0 := wW_at (ad := ad) (dA := dA) (h := h) hS0
  have he1 := wW_at (ad := ad) (dA := dA) (h := h) hS1
  rw [we_arrJ] at he0 he1
  refine va_copyl X.1 X.2.1 (X.2.2.1.trans hL.1.symm) X.2.2.2.1 (X.2.2.2.2.1 _ hl1) (X.2.2.2.2.1 _ hl2) (X.2.2.2.2.1 _ hl3) (X.2.2.2.2.1 _ hl4) X.2.2.2.2.2.1 hP hD hS k0 k1 3 3 he0 he1 rfl rfl rfl h1 h2 h3 h4 h5 (fun _ _ => rfl) hf (by rw [w_cats]; exact hlo) hd (fun H1 locs1 hP1 hD1 hS1' => ?_)
  have e1 : (wW ad dA S h).set k1 (ad k1, .inl (dA 3, n1, .inr (.inl (va_cpy (h.2 k0) (h.2 k1) sp.toNatClampNeg dp.toNatClampNeg n.toNatClampNeg)))) = wW ad dA S (wsJ h k1 (va_cpy (h.2 k0) (h.2 k1) sp.toNatClampNeg dp.toNatClampNeg n.toNatClampNeg)) := wW_set hS1 (fun a ha => wsJ_ne a ha) (by rw [we_arrJ, wsJ_eq])
  exact k H1 locs1 arr (e1 ▸ hP1) (e1 ▸ hD1) hS1' hL
theorem w_ldcS (X : wCx p s m args meth c own cc nL D dA b0 ad) {idx i : Nat} {tx : String} (hd : decode cc pc = .ok (.ldc idx, 2)) (hp : pc + 2 = q) (hm : (own, idx, tx, i) ∈ wSk) (k : wM p l e R s m args below meth c ck cn Q nL D dA b0 ad S q ls (.ref (100000 + i) :: st) h) : wM p l e R s m args below meth c ck cn Q nL D dA b0 ad S pc ls st h := by
  subst hp
  intro H locs arr hP hD hS hL
  obtain ⟨-, hR, -⟩ := X.2.2.2.2.2.2.2.2
  exact va_ldcS X.1 X.2.1 X.2.2.2.1 (hR _ hm) hd (k H locs arr hP hD hS hL)
end WR

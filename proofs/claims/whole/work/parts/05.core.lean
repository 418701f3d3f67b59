/-! THE WORLD AS SHAPES AND NUMBERS. A shape: (tag, length, fields). tags 0 int[], 1 byte[], 2 boolean[], 3 long[], 4 Bookmark[], 5 Shelf[], 6 + ci an object of class ci. A field or a place of a row of references: (0, _) an int, (1, _) a long, (2, r) a reference to the cell r, (3, _) null. The numbers: h.1 cell place (ints), h.2 cell place (longs). References are numbers of cells; ad gives their addresses. -/
abbrev wSh : Type := Nat × Nat × List (Nat × Nat)
abbrev wSt : Type := (Nat → Nat → Int32) × (Nat → Nat → Int64)
def wv (ad : Nat → Nat) (v : Value) : Value := match v with
  | .ref k => .ref (ad k)
  | .int x => .int x
  | .long x => .long x
  | .float x => .float x
  | .double x => .double x
  | .null => .null
  | .retAddr x => .retAddr x
theorem wv_cat (ad : Nat → Nat) (v : Value) : (wv ad v).category = v.category := by cases v <;> rfl
def wf (ad : Nat → Nat) (h : wSt) (c j : Nat) (q : Nat × Nat) : Value :=
  if q.1 = 0 then .int (h.1 c j) else if q.1 = 1 then .long (h.2 c j) else if q.1 = 2 then .ref (ad q.2) else .null
def wrf (ad : Nat → Nat) (fs : List (Nat × Nat)) (j : Nat) : Option Nat := (fs[j]?).bind (fun z => if z.1 = 2 then some (ad z.2) else none)
def we (ad : Nat → Nat) (dA : Nat → ClassId) (h : wSt) (c : Nat) (q : wSh) : va_E :=
  if q.1 < 3 then .inl (dA q.1, q.2.1, .inl (h.1 c)) else if q.1 = 3 then .inl (dA 3, q.2.1, .inr (.inl (h.2 c)))
  else if q.1 < 6 then .inl (dA q.1, q.2.1, .inr (.inr (.inr (.inr (wrf ad q.2.2))))) else .inr (q.1 - 6, q.2.2.mapIdx (fun j z => wf ad h c j z))
def wW (ad : Nat → Nat) (dA : Nat → ClassId) (S : List wSh) (h : wSt) : va_W := S.mapIdx (fun c q => (ad c, we ad dA h c q))
theorem wW_at {ad : Nat → Nat} {dA : Nat → ClassId} {S : List wSh} {h : wSt} {c : Nat} {q : wSh} (hq : S[c]? = some q) : (wW ad dA S h)[c]? = some (ad c, we ad dA h c q) := by
  rw [wW, List.getElem?_mapIdx, hq]; rfl
/-- the whole row of ints of a cell is changed -/
def wsI (h : wSt) (c : Nat) (f : Nat → Int32) : wSt := (fun a => if a = c then f else h.1 a, h.2)
def wsJ (h : wSt) (c : Nat) (f : Nat → Int64) : wSt := (h.1, fun a => if a = c then f else h.2 a)
/-- one int, one long -/
def wuI (h : wSt) (c i : Nat) (x : Int32) : wSt := wsI h c (upd (h.1 c) i x)
def wuJ (h : wSt) (c i : Nat) (x : Int64) : wSt := wsJ h c (vp_updL (h.2 c) i x)
theorem wW_set {ad : Nat → Nat} {dA : Nat → ClassId} {S : List wSh} {h h' : wSt} {c : Nat} {q : wSh} (hq : S[c]? = some q) (h1 : ∀ a, a ≠ c → h'.1 a = h.1 a ∧ h'.2 a = h.2 a) {e : va_E} (he : we ad dA h' c q = e) : (wW ad dA S h).set c (ad c, e) = wW ad dA S h' := by
  apply List.ext_getElem?
  intro i
  have hl : c < S.length := (List.getElem?_eq_some_iff.mp hq).1
  by_cases hi : i = c
  · subst hi
    rw [List.getElem?_set_self (by rw [wW, List.length_mapIdx]; exact hl), wW_at hq, he]
  · rw [List.getElem?_set_ne (Ne.symm hi), wW, wW, List.getElem?_mapIdx, List.getElem?_mapIdx]
    cases S[i]? with
    | none => rfl
    | some q2 =>
      obtain ⟨g1, g2⟩ := h1 i hi
      have e2 : we ad dA h i q2 = we ad dA h' i q2 := by
        unfold we wf
        rw [g1, g2]
      show some (ad i, we ad dA h i q2) = some (ad i, we ad dA h' i q2)
      rw [e2]
theorem wsI_ne {h : wSt} {c : Nat} {f : Nat → Int32} (a : Nat) (ha : a ≠ c) : (wsI h c f).1 a = h.1 a ∧ (wsI h c f).2 a = h.2 a := ⟨by simp [wsI, ha], rfl⟩
theorem wsJ_ne {h : wSt} {c : Nat} {f : Nat → Int64} (a : Nat) (ha : a ≠ c) : (wsJ h c f).1 a = h.1 a ∧ (wsJ h c f).2 a = h.2 a := ⟨rfl, by simp [wsJ, ha]⟩
theorem wsI_eq (h : wSt) (c : Nat) (f : Nat → Int32) : (wsI h c f).1 c = f := by simp [wsI]
theorem wsJ_eq (h : wSt) (c : Nat) (f : Nat → Int64) : (wsJ h c f).2 c = f := by simp [wsJ]
theorem we_arr {ad : Nat → Nat} {dA : Nat → ClassId} {h : wSt} {c t n : Nat} {fs : List (Nat × Nat)} (ht : t < 3) : we ad dA h c (t, n, fs) = .inl (dA t, n, .inl (h.1 c)) := by simp [we, ht]
theorem we_arrJ {ad : Nat → Nat} {dA : Nat → ClassId} {h : wSt} {c n : Nat} {fs : List (Nat × Nat)} : we ad dA h c (3, n, fs) = .inl (dA 3, n, .inr (.inl (h.2 c))) := by simp [we]
theorem we_arrQ {ad : Nat → Nat} {dA : Nat → ClassId} {h : wSt} {c t n : Nat} {fs : List (Nat × Nat)} (h1 : 3 < t) (h2 : t < 6) : we ad dA h c (t, n, fs) = .inl (dA t, n, .inr (.inr (.inr (.inr (wrf ad fs))))) := by
  simp [we, h2, show ¬ t < 3 by omega, show ¬ t = 3 by omega]
theorem we_obj {ad : Nat → Nat} {dA : Nat → ClassId} {h : wSt} {c ci n : Nat} {fs : List (Nat × Nat)} : we ad dA h c (ci + 6, n, fs) = .inr (ci, fs.mapIdx (fun j z => wf ad h c j z)) := by
  simp [we, show ¬ ci + 6 < 3 by omega, show ¬ ci + 6 < 6 by omega]
theorem wf_set {ad : Nat → Nat} {h h' : wSt} {c j : Nat} {fs : List (Nat × Nat)} {z : Nat × Nat} {v : Value} (hz : fs[j]? = some z) (hv : wf ad h' c j z = v) (ho : ∀ i, i ≠ j → h'.1 c i = h.1 c i ∧ h'.2 c i = h.2 c i) : (fs.mapIdx (fun j z => wf ad h c j z)).set j v = fs.mapIdx (fun j z => wf ad h' c j z) := by
  apply List.ext_getElem?
  intro i
  have hl : j < fs.length := (List.getElem?_eq_some_iff.mp hz).1
  by_cases hi : i = j
  · subst hi
    rw [List.getElem?_set_self (by rw [List.length_mapIdx]; exact hl), List.getElem?_mapIdx, hz]
    show some v = some (wf ad h' c i z)
    rw [hv]
  · rw [List.getElem?_set_ne (Ne.symm hi), List.getElem?_mapIdx, List.getElem?_mapIdx]
    cases fs[i]? with
    | none => rfl
    | some q2 =>
      obtain ⟨g1, g2⟩ := ho i hi
      show some (wf ad h c i q2) = some (wf ad h' c i q2)
      unfold wf
      rw [g1, g2]
/-- the locals: what is known of them -/
def wL (ad : Nat → Nat) (nL : Nat) (ls : List (Option Value)) (arr : Array Slot) : Prop := arr.size = nL ∧ lv_wf arr ∧ ∀ (i : Nat) (v : Value), ls[i]? = some (some v) → arr[i]? = some (.val (wv ad v))
def wl (ad : Nat → Nat) (ls : List (Option Value)) : List (Nat × Value) := (List.range ls.length).filterMap (fun i => (ls[i]?).bind (fun o => o.map (fun v => (i, wv ad v))))
theorem wl_mem {ad : Nat → Nat} {ls : List (Option Value)} {i : Nat} {w : Value} : (i, w) ∈ wl ad ls ↔ ∃ v, ls[i]? = some (some v) ∧ w = wv ad v := by
  unfold wl
  rw [List.mem_filterMap]
  constructor
  · rintro ⟨j, -, hj⟩
    cases h1 : ls[j]? with
    | none => rw [h1] at hj; cases hj
    | some o =>
      cases o with
      | none => rw [h1] at hj; cases hj
      | some v =>
        rw [h1] at hj
        have hj : some (j, wv ad v) = some (i, w) := hj
        cases hj
        exact ⟨v, h1, rfl⟩
  · rintro ⟨v, h1, rfl⟩
    exact ⟨i, List.mem_range.mpr (List.getElem?_eq_some_iff.mp h1).1, by rw [h1]; rfl⟩
theorem wL_has {ad : Nat → Nat} {nL : Nat} {ls : List (Option Value)} {arr : Array Slot} (h : wL ad nL ls arr) : lv_has arr nL (wl ad ls) := by
  refine ⟨h.1, h.2.1, fun q hq => ?_⟩
  obtain ⟨i, w⟩ := q
  obtain ⟨v, h1, rfl⟩ := wl_mem.mp hq
  exact h.2.2 i v h1
/-- the place ahead holds no long -/
def wok1 (ls : List (Option Value)) (i : Nat) : Bool := match i with
  | 0 => true
  | j + 1 => match ls[j]? with
    | some (some v) => v.category == 1
    | _ => true
theorem wok1_spec {ls : List (Option Value)} {i j : Nat} {v : Value} (h : wok1 ls i = true) (hj : j + 1 = i) (hv : ls[j]? = some (some v)) : v.category = 1 := by
  subst hj
  simp only [wok1, hv] at h
  exact eq_of_beq h
theorem wL_set1 {ad : Nat → Nat} {nL i : Nat} {ls : List (Option Value)} {arr : Array Slot} {x : Value} (hk : wok1 ls i = true) (h : lv_has arr nL ((i, wv ad x) :: (wl ad ls).filter (fun q => !(q.1 == i) && !(q.1 + 1 == i && q.2.category == 2)))) : wL ad nL (ls.set i (some x)) arr := by
  refine ⟨h.1, h.2.1, fun j v hj => ?_⟩
  by_cases hij : j = i
  · subst hij
    have hl : j < ls.length := by
      have := (List.getElem?_eq_some_iff.mp hj).1
      rwa [List.length_set] at this
    rw [List.getElem?_set_self hl] at hj
    cases hj
    exact h.2.2 (j, wv ad x) List.mem_cons_self
  · rw [List.getElem?_set_ne (Ne.symm hij)] at hj
    refine h.2.2 (j, wv ad v) (List.mem_cons_of_mem _ (List.mem_filter.mpr ⟨wl_mem.mpr ⟨v, hj, rfl⟩, ?_⟩))
    simp only [Bool.and_eq_true, Bool.not_eq_true', beq_eq_false_iff_ne, ne_eq, Bool.and_eq_false_iff]
    refine ⟨hij, ?_⟩
    by_cases h1 : j + 1 = i
    · refine Or.inr ?_
      rw [wv_cat, wok1_spec hk h1 hj]
      decide
    · exact Or.inl h1
theorem wL_set2 {ad : Nat → Nat} {nL i : Nat} {ls : List (Option Value)} {arr : Array Slot} {x : Value} (hk : wok1 ls i = true) (h : lv_has arr nL ((i, wv ad x) :: (wl ad ls).filter (fun q => !(q.1 == i) && (!(q.1 == i + 1) && !(q.1 + 1 == i && q.2.category == 2))))) : wL ad nL ((ls.set i (some x)).set (i + 1) none) arr := by
  refine ⟨h.1, h.2.1, fun j v hj => ?_⟩
  have hj1 : ¬ j = i + 1 := by
    intro e
    subst e
    by_cases hl : i + 1 < (ls.set i (some x)).length
    · rw [List.getElem?_set_self hl] at hj
      cases hj
    · rw [List.getElem?_eq_none (by rw [List.length_set]; omega)] at hj
      cases hj
  rw [List.getElem?_set_ne (fun e => hj1 e.symm)] at hj
  by_cases hij : j = i
  · subst hij
    have hl : j < ls.length := by
      have := (List.getElem?_eq_some_iff.mp hj).1
      rwa [List.length_set] at this
    rw [List.getElem?_set_self hl] at hj
    cases hj
    exact h.2.2 (j, wv ad x) List.mem_cons_self
  · rw [List.getElem?_set_ne (Ne.symm hij)] at hj
    refine h.2.2 (j, wv ad v) (List.mem_cons_of_mem _ (List.mem_filter.mpr ⟨wl_mem.mpr ⟨v, hj, rfl⟩, ?_⟩))
    simp only [Bool.and_eq_true, Bool.not_eq_true', beq_eq_false_iff_ne, ne_eq, Bool.and_eq_false_iff]
    refine ⟨hij, hj1, ?_⟩
    by_cases h1 : j + 1 = i
    · refine Or.inr ?_
      rw [wv_cat, wok1_spec hk h1 hj]
      decide
    · exact Or.inl h1

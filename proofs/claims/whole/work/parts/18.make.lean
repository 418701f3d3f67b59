/-! MAKING: constructors. All numbers are 0 while the system is made; the shape grows, and ad with it. -/
def wz : wSt := (fun _ _ => 0, fun _ _ => 0)
def wWf (S : List wSh) : Prop := ∀ (c : Nat) (q : wSh), S[c]? = some q → ∀ (j : Nat) (z : Nat × Nat), q.2.2[j]? = some z → z.1 = 2 → z.2 < S.length
/-- a value that knows nothing of the cells from n on -/
def wRf (n : Nat) (v : Value) : Prop := match v with
  | .ref k => k < n ∨ 99999 ≤ k
  | _ => True
def wRl (n : Nat) (ls : List (Option Value)) (st : List Value) : Prop := (∀ (i : Nat) (v : Value), ls[i]? = some (some v) → wRf n v) ∧ ∀ v ∈ st, wRf n v
theorem wv_ag {n : Nat} {ad ad2 : Nat → Nat} (ha : ∀ k, (k < n ∨ 99999 ≤ k) → ad2 k = ad k) {v : Value} (hv : wRf n v) : wv ad2 v = wv ad v := by
  cases v with
  | ref k => exact congrArg Value.ref (ha k hv)
  | _ => rfl
theorem wW_ag {n : Nat} {ad ad2 : Nat → Nat} {dA : Nat → ClassId} {S : List wSh} {h : wSt} (hw : wWf S) (hn : S.length = n) (ha : ∀ k, (k < n ∨ 99999 ≤ k) → ad2 k = ad k) : wW ad2 dA S h = wW ad dA S h := by
  apply List.ext_getElem?
  intro i
  rw [wW, wW, List.getElem?_mapIdx, List.getElem?_mapIdx]
  cases hi : S[i]? with
  | none => rfl
  | some q =>
    have hl : i < n := by rw [← hn]; exact (List.getElem?_eq_some_iff.mp hi).1
    have hq := hw i q hi
    have e1 : ad2 i = ad i := ha i (Or.inl hl)
    have e2 : wrf ad2 q.2.2 = wrf ad q.2.2 := by
      funext j
      unfold wrf
      cases hj : q.2.2[j]? with
      | none => rfl
      | some z =>
        show (if z.1 = 2 then some (ad2 z.2) else none) = (if z.1 = 2 then some (ad z.2) else none)
        by_cases hz : z.1 = 2
        · rw [if_pos hz, if_pos hz, ha z.2 (Or.inl (by rw [← hn]; exact hq j z hj hz))]
        · rw [if_neg hz, if_neg hz]
    have e3 : q.2.2.mapIdx (fun j z => wf ad2 h i j z) = q.2.2.mapIdx (fun j z => wf ad h i j z) := by
      apply List.ext_getElem?
      intro j
      rw [List.getElem?_mapIdx, List.getElem?_mapIdx]
      cases hj : q.2.2[j]? with
      | none => rfl
      | some z =>
        show some (wf ad2 h i j z) = some (wf ad h i j z)
        unfold wf
        by_cases hz : z.1 = 2
        · rw [ha z.2 (Or.inl (by rw [← hn]; exact hq j z hj hz))]
        · simp [hz]
    show some (ad2 i, we ad2 dA h i q) = some (ad i, we ad dA h i q)
    unfold we
    rw [e1, e2, e3]
theorem wL_ag {n nL : Nat} {ad ad2 : Nat → Nat} {ls : List (Option Value)} {arr : Array Slot} (ha : ∀ k, (k < n ∨ 99999 ≤ k) → ad2 k = ad k) (hl : ∀ (i : Nat) (v : Value), ls[i]? = some (some v) → wRf n v) (h : wL ad nL ls arr) : wL ad2 nL ls arr :=
  ⟨h.1, h.2.1, fun i v hv => by rw [wv_ag ha (hl i v hv)]; exact h.2.2 i v hv⟩
theorem wst_ag {n : Nat} {ad ad2 : Nat → Nat} {st : List Value} (ha : ∀ k, (k < n ∨ 99999 ≤ k) → ad2 k = ad k) (hl : ∀ v ∈ st, wRf n v) : st.map (wv ad2) = st.map (wv ad) := List.map_congr_left (fun v hv => wv_ag ha (hl v hv))
theorem wStr_ag {n : Nat} {ad ad2 : Nat → Nat} {b0 : Nat} {s : State} (ha : ∀ k, (k < n ∨ 99999 ≤ k) → ad2 k = ad k) (h : wStr ad b0 s) : wStr ad2 b0 s := by
  have e1 : (fun i => ad2 (100000 + i)) = fun i => ad (100000 + i) := funext fun i => ha _ (Or.inr (by omega))
  have e2 : (fun i => ad2 (200000 + i)) = fun i => ad (200000 + i) := funext fun i => ha _ (Or.inr (by omega))
  have e3 : ad2 300000 = ad 300000 := ha _ (Or.inr (by omega))
  have e4 : ad2 300001 = ad 300001 := ha _ (Or.inr (by omega))
  have e5 : wv ad2 (wsv ad2) = wv ad (wsv ad) := by
    unfold wsv
    rw [e4]
    by_cases hz : ad 300001 = 0
    · rw [if_pos hz]; rfl
    · rw [if_neg hz]
      show Value.ref (ad2 300000) = Value.ref (ad 300000)
      rw [e3]
  obtain ⟨h1, h2, h3, h4, h5⟩ := h
  refine ⟨?_, fun q hq => ?_, h3, ?_, h5⟩
  · rw [e1, e2]; exact h1
  · rw [ha _ (Or.inr (by omega))]; exact h2 q hq
  · rw [e5]; exact h4
theorem wCx_ag {p : Program} {s : State} {m : MethodId} {args : Array Value} {meth : Method} {c : Code} {own : String} {cc : ByteArray} {nL : Nat} {D : va_G} {dA : Nat → ClassId} {b0 n : Nat} {ad ad2 : Nat → Nat} (ha : ∀ k, (k < n ∨ 99999 ≤ k) → ad2 k = ad k) (X : wCx p s m args meth c own cc nL D dA b0 ad) : wCx p s m args meth c own cc nL D dA b0 ad2 :=
  ⟨X.1, X.2.1, X.2.2.1, X.2.2.2.1, X.2.2.2.2.1, X.2.2.2.2.2.1, X.2.2.2.2.2.2.1, X.2.2.2.2.2.2.2.1, wStr_ag ha X.2.2.2.2.2.2.2.2⟩
theorem wW_app {ad : Nat → Nat} {dA : Nat → ClassId} {S : List wSh} {h : wSt} {q : wSh} : wW ad dA (S ++ [q]) h = wW ad dA S h ++ [(ad S.length, we ad dA h S.length q)] := by
  simp [wW, List.mapIdx_append]
theorem wup_ag {ad : Nat → Nat} {n a : Nat} (hn : n < 99999) : ∀ k, (k < n ∨ 99999 ≤ k) → va_up ad n a k = ad k := by
  intro k hk
  unfold va_up
  rw [if_neg (by omega)]
theorem wup_self {ad : Nat → Nat} {n a : Nat} : va_up ad n a n = a := by
  unfold va_up
  rw [if_pos rfl]
/-- what a row of references of the world becomes -/
theorem wW_setR {ad : Nat → Nat} {dA : Nat → ClassId} {S : List wSh} {h : wSt} {k : Nat} {q : wSh} {e : va_E} (hk : k < S.length) (he : we ad dA h k q = e) : (wW ad dA S h).set k (ad k, e) = wW ad dA (S.set k q) h := by
  apply List.ext_getElem?
  intro i
  by_cases hi : i = k
  · subst hi
    rw [List.getElem?_set_self (by rw [wW, List.length_mapIdx]; exact hk), wW, List.getElem?_mapIdx, List.getElem?_set_self hk, ← he]
    rfl
  · rw [List.getElem?_set_ne (Ne.symm hi), wW, wW, List.getElem?_mapIdx, List.getElem?_mapIdx, List.getElem?_set_ne (Ne.symm hi)]
theorem wf_setR {ad : Nat → Nat} {h : wSt} {c j r : Nat} {fs : List (Nat × Nat)} (hj : j < fs.length) : (fs.mapIdx (fun j z => wf ad h c j z)).set j (.ref (ad r)) = (fs.set j (2, r)).mapIdx (fun j z => wf ad h c j z) := by
  apply List.ext_getElem?
  intro i
  by_cases hi : i = j
  · subst hi
    rw [List.getElem?_set_self (by rw [List.length_mapIdx]; exact hj), List.getElem?_mapIdx, List.getElem?_set_self hj]
    rfl
  · rw [List.getElem?_set_ne (Ne.symm hi), List.getElem?_mapIdx, List.getElem?_mapIdx, List.getElem?_set_ne (Ne.symm hi)]
theorem wrf_set {ad : Nat → Nat} {j r : Nat} {fs : List (Nat × Nat)} (hj : j < fs.length) : va_up (wrf ad fs) j (some (ad r)) = wrf ad (fs.set j (2, r)) := by
  funext i
  unfold va_up wrf
  by_cases hi : i = j
  · subst hi
    rw [if_pos rfl, List.getElem?_set_self hj]
    rfl
  · rw [if_neg hi, List.getElem?_set_ne (Ne.symm hi)]
/-- how a shape grows: cells ahead of n stay but k -/
def wG (S S2 : List wSh) (n n2 k : Nat) : Prop := S2.length = n2 ∧ n ≤ n2 ∧ wWf S2 ∧ ∀ c, c < n → c ≠ k → S2[c]? = S[c]?
theorem wWf_app {S : List wSh} {t N : Nat} {fs : List (Nat × Nat)} (h : wWf S) (hf : ∀ z ∈ fs, z.1 ≠ 2) : wWf (S ++ [(t, N, fs)]) := by
  intro c q hq j z hz h2
  rw [List.length_append]
  by_cases hl : c < S.length
  · rw [List.getElem?_append_left hl] at hq
    have := h c q hq j z hz h2
    omega
  · rw [List.getElem?_append_right (by omega)] at hq
    have hc : c - S.length < 1 := (List.getElem?_eq_some_iff.mp hq).1
    rw [show c - S.length = 0 by omega] at hq
    cases hq
    exact absurd h2 (hf z (List.mem_of_getElem? hz))
theorem wWf_set {S : List wSh} {k t N j r : Nat} {fs : List (Nat × Nat)} (h : wWf S) (hk : S[k]? = some (t, N, fs)) (hr : r < S.length) : wWf (S.set k (t, N, fs.set j (2, r))) := by
  intro c q hq i z hz h2
  rw [List.length_set]
  have hl : k < S.length := (List.getElem?_eq_some_iff.mp hk).1
  by_cases hc : c = k
  · subst hc
    rw [List.getElem?_set_self hl] at hq
    cases hq
    by_cases hi : i = j
    · subst hi
      by_cases hj : i < fs.length
      · have hz : (fs.set i (2, r))[i]? = some z := hz
        rw [List.getElem?_set_self hj] at hz
        cases hz
        exact hr
      · have hz : (fs.set i (2, r))[i]? = some z := hz
        rw [List.getElem?_eq_none (by rw [List.length_set]; omega)] at hz
        cases hz
    · have hz : (fs.set j (2, r))[i]? = some z := hz
      rw [List.getElem?_set_ne (Ne.symm hi)] at hz
      exact h c _ hk i z hz h2
  · rw [List.getElem?_set_ne (Ne.symm hc)] at hq
    exact h c q hq i z hz h2
theorem wG_rf {S : List wSh} {n k : Nat} (hn : S.length = n) (hw : wWf S) : wG S S n n k := ⟨hn, Nat.le_refl _, hw, fun _ _ _ => rfl⟩
theorem wG_app {S S2 : List wSh} {n n2 k t N : Nat} {fs : List (Nat × Nat)} (h : wG S S2 n n2 k) (hf : ∀ z ∈ fs, z.1 ≠ 2) : wG S (S2 ++ [(t, N, fs)]) n (n2 + 1) k := by
  obtain ⟨h1, h2, h3, h4⟩ := h
  refine ⟨by rw [List.length_append, h1]; rfl, by omega, wWf_app h3 hf, fun c hc hk => ?_⟩
  rw [List.getElem?_append_left (by omega)]
  exact h4 c hc hk
theorem wG_set {S S2 : List wSh} {n n2 k k2 t N j r : Nat} {fs : List (Nat × Nat)} (h : wG S S2 n n2 k) (hk : S2[k2]? = some (t, N, fs)) (hr : r < n2) (hk2 : k2 = k ∨ n ≤ k2) : wG S (S2.set k2 (t, N, fs.set j (2, r))) n n2 k := by
  obtain ⟨h1, h2, h3, h4⟩ := h
  refine ⟨by rw [List.length_set, h1], h2, wWf_set h3 hk (by omega), fun c hc hck => ?_⟩
  rw [List.getElem?_set_ne (by omega)]
  exact h4 c hc hck
theorem wG_call {S S2 S3 : List wSh} {n n2 n3 k k2 : Nat} (h : wG S S2 n n2 k) (h2 : wG S2 S3 n2 n3 k2) (hk2 : n ≤ k2) : wG S S3 n n3 k := by
  obtain ⟨a1, a2, a3, a4⟩ := h
  obtain ⟨b1, b2, b3, b4⟩ := h2
  refine ⟨b1, by omega, b3, fun c hc hk => ?_⟩
  rw [b4 c (by omega) (by omega)]
  exact a4 c hc hk
theorem w_apk {S : List wSh} {k : Nat} {q x : wSh} (hk : S[k]? = some q) : (S ++ [x])[k]? = some q := by
  rw [List.getElem?_append_left (List.getElem?_eq_some_iff.mp hk).1]
  exact hk
theorem w_apn {S : List wSh} {n : Nat} {x : wSh} (hn : S.length = n) : (S ++ [x])[n]? = some x := by
  rw [List.getElem?_append_right (by omega), hn, Nat.sub_self]
  rfl
theorem w_stk {S : List wSh} {k : Nat} {q x : wSh} (hk : S[k]? = some q) : (S.set k x)[k]? = some x := List.getElem?_set_self (List.getElem?_eq_some_iff.mp hk).1
theorem w_sto {S : List wSh} {k k2 : Nat} {q x : wSh} (h : k2 ≠ k) (hk : S[k]? = some q) : (S.set k2 x)[k]? = some q := by
  rw [List.getElem?_set_ne h]; exact hk
def wQi (D : va_G) (dA : Nat → ClassId) (b0 : Nat) (ad : Nat → Nat) (n : Nat) (S2 : List wSh) : Array Value → State → Outcome → State → Prop := fun _ st oc t => (∃ ad2 : Nat → Nat, (∀ k, (k < n ∨ 99999 ≤ k) → ad2 k = ad k) ∧ oc = .returned none ∧ va_P D vwCl (wW ad2 dA S2 wz) t.heap ∧ va_D (wA b0) (wW ad2 dA S2 wz)) ∧ va_F (wA b0) st t
def wRi (d mc ms : Nat) : Room := { frames := d, cells := mc, slots := ms, locals := 64 * d }
def wCi (l : Launch) (y : MethodName) (cc : ByteArray) (nL d mc ms : Nat) (S : List wSh) (n : Nat) (av : List Value) (S2 : List wSh) : Prop :=
  ∀ (D : va_G) (dA : Nat → ClassId) (b0 : Nat) (ad : Nat → Nat), Met l y (Cond.code y cc nL none :: wT0) (wRi d mc ms) (va_Pc (av.map (wv ad)) (wP D dA b0 ad S wz)) (wQi D dA b0 ad n S2) mc ms (wA b0)
theorem w_ao {t : Nat} {C : String} {s : State} (ht : (t = 4 ∧ C = "WornSkin$Bookmark") ∨ (t = 5 ∧ C = "WornSkin$Shelf")) (h : wNw s) : va_AO C s := by
  rcases ht with ⟨-, rfl⟩ | ⟨-, rfl⟩
  · exact h.2.1
  · exact h.2.2
section WN
variable {p : Program} {l : Launch} {e : Env} {R : Room} {s : State} {m : MethodId} {args : Array Value} {below : List Frame} {meth : Method} {c : Code} {ck cn : Nat} {Q : State → Prop} {own : String} {cc : ByteArray} {nL : Nat} {D : va_G} {dA : Nat → ClassId} {b0 : Nat} {ad : Nat → Nat} {S : List wSh} {pc q n : Nat} {ls : List (Option Value)} {st : List Value}
theorem w_newaI (X : wCx p s m args meth c own cc nL D dA b0 ad) {N : Nat} {x : Int32} (hd : decode cc pc = .ok (.newarray .int, 2)) (hp : pc + 2 = q) (h1 : Cond.arrayClass .int ∈ wT0) (hx : ¬ x < 0) (hN : x.toNatClampNeg = N) (hby : N * componentBytes .int ≤ 536870912) (hw : wWf S) (hn : S.length = n) (hn9 : n < 99999) (hl : wRl n ls st) (hR : ck + 1 ≤ R.cells ∧ cn + N ≤ R.slots)
    (k : ∀ ad2 : Nat → Nat, (∀ k, (k < n ∨ 99999 ≤ k) → ad2 k = ad k) → wCx p s m args meth c own cc nL D dA b0 ad2 → wM p l e R s m args below meth c (ck + 1) (cn + N) Q nL D dA b0 ad2 (S ++ [(0, N, [])]) q ls (.ref n :: st) wz) : wM p l e R s m args below meth c ck cn Q nL D dA b0 ad S pc ls (.int x :: st) wz := by
  subst hp
  intro H locs arr hP hD hS hL
  refine va_newa (atype := .int) (ty := .int) (a0 := (N, .inl (wz.1 n))) X.1 X.2.1 (X.2.2.2.2.1 _ h1) rfl X.2.2.2.2.2.1 hP hD hS (fun q hq => Nat.le_trans X.2.2.2.2.2.2.1 hq) (fun _ => rfl) hx hN hby hR.1 hR.2 hd (fun a cA H1 hK1 hP1 hD1 hS1 => ?_)
  have hcA : cA = dA 0 := Option.some.inj ((hK1.2 6 (cA, .int) rfl).2.symm.trans (X.2.2.2.2.2.1.2 0 (dA 0, .int) rfl).2)
  subst hcA
  have ha := wup_ag (ad := ad) (n := n) (a := a) hn9
  have e1 : wW (va_up ad n a) dA (S ++ [(0, N, [])]) wz = wW ad dA S wz ++ [(a, .inl (dA 0, N, .inl (wz.1 n)))] := by
    rw [wW_app, wW_ag hw hn ha, hn, wup_self, we_arr (by omega)]
  have := k (va_up ad n a) ha (wCx_ag ha X) H1 locs arr (by rw [e1]; exact hP1) (by rw [e1]; exact hD1) hS1 (wL_ag ha hl.1 hL)
  have e2 : (Value.ref n :: st).map (wv (va_up ad n a)) = .ref a :: st.map (wv ad) := by
    rw [List.map_cons, wst_ag ha hl.2]
    show Value.ref (va_up ad n a n) :: _ = _
    rw [wup_self]
  rw [e2] at this
  exact this
theorem w_newaB (X : wCx p s m args meth c own cc nL D dA b0 ad) {N : Nat} {x : Int32} (hd : decode cc pc = .ok (.newarray .byte, 2)) (hp : pc + 2 = q) (h1 : Cond.arrayClass .byte ∈ wT0) (hx : ¬ x < 0) (hN : x.toNatClampNeg = N) (hby : N * componentBytes .byte ≤ 536870912) (hw : wWf S) (hn : S.length = n) (hn9 : n < 99999) (hl : wRl n ls st) (hR : ck + 1 ≤ R.cells ∧ cn + N ≤ R.slots)
    (k : ∀ ad2 : Nat → Nat, (∀ k, (k < n ∨ 99999 ≤ k) → ad2 k = ad k) → wCx p s m args meth c own cc nL D dA b0 ad2 → wM p l e R s m args below meth c (ck + 1) (cn + N) Q nL D dA b0 ad2 (S ++ [(1, N, [])]) q ls (.ref n :: st) wz) : wM p l e R s m args below meth c ck cn Q nL D dA b0 ad S pc ls (.int x :: st) wz := by
  subst hp
  intro H locs arr hP hD hS hL
  refine va_newa (atype := .byte) (ty := .byte) (a0 := (N, .inl (wz.1 n))) X.1 X.2.1 (X.2.2.2.2.1 _ h1) rfl X.2.2.2.2.2.1 hP hD hS (fun q hq => Nat.le_trans X.2.2.2.2.2.2.1 hq) (fun _ => rfl) hx hN hby hR.1 hR.2 hd (fun a cA H1 hK1 hP1 hD1 hS1 => ?_)
  have hcA : cA = dA 1 := Option.some.inj ((hK1.2 6 (cA, .byte) rfl).2.symm.trans (X.2.2.2.2.2.1.2 1 (dA 1, .byte) rfl).2)
  subst hcA
  have ha := wup_ag (ad := ad) (n := n) (a := a) hn9
  have e1 : wW (va_up ad n a) dA (S ++ [(1, N, [])]) wz = wW ad dA S wz ++ [(a, .inl (dA 1, N, .inl (wz.1 n)))] := by
    rw [wW_app, wW_ag hw hn ha, hn, wup_self, we_arr (by omega)]
  have := k (va_up ad n a) ha (wCx_ag ha X) H1 locs arr (by rw [e1]; exact hP1) (by rw [e1]; exact hD1) hS1 (wL_ag ha hl.1 hL)
  have e2 : (Value.ref n :: st).map (wv (va_up ad n a)) = .ref a :: st.map (wv ad) := by
    rw [List.map_cons, wst_ag ha hl.2]
    show Value.ref (va_up ad n a n) :: _ = _
    rw [wup_self]
  rw [e2] at this
  exact this
theorem w_newaZ (X : wCx p s m args meth c own cc nL D dA b0 ad) {N : Nat} {x : Int32} (hd : decode cc pc = .ok (.newarray .boolean, 2)) (hp : pc + 2 = q) (h1 : Cond.arrayClass .boolean ∈ wT0) (hx : ¬ x < 0) (hN : x.toNatClampNeg = N) (hby : N * componentBytes .boolean ≤ 536870912) (hw : wWf S) (hn : S.length = n) (hn9 : n < 99999) (hl : wRl n ls st) (hR : ck + 1 ≤ R.cells ∧ cn + N ≤ R.slots)
    (k : ∀ ad2 : Nat → Nat, (∀ k, (k < n ∨ 99999 ≤ k) → ad2 k = ad k) → wCx p s m args meth c own cc nL D dA b0 ad2 → wM p l e R s m args below meth c (ck + 1) (cn + N) Q nL D dA b0 ad2 (S ++ [(2, N, [])]) q ls (.ref n :: st) wz) : wM p l e R s m args below meth c ck cn Q nL D dA b0 ad S pc ls (.int x :: st) wz := by
  subst hp
  intro H locs arr hP hD hS hL
  refine va_newa (atype := .boolean) (ty := .boolean) (a0 := (N, .inl (wz.1 n))) X.1 X.2.1 (X.2.2.2.2.1 _ h1) rfl X.2.2.2.2.2.1 hP hD hS (fun q hq => Nat.le_trans X.2.2.2.2.2.2.1 hq) (fun _ => rfl) hx hN hby hR.1 hR.2 hd (fun a cA H1 hK1 hP1 hD1 hS1 => ?_)
  have hcA : cA = dA 2 := Option.some.inj ((hK1.2 6 (cA, .boolean) rfl).2.symm.trans (X.2.2.2.2.2.1.2 2 (dA 2, .boolean) rfl).2)
  subst hcA
  have ha := wup_ag (ad := ad) (n := n) (a := a) hn9
  have e1 : wW (va_up ad n a) dA (S ++ [(2, N, [])]) wz = wW ad dA S wz ++ [(a, .inl (dA 2, N, .inl (wz.1 n)))] := by
    rw [wW_app, wW_ag hw hn ha, hn, wup_self, we_arr (by omega)]
  have := k (va_up ad n a) ha (wCx_ag ha X) H1 locs arr (by rw [e1]; exact hP1) (by rw [e1]; exact hD1) hS1 (wL_ag ha hl.1 hL)
  have e2 : (Value.ref n :: st).map (wv (va_up ad n a)) = .ref a :: st.map (wv ad) := by
    rw [List.map_cons, wst_ag ha hl.2]
    show Value.ref (va_up ad n a n) :: _ = _
    rw [wup_self]
  rw [e2] at this
  exact this
theorem w_newaJ (X : wCx p s m args meth c own cc nL D dA b0 ad) {N : Nat} {x : Int32} (hd : decode cc pc = .ok (.newarray .long, 2)) (hp : pc + 2 = q) (h1 : Cond.arrayClass .long ∈ wT0) (hx : ¬ x < 0) (hN : x.toNatClampNeg = N) (hby : N * componentBytes .long ≤ 536870912) (hw : wWf S) (hn : S.length = n) (hn9 : n < 99999) (hl : wRl n ls st) (hR : ck + 1 ≤ R.cells ∧ cn + N ≤ R.slots)
    (k : ∀ ad2 : Nat → Nat, (∀ k, (k < n ∨ 99999 ≤ k) → ad2 k = ad k) → wCx p s m args meth c own cc nL D dA b0 ad2 → wM p l e R s m args below meth c (ck + 1) (cn + N) Q nL D dA b0 ad2 (S ++ [(3, N, [])]) q ls (.ref n :: st) wz) : wM p l e R s m args below meth c ck cn Q nL D dA b0 ad S pc ls (.int x :: st) wz := by
  subst hp
  intro H locs arr hP hD hS hL
  refine va_newa (atype := .long) (ty := .long) (a0 := (N, .inr (.inl (wz.2 n)))) X.1 X.2.1 (X.2.2.2.2.1 _ h1) rfl X.2.2.2.2.2.1 hP hD hS (fun q hq => Nat.le_trans X.2.2.2.2.2.2.1 hq) (fun _ => rfl) hx hN hby hR.1 hR.2 hd (fun a cA H1 hK1 hP1 hD1 hS1 => ?_)
  have hcA : cA = dA 3 := Option.some.inj ((hK1.2 6 (cA, .long) rfl).2.symm.trans (X.2.2.2.2.2.1.2 3 (dA 3, .long) rfl).2)
  subst hcA
  have ha := wup_ag (ad := ad) (n := n) (a := a) hn9
  have e1 : wW (va_up ad n a) dA (S ++ [(3, N, [])]) wz = wW ad dA S wz ++ [(a, .inl (dA 3, N, .inr (.inl (wz.2 n))))] := by
    rw [wW_app, wW_ag hw hn ha, hn, wup_self, we_arrJ]
  have := k (va_up ad n a) ha (wCx_ag ha X) H1 locs arr (by rw [e1]; exact hP1) (by rw [e1]; exact hD1) hS1 (wL_ag ha hl.1 hL)
  have e2 : (Value.ref n :: st).map (wv (va_up ad n a)) = .ref a :: st.map (wv ad) := by
    rw [List.map_cons, wst_ag ha hl.2]
    show Value.ref (va_up ad n a n) :: _ = _
    rw [wup_self]
  rw [e2] at this
  exact this

theorem w_newo (X : wCx p s m args meth c own cc nL D dA b0 ad) {idx ci N : Nat} {C : String} {T : u_T} {ty : Nat → FieldType} {fs : List (Nat × Nat)} (hd : decode cc pc = .ok (.new idx, 3)) (hp : pc + 3 = q) (hc : vwCl[ci]? = some (C, T, N)) (hin : ∀ w ∈ u_ws C T N, w ∈ wT0) (hty : ∀ k, k < N → parseFieldDescriptor (T k).2.2.1 = some (ty k)) (h1 : Cond.classLink own idx C ∈ wT0) (h2 : Cond.instantiable C N ∈ wT0) (h3 : Cond.initialized C ∈ wT0) (hfs : ∀ j, j < N → defaultValue (ty j) = vp_V (fs.mapIdx (fun j z => wf (fun _ => 0) wz 0 j z)) j) (hf2 : ∀ z ∈ fs, z.1 ≠ 2) (hw : wWf S) (hn : S.length = n) (hn9 : n < 99999) (hl : wRl n ls st) (hR : ck + 1 ≤ R.cells ∧ cn + N ≤ R.slots)
    (k : ∀ ad2 : Nat → Nat, (∀ k, (k < n ∨ 99999 ≤ k) → ad2 k = ad k) → wCx p s m args meth c own cc nL D dA b0 ad2 → wM p l e R s m args below meth c (ck + 1) (cn + N) Q nL D dA b0 ad2 (S ++ [(ci + 6, 0, fs)]) q ls (.ref n :: st) wz) : wM p l e R s m args below meth c ck cn Q nL D dA b0 ad S pc ls st wz := by
  subst hp
  intro H locs arr hP hD hS hL
  have ef : ∀ (ad : Nat → Nat) (c0 : Nat), fs.mapIdx (fun j z => wf (fun _ => 0) wz 0 j z) = fs.mapIdx (fun j z => wf ad wz c0 j z) := by
    intro ad c0
    apply List.ext_getElem?
    intro i
    rw [List.getElem?_mapIdx, List.getElem?_mapIdx]
    cases hi : fs[i]? with
    | none => rfl
    | some z =>
      show some (wf _ wz 0 i z) = some (wf ad wz c0 i z)
      unfold wf
      simp [hf2 z (List.mem_of_getElem? hi), wz]
  refine va_new X.1 X.2.1 X.2.2.2.2.1 hin ty hty X.2.2.2.1 (X.2.2.2.2.1 _ h1) (X.2.2.2.2.1 _ h2) (X.2.2.2.2.1 _ h3) X.2.2.2.2.2.1 hP hD hS (fun q hq => Nat.le_trans X.2.2.2.2.2.2.1 hq) hc hfs hR.1 hR.2 hd (fun a H1 hP1 hD1 hS1 => ?_)
  have ha := wup_ag (ad := ad) (n := n) (a := a) hn9
  have e1 : wW (va_up ad n a) dA (S ++ [(ci + 6, 0, fs)]) wz = wW ad dA S wz ++ [(a, .inr (ci, fs.mapIdx (fun j z => wf (fun _ => 0) wz 0 j z)))] := by
    rw [wW_app, wW_ag hw hn ha, hn, wup_self, we_obj, ← ef]
  have := k (va_up ad n a) ha (wCx_ag ha X) H1 locs arr (by rw [e1]; exact hP1) (by rw [e1]; exact hD1) hS1 (wL_ag ha hl.1 hL)
  have e2 : (Value.ref n :: st).map (wv (va_up ad n a)) = .ref a :: st.map (wv ad) := by
    rw [List.map_cons, wst_ag ha hl.2]
    show Value.ref (va_up ad n a n) :: _ = _
    rw [wup_self]
  rw [e2] at this
  exact this
theorem w_newq (X : wCx p s m args meth c own cc nL D dA b0 ad) {idx t N : Nat} {C : String} {x : Int32} (ht : (t = 4 ∧ C = "WornSkin$Bookmark") ∨ (t = 5 ∧ C = "WornSkin$Shelf")) (hd : decode cc pc = .ok (.anewarray idx, 3)) (hp : pc + 3 = q) (h1 : Cond.classLink own idx C ∈ wT0) (hx : ¬ x < 0) (hN : x.toNatClampNeg = N) (hby : N * 4 ≤ 536870912) (hw : wWf S) (hn : S.length = n) (hn9 : n < 99999) (hl : wRl n ls st) (hR : ck + 1 ≤ R.cells ∧ cn + N ≤ R.slots)
    (k : ∀ ad2 : Nat → Nat, (∀ k, (k < n ∨ 99999 ≤ k) → ad2 k = ad k) → wCx p s m args meth c own cc nL D dA b0 ad2 → wM p l e R s m args below meth c (ck + 1) (cn + N) Q nL D dA b0 ad2 (S ++ [(t, N, List.replicate N (3, 0))]) q ls (.ref n :: st) wz) : wM p l e R s m args below meth c ck cn Q nL D dA b0 ad S pc ls (.int x :: st) wz := by
  subst hp
  intro H locs arr hP hD hS hL
  refine va_newq X.1 X.2.1 X.2.2.2.1 (X.2.2.2.2.1 _ h1) (w_ao ht X.2.2.2.2.2.2.2.2.2.2.2.2) X.2.2.2.2.2.1 hP hD hS (fun q hq => Nat.le_trans X.2.2.2.2.2.2.1 hq) hx hN hby hR.1 hR.2 hd (fun a cA H1 hK1 hP1 hD1 hS1 => ?_)
  have hcA : cA = dA t := by
    have k6 := (hK1.2 6 (cA, .object C) rfl).2
    obtain ⟨kA, comp, q1, q2, q3, q4⟩ := k6
    rcases ht with ⟨rfl, rfl⟩ | ⟨rfl, rfl⟩
    · obtain ⟨kB, comp2, r1, r2, r3, r4⟩ := (X.2.2.2.2.2.1.2 4 (dA 4, .object "WornSkin$Bookmark") rfl).2
      exact Option.some.inj (q4.symm.trans r4)
    · obtain ⟨kB, comp2, r1, r2, r3, r4⟩ := (X.2.2.2.2.2.1.2 5 (dA 5, .object "WornSkin$Shelf") rfl).2
      exact Option.some.inj (q4.symm.trans r4)
  subst hcA
  have ha := wup_ag (ad := ad) (n := n) (a := a) hn9
  have ht2 : 3 < t ∧ t < 6 := by omega
  have ef : wrf (va_up ad n a) (List.replicate N (3, 0)) = fun _ => none := by
    funext j
    unfold wrf
    cases hj : (List.replicate N ((3, 0) : Nat × Nat))[j]? with
    | none => rfl
    | some z =>
      have := List.eq_of_mem_replicate (List.mem_of_getElem? hj)
      rw [this]
      rfl
  have e1 : wW (va_up ad n a) dA (S ++ [(t, N, List.replicate N (3, 0))]) wz = wW ad dA S wz ++ [(a, .inl (dA t, N, .inr (.inr (.inr (.inr (fun _ => none))))))] := by
    rw [wW_app, wW_ag hw hn ha, hn, wup_self, we_arrQ ht2.1 ht2.2, ef]
  have := k (va_up ad n a) ha (wCx_ag ha X) H1 locs arr (by rw [e1]; exact hP1) (by rw [e1]; exact hD1) hS1 (wL_ag ha hl.1 hL)
  have e2 : (Value.ref n :: st).map (wv (va_up ad n a)) = .ref a :: st.map (wv ad) := by
    rw [List.map_cons, wst_ag ha hl.2]
    show Value.ref (va_up ad n a n) :: _ = _
    rw [wup_self]
  rw [e2] at this
  exact this
theorem w_putR (X : wCx p s m args meth c own cc nL D dA b0 ad) {idx ci j k0 z1 N r : Nat} {C : String} {T : u_T} {ty0 : Nat → FieldType} {ty : FieldType} {fs : List (Nat × Nat)} (hd : decode cc pc = .ok (.putfield idx, 3)) (hp : pc + 3 = q) (hc : vwCl[ci]? = some (C, T, N)) (hin : ∀ w ∈ u_ws C T N, w ∈ wT0) (hty : ∀ k, k < N → parseFieldDescriptor (T k).2.2.1 = some (ty0 k)) (hnm : ∀ a, a < N → ∀ b, b < N → a ≠ b → (T a).2.1 ≠ (T b).2.1) (hj : j < N) (hlk : Cond.fieldLink own idx (T j).1 (T j).2.1 (T j).2.2.1 ∈ wT0) (hfin : (T j).2.2.2 = true) (hi : meth.name = "<init>") (hdc : (T j).1 = own) (hpd : parseFieldDescriptor (T j).2.2.1 = some ty) (hnr : ∀ a, narrow ty (.ref a) = .ref a) (hft : ∀ a, fits ty (.ref a) = true) (hS0 : S[k0]? = some (ci + 6, z1, fs)) (hjf : j < fs.length)
    (k : wM p l e R s m args below meth c ck cn Q nL D dA b0 ad (S.set k0 (ci + 6, z1, fs.set j (2, r))) q ls st wz) : wM p l e R s m args below meth c ck cn Q nL D dA b0 ad S pc ls (.ref r :: .ref k0 :: st) wz := by
  subst hp
  intro H locs arr hP hD hS hL
  have he := wW_at (ad := ad) (dA := dA) (h := wz) hS0
  rw [we_obj] at he
  refine va_putF X.1 X.2.1 X.2.2.2.2.1 hin ty0 hty hnm X.2.2.2.1 X.2.2.2.2.2.1 hP hD hS k0 he hc j hj (X.2.2.2.2.1 _ hlk) (fun _ h9 => h9) hfin hi hdc hpd (hnr _) (hft _) (by rw [List.length_mapIdx]; exact hjf) hd (fun H1 locs1 hP1 hD1 hS1 => ?_)
  have e1 : (wW ad dA S wz).set k0 (ad k0, .inr (ci, (fs.mapIdx (fun j z => wf ad wz k0 j z)).set j (.ref (ad r)))) = wW ad dA (S.set k0 (ci + 6, z1, fs.set j (2, r))) wz := wW_setR (List.getElem?_eq_some_iff.mp hS0).1 (by rw [we_obj, wf_setR hjf])
  exact k H1 locs1 arr (e1 ▸ hP1) (e1 ▸ hD1) hS1 hL
theorem w_aastq (X : wCx p s m args meth c own cc nL D dA b0 ad) {t ci k0 N j r z1 N2 : Nat} {C : String} {T : u_T} {fs fs2 : List (Nat × Nat)} {i : Int32} (hd : decode cc pc = .ok (.aastore, 1)) (hp : pc + 1 = q) (hc : vwCl[ci]? = some (C, T, N2)) (ht : (wTy dA)[t]? = some (dA t, .object C)) (ht2 : 3 < t ∧ t < 6) (hS0 : S[k0]? = some (t, N, fs)) (hr : S[r]? = some (ci + 6, z1, fs2)) (hj : i.toNatClampNeg = j) (hin : vp_in i N) (hjf : j < fs.length)
    (k : wM p l e R s m args below meth c ck cn Q nL D dA b0 ad (S.set k0 (t, N, fs.set j (2, r))) q ls st wz) : wM p l e R s m args below meth c ck cn Q nL D dA b0 ad S pc ls (.ref r :: .int i :: .ref k0 :: st) wz := by
  subst hp
  subst hj
  intro H locs arr hP hD hS hL
  have he := wW_at (ad := ad) (dA := dA) (h := wz) hS0
  rw [we_arrQ ht2.1 ht2.2] at he
  have he2 := wW_at (ad := ad) (dA := dA) (h := wz) hr
  rw [we_obj] at he2
  refine va_astq X.1 X.2.1 X.2.2.2.2.2.1 hP hD hS k0 t r ci he ht he2 hc hin hd (fun H1 locs1 hP1 hD1 hS1 => ?_)
  have e1 : (wW ad dA S wz).set k0 (ad k0, .inl (dA t, N, .inr (.inr (.inr (.inr (va_up (wrf ad fs) i.toNatClampNeg (some (ad r)))))))) = wW ad dA (S.set k0 (t, N, fs.set i.toNatClampNeg (2, r))) wz := wW_setR (List.getElem?_eq_some_iff.mp hS0).1 (by rw [we_arrQ ht2.1 ht2.2, wrf_set hjf])
  exact k H1 locs1 arr (e1 ▸ hP1) (e1 ▸ hD1) hS1 hL
theorem w_obj (X : wCx p s m args meth c own cc nL D dA b0 ad) {idx a : Nat} (hd : decode cc pc = .ok (.invokespecial idx, 3)) (hp : pc + 3 = q) (h1 : Cond.methodLink own idx Lib.objectInit ∈ wT0) (h2 : Cond.instanceMethod Lib.objectInit ∈ wT0) (h3 : Cond.code Lib.objectInit ⟨#[0xb1]⟩ 1 none ∈ wT0) (hf : 1 ≤ R.frames) (hlo : (st.map fun v => v.category).sum + 12 ≤ R.locals) {h : wSt} (k : wM p l e R s m args below meth c ck cn Q nL D dA b0 ad S q ls st h) : wM p l e R s m args below meth c ck cn Q nL D dA b0 ad S pc ls (.ref a :: st) h := by
  subst hp
  exact fun H locs arr hP hD hS hL => W.objInit X.1 X.2.1 X.2.2.2.1 (X.2.2.2.2.1 _ h1) (X.2.2.2.2.1 _ h2) (X.2.2.2.2.1 _ h3) rfl (hL.1.trans X.2.2.1.symm) rfl hd hf (by show 2 * 0 + _ + 12 ≤ _; rw [w_cats]; omega) (k H locs arr hP hD hS hL)
theorem w_runI {st0 : List Value} {a : Array Value} {S2 : List wSh} {mc ms : Nat} (X : wCx p s m args meth c own cc nL D dA b0 ad) (hl : wRl n ls st) (hr : ∀ (H : Heap) (locs : List Loc) (arr : Array Slot), va_P D vwCl (wW ad dA S wz) H → va_D (wA b0) (wW ad dA S wz) → va_S (wA b0) s.heap H locs → wL ad nL ls arr → va_Run p l e R s m args below meth c H locs ck cn mc ms (F0 m pc arr (st0.map (wv ad))) (st.map (wv ad)) (wQi D dA b0 ad n S2 a) (wA b0))
    (kk : ∀ ad2 : Nat → Nat, (∀ k, (k < n ∨ 99999 ≤ k) → ad2 k = ad k) → wCx p s m args meth c own cc nL D dA b0 ad2 → wM p l e R s m args below meth c (ck + mc) (cn + ms) Q nL D dA b0 ad2 S2 (pc + 3) ls st wz) : wM p l e R s m args below meth c ck cn Q nL D dA b0 ad S pc ls st0 wz := by
  intro H locs arr hP hD hS hL T hT X2
  obtain ⟨v, st₀, t, T', L, h0, X', hLo, e1, e2, ⟨⟨ad2, ha, hv, hP2, hD2⟩, hz, hk⟩, stp⟩ := hr H locs arr hP hD hS hL T hT X2
  cases hv
  rw [h0] at hz hk
  have hS2 : va_S (wA b0) s.heap T'.heap (locs ++ L) := ⟨Nat.le_trans hS.1 (by rw [e1]; exact hz), fun q h1 h2 => by rw [e1, hk q (Nat.lt_of_lt_of_le h1 hS.1) h2]; exact hS.2.1 q h1 h2, fun q hq => by
    rcases List.mem_append.mp hq with h | h
    · exact hS.2.2 q h
    · exact hLo q h⟩
  obtain ⟨t2, a1, b1⟩ := kk ad2 ha (wCx_ag ha X) T'.heap (locs ++ L) arr (by rw [e1]; exact hP2) hD2 hS2 (wL_ag ha hl.1 hL) T' rfl X'
  refine ⟨t2, stp t2 ?_, b1⟩
  rw [wst_ag ha hl.2] at a1
  exact a1
def wIl (own : String) (idx : Nat) (y : MethodName) (bytes : ByteArray) (mL n : Nat) : Prop :=
  (y.cls ≠ "java/lang/invoke/MethodHandle" ∧ y.cls ≠ "java/lang/invoke/VarHandle" ∧ (parseMethodDescriptor y.desc).map (fun d => d.parameters.length) = some n) ∧ Cond.code y bytes mL none ∈ wT0 ∧ (Cond.methodLink own idx y ∈ wT0 ∨ ∃ host, (own, idx, y, host) ∈ wNk) ∧ Cond.instanceMethod y ∈ wT0 ∧ Cond.initialized y.cls ∈ wT0 ∧ y.name = "<init>"
theorem w_callI (X : wCx p s m args meth c own cc nL D dA b0 ad) {d mc ms mL np idx k0 : Nat} {y : MethodName} {bytes : ByteArray} {S2 : List wSh} {As st0 : List Value} (hd : decode cc pc = .ok (.invokespecial idx, 3)) (hp : pc + 3 = q) (hl : wIl own idx y bytes mL np) (hC : wCi l y bytes mL d mc ms S n (.ref k0 :: As) S2) (hst : st0 = As.reverse ++ .ref k0 :: st) (hn : As.length = np) (hrl : wRl n ls st) (hrm : (st.map fun v => v.category).sum ≤ 8) (hR : d + 1 ≤ R.frames ∧ 8 + (mL + 11) + 64 * d ≤ R.locals) (hf : ck + mc ≤ R.cells ∧ cn + ms ≤ R.slots)
    (kk : ∀ ad2 : Nat → Nat, (∀ k, (k < n ∨ 99999 ≤ k) → ad2 k = ad k) → wCx p s m args meth c own cc nL D dA b0 ad2 → wM p l e R s m args below meth c (ck + mc) (cn + ms) Q nL D dA b0 ad2 S2 q ls st wz) : wM p l e R s m args below meth c ck cn Q nL D dA b0 ad S pc ls st0 wz := by
  subst hp
  obtain ⟨hy, h1, h2, h3, h4, h5⟩ := hl
  refine w_runI (a := (Value.ref (ad k0) :: As.map (wv ad)).toArray) X hrl (fun H locs arr hP hD hS hL => ?_) kk
  have hG : GoodIn wT0 (Cond.code y bytes mL none :: wT0) := wT0_good (fun _ h => h) h1
  have hsk : (F0 m pc arr (st0.map (wv ad))).stack = (As.map (wv ad)).reverse ++ .ref (ad k0) :: st.map (wv ad) := by
    show st0.map (wv ad) = _
    rw [hst, List.map_append, List.map_reverse]
    rfl
  have hrm2 := lv_room (m := m) (pc := pc) (ls := arr) (rest := st0.map (wv ad)) (st := st.map (wv ad)) (by rw [w_cats]; exact hrm)
  rcases h2 with h2 | ⟨host, h2⟩
  · exact va_runI ⟨X.1, X.2.1, X.2.2.1, X.2.2.2.1, X.2.2.2.2.1⟩ (hC D dA b0 ad) ⟨callB_of np X.2.2.2.2.1 hG rfl rfl rfl (X.2.2.2.2.1 _ h4) (X.2.2.2.2.1 _ h2) hy hR, h5, X.2.2.2.2.1 _ h3⟩ ⟨wP_blind D dA b0 ad S wz _, fun U hU hW => ⟨rfl, w_pre X hP hD hS hU hW⟩⟩ rfl (by rw [List.length_map]; exact hn) hL.1 hsk hrm2 hd hf
  · exact va_runIN (host := host) ⟨X.1, X.2.1, X.2.2.1, X.2.2.2.1, X.2.2.2.2.1⟩ (hC D dA b0 ad) ⟨va_cnB np X.2.2.2.2.1 hG rfl rfl rfl (X.2.2.2.2.2.2.2.2.2.2.2.2.1 _ h2) (X.2.2.2.2.1 _ h4) hy hR, h5, X.2.2.2.2.1 _ h3⟩ ⟨wP_blind D dA b0 ad S wz _, fun U hU hW => ⟨rfl, w_pre X hP hD hS hU hW⟩⟩ rfl (by rw [List.length_map]; exact hn) hL.1 hsk hrm2 hd hf
/-- the end of a constructor; ad is now ad2 -/
theorem w_vretI {ad2 : Nat → Nat} {S2 : List wSh} {mc ms : Nat} (X : wCx p s m args meth c own cc nL D dA b0 ad2) (hd : decode cc pc = .ok (.return_, 1)) (hr : meth.sig.returnType = none) (ha : ∀ k, (k < n ∨ 99999 ≤ k) → ad2 k = ad k) (hc : ck ≤ mc) (hn : cn ≤ ms) : wM p l e R s m args below meth c ck cn (MQ below (wQi D dA b0 ad n S2) args s mc ms (wA b0)) nL D dA b0 ad2 S2 pc ls [] wz := by
  intro H locs arr hP hD hS hL
  refine W.widen (k := mc) (n := ms) hc hn ?_
  exact W.vret X.1 X.2.1 hr (fun t ht hW => ⟨⟨ad2, ha, rfl, by rw [ht]; exact hP, hD⟩, hS.F ht⟩) hS.2.2 hd X.2.2.2.2.2.2.2.1
end WN
theorem w_methI {l : Launch} {y : MethodName} {cc : ByteArray} {nL d mc ms n : Nat} {S S2 : List wSh} {av : List Value} {ls : List (Option Value)} (j : Nat) (hy : plainName y.cls = true) (hlen : (wlo av).length ≤ nL) (hls : wlo av ++ List.replicate j none = ls)
    (body : ∀ (p : Program) (e : Env) (s : State) (m : MethodId) (args : Array Value) (below : List Frame) (meth : Method) (c : Code) (D : va_G) (dA : Nat → ClassId) (b0 : Nat) (ad : Nat → Nat), wCx p s m args meth c y.cls cc nL D dA b0 ad → meth.sig.returnType = none → meth.name = y.name → wM p l e (wRi d mc ms) s m args below meth c 0 0 (MQ below (wQi D dA b0 ad n S2) args s mc ms (wA b0)) nL D dA b0 ad S 0 ls [] wz) : wCi l y cc nL d mc ms S n av S2 := by
  intro D dA b0 ad
  refine Met.ofW (cc := cc) (maxL := nL) (ret := none) hy rfl ?_
  intro p e s m args below meth c s₁ B hml hv
  obtain ⟨rfl, hP, hD, hK, hb0, hstr⟩ := hv
  have hts0 := atoms_spec (ws := Cond.code y cc nL none :: wT0) B.pre
  have hts : ∀ w ∈ wT0, w.before (av.map (wv ad)).toArray s = true := fun w hw => hts0 w (List.mem_cons_of_mem _ hw)
  have hown : s.vm.findClass y.cls = some m.cls := findClass_of_methodNamed B.named
  have hl := lv_entry (av.map (wv ad)) (n := nL) (by rw [wlo_len]; exact hlen)
  have X : wCx p s m (av.map (wv ad)).toArray meth c y.cls cc nL D dA b0 ad := ⟨B.exec, B.bytes, hml, hown, hts, hK, hb0, B.notSynchronized, hstr⟩
  rw [lg_entry_eq]
  refine body p e s m _ below meth c D dA b0 ad X B.returns (name_of_methodNamed B.named B.method).1 s.heap [] _ hP hD va_S.rf ⟨hl.1, hl.2.1, fun i v hv => ?_⟩
  rw [← hls] at hv
  have hv2 : (wlo av)[i]? = some (some v) := by
    by_cases hi : i < (wlo av).length
    · rwa [List.getElem?_append_left hi] at hv
    · rw [List.getElem?_append_right (by omega)] at hv
      obtain ⟨h1, h2⟩ := List.getElem?_eq_some_iff.mp hv
      rw [List.getElem_replicate] at h2
      cases h2
  have := hl.2.2 _ (wlo_args ad av 0 i v hv2)
  rw [Nat.zero_add] at this
  exact this

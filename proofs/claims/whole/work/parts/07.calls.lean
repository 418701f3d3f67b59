/-! CONTRACTS, CALLS, RETURNS -/
def wR (d : Nat) : Room := { frames := d, cells := 0, slots := 0, locals := 64 * d }
def wP (D : va_G) (dA : Nat → ClassId) (b0 : Nat) (ad : Nat → Nat) (S : List wSh) (h : wSt) (U : State) : Prop := va_P D vwCl (wW ad dA S h) U.heap ∧ va_D (wA b0) (wW ad dA S h) ∧ va_K D vwCl (wTy dA) U ∧ b0 ≤ U.heap.size ∧ wStr ad b0 U
def wQ (D : va_G) (dA : Nat → ClassId) (b0 : Nat) (ad : Nat → Nat) (S : List wSh) (F : Option Value → wSt → Prop) : Array Value → State → Outcome → State → Prop := fun _ st oc t => (∃ (r : Option Value) (h2 : wSt), oc = .returned (r.map (wv ad)) ∧ F r h2 ∧ va_P D vwCl (wW ad dA S h2) t.heap ∧ va_D (wA b0) (wW ad dA S h2)) ∧ va_F (wA b0) st t
/-- the contract of a method that makes nothing: from the numbers h it comes back with an answer and numbers of which F holds -/
def wC (l : Launch) (y : MethodName) (cc : ByteArray) (nL : Nat) (ret : Option FieldType) (d : Nat) (S : List wSh) (av : List Value) (h : wSt) (F : Option Value → wSt → Prop) : Prop :=
  ∀ (D : va_G) (dA : Nat → ClassId) (b0 : Nat) (ad : Nat → Nat), Met l y (Cond.code y cc nL ret :: wT0) (wR d) (va_Pc (av.map (wv ad)) (wP D dA b0 ad S h)) (wQ D dA b0 ad S F) 0 0 (wA b0)
theorem wStr_moved {ad : Nat → Nat} {b0 : Nat} {s U : State} {H : Heap} {locs : List Loc} (h : wStr ad b0 s) (hS : va_S (wA b0) s.heap H locs) (hU : U.heap = H) (hW : s.WarmedH U.vm) : wStr ad b0 U := by
  obtain ⟨h1, h2, h3, h4, h5, h6, h7⟩ := h
  refine ⟨?_, fun q hq => (h2 q hq).warm hW, ?_, ?_, fun q hq => (h5 q hq).warmM hW, h6.moved hW.alike, h7.moved hW.alike⟩
  · rw [hU]
    exact (h1.moved hW.alike).kept hS.2.1
  · rw [hU]
    exact (h3.moved hW.alike).kept hS.2.1
  · rw [hU]
    exact (h4.moved hW.alike).kept hS.2.1
theorem wP_blind (D : va_G) (dA : Nat → ClassId) (b0 : Nat) (ad : Nat → Nat) (S : List wSh) (h : wSt) (av : List Value) : FrameBlind (va_Pc av (wP D dA b0 ad S h)) := by
  intro a U g mk hq
  obtain ⟨q0, q1, q2, q3, q4, q5, q6, q7, q8, q9, q10, q11⟩ := hq
  exact ⟨q0, q1, q2, va_K.moved (u := U) (U := U.calling g mk a) (Vm.Alike.refl U.vm) q3, q4, vk_S.moved (u := U) (U := U.calling g mk a) (Vm.Alike.refl U.vm) q5, fun z hz => vk_R.same (u := U) rfl (q6 z hz), va_Z.moved (u := U) (U := U.calling g mk a) (Vm.Alike.refl U.vm) q7, va_Z.moved (u := U) (U := U.calling g mk a) (Vm.Alike.refl U.vm) q8, fun z hz => va_Nw.same (u := U) (U := U.calling g mk a) rfl rfl (q9 z hz), va_AO.moved (u := U) (U := U.calling g mk a) (Vm.Alike.refl U.vm) q10, va_AO.moved (u := U) (U := U.calling g mk a) (Vm.Alike.refl U.vm) q11⟩
/-- an instance method of the class ci, called through an entry of own's pool -/
def wVl (own : String) (idx ci : Nat) (y : MethodName) (bytes : ByteArray) (mL : Nat) (ret : Option FieldType) (n : Nat) : Prop :=
  (∃ (T : u_T) (N : Nat), vwCl[ci]? = some (y.cls, T, N)) ∧ (y.cls ≠ "java/lang/invoke/MethodHandle" ∧ y.cls ≠ "java/lang/invoke/VarHandle" ∧ (parseMethodDescriptor y.desc).map (fun d => d.parameters.length) = some n) ∧ Cond.code y bytes mL ret ∈ wT0 ∧ Cond.methodLink own idx y ∈ wT0 ∧ Cond.instanceMethod y ∈ wT0 ∧ Cond.selects y.cls y y ∈ wT0 ∧ Cond.initialized y.cls ∈ wT0
def wSl1 (own : String) (idx : Nat) (y : MethodName) (bytes : ByteArray) (mL : Nat) (ret : Option FieldType) (n : Nat) : Prop :=
  (y.cls ≠ "java/lang/invoke/MethodHandle" ∧ y.cls ≠ "java/lang/invoke/VarHandle" ∧ (parseMethodDescriptor y.desc).map (fun d => d.parameters.length) = some n) ∧ Cond.code y bytes mL ret ∈ wT0 ∧ Cond.methodLink own idx y ∈ wT0 ∧ Cond.static y ∈ wT0 ∧ Cond.initialized y.cls ∈ wT0
section WC
variable {p : Program} {l : Launch} {e : Env} {R : Room} {s : State} {m : MethodId} {args : Array Value} {below : List Frame} {meth : Method} {c : Code} {ck cn : Nat} {Q : State → Prop} {own : String} {cc : ByteArray} {nL : Nat} {D : va_G} {dA : Nat → ClassId} {b0 : Nat} {ad : Nat → Nat} {S : List wSh} {pc q : Nat} {ls : List (Option Value)} {st : List Value} {h : wSt}
theorem w_run {st0 : List Value} {a : Array Value} {F : Option Value → wSt → Prop} (hr : ∀ (H : Heap) (locs : List Loc) (arr : Array Slot), va_P D vwCl (wW ad dA S h) H → va_D (wA b0) (wW ad dA S h) → va_S (wA b0) s.heap H locs → wL ad nL ls arr → va_Run p l e R s m args below meth c H locs ck cn 0 0 (F0 m pc arr (st0.map (wv ad))) (st.map (wv ad)) (wQ D dA b0 ad S F a) (wA b0))
    (kk : ∀ (r : Option Value) (h2 : wSt), F r h2 → wM p l e R s m args below meth c ck cn Q nL D dA b0 ad S (pc + 3) ls (r.toList ++ st) h2) : wM p l e R s m args below meth c ck cn Q nL D dA b0 ad S pc ls st0 h := by
  intro H locs arr hP hD hS hL T hT X
  obtain ⟨v, st₀, t, T', L, h0, X', hLo, e1, e2, ⟨⟨r, h2, hv, hp, hP2, hD2⟩, hz, hk⟩, stp⟩ := hr H locs arr hP hD hS hL T hT X
  cases hv
  rw [h0] at hz hk
  have hS2 : va_S (wA b0) s.heap T'.heap (locs ++ L) := ⟨Nat.le_trans hS.1 (by rw [e1]; exact hz), fun q h1 h2 => by rw [e1, hk q (Nat.lt_of_lt_of_le h1 hS.1) h2]; exact hS.2.1 q h1 h2, fun q hq => by
    rcases List.mem_append.mp hq with h | h
    · exact hS.2.2 q h
    · exact hLo q h⟩
  obtain ⟨t2, a1, b1⟩ := kk r h2 hp T'.heap (locs ++ L) arr (by rw [e1]; exact hP2) hD2 hS2 hL T' rfl X'
  refine ⟨t2, stp t2 ?_, b1⟩
  have e3 : (r.toList ++ st).map (wv ad) = (r.map (wv ad)).toList ++ st.map (wv ad) := by cases r <;> rfl
  rw [e3] at a1
  exact a1
theorem w_pre (X : wCx p s m args meth c own cc nL D dA b0 ad) {H : Heap} {locs : List Loc} (hP : va_P D vwCl (wW ad dA S h) H) (hD : va_D (wA b0) (wW ad dA S h)) (hS : va_S (wA b0) s.heap H locs) {U : State} (hU : U.heap = H) (hW : s.WarmedH U.vm) : wP D dA b0 ad S h U :=
  ⟨by rw [hU]; exact hP, hD, va_K.moved hW.alike X.2.2.2.2.2.1, by rw [hU]; exact Nat.le_trans X.2.2.2.2.2.2.1 hS.1, wStr_moved X.2.2.2.2.2.2.2.2 hS hU hW⟩
theorem w_callB (X : wCx p s m args meth c own cc nL D dA b0 ad) {d mL n idx : Nat} {y : MethodName} {bytes : ByteArray} {ret : Option FieldType} (hd : y.cls ≠ "java/lang/invoke/MethodHandle" ∧ y.cls ≠ "java/lang/invoke/VarHandle" ∧ (parseMethodDescriptor y.desc).map (fun d => d.parameters.length) = some n) (h1 : Cond.code y bytes mL ret ∈ wT0) (h2 : Cond.methodLink own idx y ∈ wT0) (h3 : Cond.initialized y.cls ∈ wT0) (hR : d + 1 ≤ R.frames ∧ 8 + (mL + 11) + 64 * d ≤ R.locals) :
    CallB R s args own idx y bytes mL ret (Cond.code y bytes mL ret :: wT0) (wR d) 0 0 n :=
  callB_of n X.2.2.2.2.1 (wT0_good (fun _ h => h) h1) rfl rfl rfl (X.2.2.2.2.1 _ h3) (X.2.2.2.2.1 _ h2) hd hR
theorem w_callV (X : wCx p s m args meth c own cc nL D dA b0 ad) {d mL n idx ci k0 z1 : Nat} {y : MethodName} {bytes : ByteArray} {ret : Option FieldType} {fs : List (Nat × Nat)} {As st0 : List Value} {F : Option Value → wSt → Prop} (hd : decode cc pc = .ok (.invokevirtual idx, 3)) (hp : pc + 3 = q) (hl : wVl own idx ci y bytes mL ret n) (hC : wC l y bytes mL ret d S (.ref k0 :: As) h F) (hS0 : S[k0]? = some (ci + 6, z1, fs)) (hst : st0 = As.reverse ++ .ref k0 :: st) (hn : As.length = n) (hrm : (st.map fun v => v.category).sum ≤ 8) (hR : d + 1 ≤ R.frames ∧ 8 + (mL + 11) + 64 * d ≤ R.locals) (hf : ck ≤ R.cells ∧ cn ≤ R.slots)
    (kk : ∀ (r : Option Value) (h2 : wSt), F r h2 → wM p l e R s m args below meth c ck cn Q nL D dA b0 ad S q ls (r.toList ++ st) h2) : wM p l e R s m args below meth c ck cn Q nL D dA b0 ad S pc ls st0 h := by
  subst hp
  obtain ⟨⟨T, N, hc⟩, hy, h1, h2, h3, h4, h5⟩ := hl
  refine w_run (a := (Value.ref (ad k0) :: As.map (wv ad)).toArray) (F := F) (fun H locs arr hP hD hS hL => ?_) kk
  have he := wW_at (ad := ad) (dA := dA) (h := h) hS0
  rw [we_obj] at he
  refine va_runV ⟨X.1, X.2.1, X.2.2.1, X.2.2.2.1, X.2.2.2.2.1⟩ (hC D dA b0 ad) ⟨w_callB X hy h1 h2 h5 hR, X.2.2.2.2.1 _ h3, X.2.2.2.2.1 _ h4⟩ ⟨wP_blind D dA b0 ad S h _, va_recv X.2.2.2.2.2.1 hP hc he, fun U hU hW => ⟨rfl, w_pre X hP hD hS hU hW⟩⟩ rfl (by rw [List.length_map]; exact hn) hL.1 ?_ ?_ hd ⟨by omega, by omega⟩
  · show st0.map (wv ad) = _
    rw [hst, List.map_append, List.map_reverse]
    rfl
  · exact lv_room (m := m) (pc := pc) (ls := arr) (rest := st0.map (wv ad)) (by rw [w_cats]; exact hrm)
theorem w_callS (X : wCx p s m args meth c own cc nL D dA b0 ad) {d mL n idx : Nat} {y : MethodName} {bytes : ByteArray} {ret : Option FieldType} {As st0 : List Value} {F : Option Value → wSt → Prop} (hd : decode cc pc = .ok (.invokestatic idx, 3)) (hp : pc + 3 = q) (hl : wSl1 own idx y bytes mL ret n) (hC : wC l y bytes mL ret d S As h F) (hst : st0 = As.reverse ++ st) (hn : As.length = n) (hrm : (st.map fun v => v.category).sum ≤ 8) (hR : d + 1 ≤ R.frames ∧ 8 + (mL + 11) + 64 * d ≤ R.locals) (hf : ck ≤ R.cells ∧ cn ≤ R.slots)
    (kk : ∀ (r : Option Value) (h2 : wSt), F r h2 → wM p l e R s m args below meth c ck cn Q nL D dA b0 ad S q ls (r.toList ++ st) h2) : wM p l e R s m args below meth c ck cn Q nL D dA b0 ad S pc ls st0 h := by
  subst hp
  obtain ⟨hy, h1, h2, h3, h5⟩ := hl
  refine w_run (a := (As.map (wv ad)).toArray) (F := F) (fun H locs arr hP hD hS hL => ?_) kk
  refine va_runS ⟨X.1, X.2.1, X.2.2.1, X.2.2.2.1, X.2.2.2.2.1⟩ (hC D dA b0 ad) ⟨w_callB X hy h1 h2 h5 hR, X.2.2.2.2.1 _ h3⟩ ⟨wP_blind D dA b0 ad S h _, fun U hU hW => ⟨rfl, w_pre X hP hD hS hU hW⟩⟩ rfl (by rw [List.length_map]; exact hn) hL.1 ?_ ?_ hd ⟨by omega, by omega⟩
  · show st0.map (wv ad) = _
    rw [hst, List.map_append, List.map_reverse]
  · exact lv_room (m := m) (pc := pc) (ls := arr) (rest := st0.map (wv ad)) (by rw [w_cats]; exact hrm)
/-- what a method's walk comes to -/
abbrev wE (below : List Frame) (args : Array Value) (s : State) (D : va_G) (dA : Nat → ClassId) (b0 : Nat) (ad : Nat → Nat) (S : List wSh) (F : Option Value → wSt → Prop) : State → Prop := MQ below (wQ D dA b0 ad S F) args s 0 0 (wA b0)
theorem w_iret (X : wCx p s m args meth c own cc nL D dA b0 ad) {F : Option Value → wSt → Prop} {v : Int32} (hd : decode cc pc = .ok (.ireturn, 1)) (hr : meth.sig.returnType = some .int) (hF : F (some (.int v)) h) : wM p l e R s m args below meth c 0 0 (wE below args s D dA b0 ad S F) nL D dA b0 ad S pc ls [.int v] h := by
  intro H locs arr hP hD hS hL
  exact W.iret X.1 X.2.1 hr (fun t ht hW => ⟨⟨some (.int v), h, rfl, hF, by rw [ht]; exact hP, hD⟩, hS.F ht⟩) hS.2.2 hd X.2.2.2.2.2.2.2.1
theorem w_zret (X : wCx p s m args meth c own cc nL D dA b0 ad) {F : Option Value → wSt → Prop} {v : Int32} (hd : decode cc pc = .ok (.ireturn, 1)) (hr : meth.sig.returnType = some .boolean) (hn : narrow .boolean (.int v) = .int v) (hF : F (some (.int v)) h) : wM p l e R s m args below meth c 0 0 (wE below args s D dA b0 ad S F) nL D dA b0 ad S pc ls [.int v] h := by
  intro H locs arr hP hD hS hL
  exact W.zret X.1 X.2.1 hr hn (fun t ht hW => ⟨⟨some (.int v), h, rfl, hF, by rw [ht]; exact hP, hD⟩, hS.F ht⟩) hS.2.2 hd X.2.2.2.2.2.2.2.1
theorem w_lret (X : wCx p s m args meth c own cc nL D dA b0 ad) {F : Option Value → wSt → Prop} {v : Int64} (hd : decode cc pc = .ok (.lreturn, 1)) (hr : meth.sig.returnType = some .long) (hF : F (some (.long v)) h) : wM p l e R s m args below meth c 0 0 (wE below args s D dA b0 ad S F) nL D dA b0 ad S pc ls [.long v] h := by
  intro H locs arr hP hD hS hL
  exact W.lret X.1 X.2.1 hr (fun t ht hW => ⟨⟨some (.long v), h, rfl, hF, by rw [ht]; exact hP, hD⟩, hS.F ht⟩) hS.2.2 hd X.2.2.2.2.2.2.2.1
theorem w_vret (X : wCx p s m args meth c own cc nL D dA b0 ad) {F : Option Value → wSt → Prop} (hd : decode cc pc = .ok (.return_, 1)) (hr : meth.sig.returnType = none) (hF : F none h) : wM p l e R s m args below meth c 0 0 (wE below args s D dA b0 ad S F) nL D dA b0 ad S pc ls [] h := by
  intro H locs arr hP hD hS hL
  exact W.vret X.1 X.2.1 hr (fun t ht hW => ⟨⟨none, h, rfl, hF, by rw [ht]; exact hP, hD⟩, hS.F ht⟩) hS.2.2 hd X.2.2.2.2.2.2.2.1
end WC
/-- the locals at a method's entry -/
def wlo : List Value → List (Option Value)
  | [] => []
  | v :: l => if v.category = 2 then some v :: none :: wlo l else some v :: wlo l
theorem wlo_args (ad : Nat → Nat) : ∀ (av : List Value) (b i : Nat) (v : Value), (wlo av)[i]? = some (some v) → (b + i, wv ad v) ∈ lv_args b (av.map (wv ad))
  | [], b, i, v, h => by simp [wlo] at h
  | w :: l, b, i, v, h => by
    rw [List.map_cons, lv_args, wv_cat]
    by_cases hc : w.category = 2
    · rw [wlo, if_pos hc] at h
      rw [if_pos hc]
      match i, h with
      | 0, h =>
        have h : some (some w) = some (some v) := h
        cases h
        exact List.mem_cons_self
      | 1, h =>
        have h : (some none : Option (Option Value)) = some (some v) := h
        cases h
      | i + 2, h =>
        have h : (wlo l)[i]? = some (some v) := h
        have := wlo_args ad l (b + 2) i v h
        rw [show b + (i + 2) = b + 2 + i by omega]
        exact List.mem_cons_of_mem _ this
    · rw [wlo, if_neg hc] at h
      rw [if_neg hc]
      match i, h with
      | 0, h =>
        have h : some (some w) = some (some v) := h
        cases h
        exact List.mem_cons_self
      | i + 1, h =>
        have h : (wlo l)[i]? = some (some v) := h
        have := wlo_args ad l (b + 1) i v h
        rw [show b + (i + 1) = b + 1 + i by omega]
        exact List.mem_cons_of_mem _ this
theorem wlo_len (ad : Nat → Nat) : ∀ (av : List Value), (lg_sl (av.map (wv ad))).length = (wlo av).length
  | [] => rfl
  | w :: l => by
    have ih := wlo_len ad l
    unfold lg_sl at ih
    rw [List.map_cons, lg_sl, List.flatMap_cons, List.length_append, ih, wlo, wv_cat]
    by_cases hc : w.category = 2
    · rw [if_pos hc, if_pos hc]; simp; omega
    · rw [if_neg hc, if_neg hc]; simp; omega
/-- a method's contract out of the walk of its body -/
theorem w_meth {l : Launch} {y : MethodName} {cc : ByteArray} {nL : Nat} {ret : Option FieldType} {d : Nat} {S : List wSh} {av : List Value} {h : wSt} {F : Option Value → wSt → Prop} {ls : List (Option Value)} (hy : plainName y.cls = true) (hlen : (wlo av).length ≤ nL) (hls : ∀ (i : Nat) (v : Value), ls[i]? = some (some v) → (wlo av)[i]? = some (some v))
    (body : ∀ (p : Program) (e : Env) (s : State) (m : MethodId) (args : Array Value) (below : List Frame) (meth : Method) (c : Code) (D : va_G) (dA : Nat → ClassId) (b0 : Nat) (ad : Nat → Nat), wCx p s m args meth c y.cls cc nL D dA b0 ad → meth.sig.returnType = ret → (∀ w ∈ wT0, w.before args s = true) → wM p l e (wR d) s m args below meth c 0 0 (wE below args s D dA b0 ad S F) nL D dA b0 ad S 0 ls [] h) : wC l y cc nL ret d S av h F := by
  intro D dA b0 ad
  refine Met.ofW (cc := cc) (maxL := nL) (ret := ret) hy rfl ?_
  intro p e s m args below meth c s₁ B hml hv
  obtain ⟨rfl, hP, hD, hK, hb0, hstr⟩ := hv
  have hts0 := atoms_spec (ws := Cond.code y cc nL ret :: wT0) B.pre
  have hts : ∀ w ∈ wT0, w.before (av.map (wv ad)).toArray s = true := fun w hw => hts0 w (List.mem_cons_of_mem _ hw)
  have hown : s.vm.findClass y.cls = some m.cls := findClass_of_methodNamed B.named
  have hl := lv_entry (av.map (wv ad)) (n := nL) (by rw [wlo_len]; exact hlen)
  have X : wCx p s m (av.map (wv ad)).toArray meth c y.cls cc nL D dA b0 ad := ⟨B.exec, B.bytes, hml, hown, hts, hK, hb0, B.notSynchronized, hstr⟩
  rw [lg_entry_eq]
  refine body p e s m _ below meth c D dA b0 ad X B.returns hts s.heap [] _ hP hD va_S.rf ⟨hl.1, hl.2.1, fun i v hv => ?_⟩
  have := hl.2.2 _ (wlo_args ad av 0 i v (hls i v hv))
  rw [Nat.zero_add] at this
  exact this

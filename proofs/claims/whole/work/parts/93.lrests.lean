/-! THE LECTERN IN THE LAW -/
def xR2 : Room := { frames := 12, cells := 1, slots := 6, locals := 800 }
def gLr (res : Option Int32) : Int32 := match res with
  | some _ => 0
  | none => 1
def gLh (h : wSt) (res : Option Int32) : wSt := match res with
  | some v => wuJ h 233 0 v.toInt64
  | none => h
theorem x_lL : Cond.methodLink RL 157 yL_rests ∈ wT0 := wT0_in (by decide +kernel) (by decide +kernel)
section WX93
variable {p : Program} {l : Launch} {e : Env} {R : Room} {s : State} {m : MethodId} {args : Array Value} {below : List Frame} {meth : Method} {c : Code} {ck cn : Nat} {Q : State → Prop} {own : String} {cc : ByteArray} {nL : Nat} {D : va_G} {dA : Nat → ClassId} {b0 : Nat} {ad : Nat → Nat} {pc : Nat} {ls : List (Option Value)} {h : wSt} {res : Option Int32}
theorem x_S2 {H : Heap} {locs L : List Loc} {st₀ t T' : State} (hS : va_S (wA b0) s.heap H locs) (h0 : st₀.heap = H) (e1 : T'.heap = t.heap) (hLo : ∀ q ∈ L, wA b0 q.base) (hF : va_F (wA b0) st₀ t) : va_S (wA b0) s.heap T'.heap (locs ++ L) := by
  obtain ⟨hz, hk⟩ := hF
  rw [h0] at hz hk
  exact ⟨Nat.le_trans hS.1 (by rw [e1]; exact hz), fun q h1 h2 => by rw [e1, hk q (Nat.lt_of_lt_of_le h1 hS.1) h2]; exact hS.2.1 q h1 h2, fun q hq => by
    rcases List.mem_append.mp hq with h | h
    · exact hS.2.2 q h
    · exact hLo q h⟩
abbrev yQ (below : List Frame) (args : Array Value) (s : State) (D : va_G) (dA : Nat → ClassId) (b0 : Nat) (ad : Nat → Nat) (h : wSt) (res : Option Int32) : State → Prop := vx_MQ below (wQ D dA b0 ad S0 (wFI (fun r h2 => r = gLr res ∧ h2 = gLh h res))) (fun _ _ _ => False) args s 1 6 (wA b0)
set_option maxRecDepth 4000 in
theorem pL_rests (X : wCx p s m args meth c RL cL_rests 7 D dA b0 ad) (hr : meth.sig.returnType = some .int) (hl : l.stackTraces = false) (hZ1 : vx_Zq Bundle.tN "UNASSIGNED_STACK" Bundle.steD (wA b0) s s.heap) (hZ2 : vx_Zq Bundle.tN "SUPPRESSED_SENTINEL" Bundle.listD (wA b0) s s.heap) (hB : ∀ w ∈ xB, va_Nw w s) (htab : c.exceptionTable.toList = [⟨0, 14, 17, 13⟩]) {x1 x2 x3 x4 : Int32}
    (hf : fX10_rests h x1 x2 x3 x4 = some res) : wM p l e xR2 s m args below meth c 0 0 (yQ below args s D dA b0 ad h res) 7 D dA b0 ad S0 0 [some (.ref 0), some (.int x1), some (.int x2), some (.int x3), some (.int x4), some (.ref 233), none] [] h := by
  refine w_aload X dL_rests_0 rfl rfl ?_
  refine w_iconst X dL_rests_2 rfl ci_0 ?_
  refine w_aload_n X dL_rests_3 rfl rfl rfl ?_
  refine w_iload_n X dL_rests_4 rfl rfl rfl ?_
  refine w_iload_n X dL_rests_5 rfl rfl rfl ?_
  refine w_iload_n X dL_rests_6 rfl rfl rfl ?_
  refine w_iload X dL_rests_7 rfl rfl ?_
  intro H locs arr hP hD hS hL
  have he := wW_at (ad := ad) (dA := dA) (h := h) S0_0
  have he : (wW ad dA S0 h)[0]? = some (ad 0, .inr (10, _)) := he
  have hcb : CallB xR2 s args RL 7 yX10_rests cX10_rests 9 (some .int) (Cond.code yX10_rests cX10_rests 9 (some .int) :: wT0) xR 1 6 4 := callB_of 4 X.2.2.2.2.1 (wT0_good (fun _ h => h) x_cR) rfl rfl rfl (X.2.2.2.2.1 _ x_nR) (X.2.2.2.2.1 _ x_lR) (by decide +kernel) ⟨by decide, by decide⟩
  have run := vx_runV (g := F0 m 9 arr (([.int x4, .int x3, .int x2, .int x1, .ref 0, .int 0, .ref 233] : List Value).map (wv ad))) (rest := ([.int 0, .ref 233] : List Value).map (wv ad)) (H := H) (locs := locs) (cells := 0) (slots := 0) (As := ([.int x1, .int x2, .int x3, .int x4] : List Value).map (wv ad)) (p := p) (e := e) (below := below) (meth := meth) ⟨X.1, X.2.1, X.2.2.1, X.2.2.2.1, X.2.2.2.2.1⟩ (kX10_rests l hl hf D dA b0 ad) ⟨hcb, X.2.2.2.2.1 _ x_iR, X.2.2.2.2.1 _ x_sR⟩ ⟨xP_blind D dA b0 ad h _, va_recv X.2.2.2.2.2.1 hP (q := (RX10, TX10, 12)) rfl he, fun U hU hW => ⟨rfl, x_pre X hP hD hS hZ1 hZ2 hB hU hW⟩⟩ rfl rfl hL.1 rfl (Nat.le_of_ble_eq_true rfl) dL_rests_9 ⟨by decide, by decide⟩
  intro T hT Xs
  rcases run T hT Xs with ⟨v, st₀, t, T', L, h0, X', hLo, e1, e2, ⟨⟨r, h2, hv, hp, hP2, hD2⟩, hF⟩, st⟩ | ⟨q, st₀, t, T', L, E, ce, h0, X', hLo, e1, e2, ⟨hE, hn, hP2, hD2, hF⟩, hce, hcv, hcl, st⟩
  · cases hv
    obtain ⟨x, rfl, hres, rfl⟩ := hp
    have hS2 := x_S2 hS h0 e1 hLo hF
    have kk : wM p l e xR2 s m args below meth c (0 + 1) (0 + 6) (yQ below args s D dA b0 ad h2 res) 7 D dA b0 ad S0 12 [some (.ref 0), some (.int x1), some (.int x2), some (.int x3), some (.int x4), some (.ref 233), none] [.int x, .int 0, .ref 233] h2 := by
      refine w_i2l X dL_rests_12 rfl ?_
      refine w_last X dL_rests_13 rfl (j := 0) rfl S0_233 (by unfold vp_in; decide) ?_
      refine w_goto X dL_rests_14 (t := 21) rfl ?_
      refine w_iconst X dL_rests_21 rfl ci_0 ?_
      intro H1 locs1 arr1 hP1 hD1 hS1 hL1
      refine vx_ret ?_
      exact W.iret X.1 X.2.1 hr (fun t ht hW => ⟨⟨some (.int 0), wuJ h2 233 0 x.toInt64, rfl, ⟨0, rfl, by rw [hres]; rfl, by rw [hres]; rfl⟩, by rw [ht]; exact hP1, hD1⟩, hS1.F ht⟩) hS1.2.2 dL_rests_22 X.2.2.2.2.2.2.2.1
    obtain ⟨t2, a1, b1⟩ := kk T'.heap (locs ++ L) arr (by rw [e1]; exact hP2) hD2 hS2 hL T' rfl X'
    exact ⟨t2, st t2 a1, b1⟩
  · have hE : E = xE := hE
    subst hE
    have hS2 := x_S2 hS h0 e1 hLo hF
    have kx : vx_W p l e xR2 s m args below meth c T'.heap (locs ++ L) (0 + 1) (0 + 6) (yQ below args s D dA b0 ad h res) (F0 m 9 arr (([.int 0, .ref 233] : List Value).map (wv ad))) q := by
      refine vx_catch (own := RL) (name := xE) (E := xE) X.2.2.2.1 [] ⟨0, 14, 17, 13⟩ [] htab (fun z hz => nomatch hz) (by decide) (by decide) (X.2.2.2.2.1 _ x_lk) (va_Nw.use (x_onT _ List.mem_cons_self) (hB _ List.mem_cons_self)) (by rw [e1]; exact hce) hcv hcl ?_
      refine lv_astore X.1 X.2.1 dL_rests_17 (wL_has hL) (by decide) rfl (fun ls' hls => ?_)
      refine lv_iconst X.1 X.2.1 dL_rests_19 ci_1 ?_
      refine vx_ret ?_
      exact W.iret X.1 X.2.1 hr (fun t3 ht hW => ⟨⟨some (.int 1), h, rfl, ⟨1, rfl, by rw [hn]; rfl, by rw [hn]; rfl⟩, by rw [ht, e1]; exact hP2, hD2⟩, hS2.F ht⟩) hS2.2.2 dL_rests_20 X.2.2.2.2.2.2.2.1
    obtain ⟨t2, a1, b1⟩ := kx T' rfl X'
    exact ⟨t2, st.trans a1, b1⟩
end WX93
theorem kL_rests (l : Launch) (hl : l.stackTraces = false) {h : wSt} {x1 x2 x3 x4 : Int32} {res : Option Int32} (hf : fX10_rests h x1 x2 x3 x4 = some res) (D : va_G) (dA : Nat → ClassId) (b0 : Nat) (ad : Nat → Nat) : vx_Met l yL_rests (Cond.codeWith yL_rests cL_rests 7 (some .int) [(0, 14, 17, 13)] :: wT0) xR2 (va_Pc ([.ref 0, .int x1, .int x2, .int x3, .int x4, .ref 233].map (wv ad)) (xP D dA b0 ad h)) (wQ D dA b0 ad S0 (wFI (fun r h2 => r = gLr res ∧ h2 = gLh h res))) (fun _ _ _ => False) 1 6 (wA b0) := by
  refine vx_ofWH (cc := cL_rests) (maxL := 7) (ret := some .int) (hh := [(0, 14, 17, 13)]) (by decide) rfl ?_
  intro p e s m args below meth c s₁ B hml hv
  obtain ⟨rfl, ⟨hP, hD, hK, hb0, hstr⟩, z1, z2, z3⟩ := hv
  have hts0 := atoms_spec (ws := Cond.codeWith yL_rests cL_rests 7 (some .int) [(0, 14, 17, 13)] :: wT0) B.pre
  have hts : ∀ w ∈ wT0, w.before ([.ref 0, .int x1, .int x2, .int x3, .int x4, .ref 233].map (wv ad)).toArray s = true := fun w hw => hts0 w (List.mem_cons_of_mem _ hw)
  have htab := vx_table (x := yL_rests) B (hts0 _ List.mem_cons_self)
  have hown : s.vm.findClass RL = some m.cls := findClass_of_methodNamed B.named
  have hlv := lv_entry (([.ref 0, .int x1, .int x2, .int x3, .int x4, .ref 233] : List Value).map (wv ad)) (n := 7) (by rw [wlo_len]; exact Nat.le_of_ble_eq_true rfl)
  have X : wCx p s m ([.ref 0, .int x1, .int x2, .int x3, .int x4, .ref 233].map (wv ad)).toArray meth c RL cL_rests 7 D dA b0 ad := ⟨B.exec, B.bytes, hml, hown, hts, hK, hb0, B.notSynchronized, hstr⟩
  rw [lg_entry_eq]
  refine pL_rests X B.returns hl z1 z2 z3 htab hf s.heap [] _ hP hD va_S.rf ⟨hlv.1, hlv.2.1, fun i v hv => ?_⟩
  have hls : (wlo [.ref 0, .int x1, .int x2, .int x3, .int x4, .ref 233])[i]? = some (some v) := by
    match i, hv with
    | 0, hv => exact hv
    | 1, hv => exact hv
    | 2, hv => exact hv
    | 3, hv => exact hv
    | 4, hv => exact hv
    | 5, hv => exact hv
    | 6, hv => cases hv
    | i + 7, hv => cases hv
  have := hlv.2.2 _ (wlo_args ad _ 0 i v hls)
  rw [Nat.zero_add] at this
  exact this
section WX93b
variable {p : Program} {l : Launch} {e : Env} {R : Room} {s : State} {m : MethodId} {args : Array Value} {below : List Frame} {meth : Method} {c : Code} {ck cn : Nat} {Q : State → Prop} {D : va_G} {dA : Nat → ClassId} {b0 : Nat} {ad : Nat → Nat} {ls : List (Option Value)} {h : wSt} {res : Option Int32}
theorem w_callLR (X : wCx p s m args meth c RL cL_law 7 D dA b0 ad) (hl : l.stackTraces = false) (hZ1 : vx_Zq Bundle.tN "UNASSIGNED_STACK" Bundle.steD (wA b0) s s.heap) (hZ2 : vx_Zq Bundle.tN "SUPPRESSED_SENTINEL" Bundle.listD (wA b0) s s.heap) (hB : ∀ w ∈ xB, va_Nw w s) {x1 x2 x3 x4 : Int32} (hf : fX10_rests h x1 x2 x3 x4 = some res) (hR : 13 ≤ R.frames ∧ 900 ≤ R.locals ∧ ck + 1 ≤ R.cells ∧ cn + 6 ≤ R.slots)
    (kk : wM p l e R s m args below meth c (ck + 1) (cn + 6) Q 7 D dA b0 ad S0 1287 ls [.int (gLr res)] (gLh h res)) : wM p l e R s m args below meth c ck cn Q 7 D dA b0 ad S0 1284 ls [.ref 233, .int x4, .int x3, .int x2, .int x1, .ref 0] h := by
  intro H locs arr hP hD hS hL
  have hcw : vx_CSW R s args RL 157 yL_rests cL_rests 7 (some .int) [(0, 14, 17, 13)] (Cond.codeWith yL_rests cL_rests 7 (some .int) [(0, 14, 17, 13)] :: wT0) xR2 1 6 6 := by
    refine ⟨⟨rfl, rfl, hR.1, by show 8 + (7 + 11) + 800 ≤ R.locals; omega, pay_in X.2.2.2.2.1 (wT0_good (fun _ h => h) x_cL), List.mem_cons_self⟩, X.2.2.2.2.1 _ x_cL, X.2.2.2.2.1 _ x_nL, ⟨by decide, by decide⟩, fun sig h => ?_, X.2.2.2.2.1 _ x_lL, X.2.2.2.2.1 _ x_sL⟩
    have h2 : (parseMethodDescriptor yL_rests.desc).map (fun d => d.parameters.length) = some 6 := by decide +kernel
    rw [h] at h2
    exact (Option.some.inj h2).symm
  have run := vx_runSX (g := F0 m 1284 arr (([.ref 233, .int x4, .int x3, .int x2, .int x1, .ref 0] : List Value).map (wv ad))) (rest := []) (H := H) (locs := locs) (cells := ck) (slots := cn) (As := ([.ref 0, .int x1, .int x2, .int x3, .int x4, .ref 233] : List Value).map (wv ad)) (p := p) (e := e) (below := below) (meth := meth) ⟨X.1, X.2.1, X.2.2.1, X.2.2.2.1, X.2.2.2.2.1⟩ (kL_rests l hl hf D dA b0 ad) hcw ⟨xP_blind D dA b0 ad h _, fun U hU hW => ⟨rfl, x_pre X hP hD hS hZ1 hZ2 hB hU hW⟩⟩ rfl rfl hL.1 rfl (Nat.le_of_ble_eq_true rfl) dL_law_1284 ⟨hR.2.2.1, hR.2.2.2⟩
  intro T hT Xs
  rcases run T hT Xs with ⟨v, st₀, t, T', L, h0, X', hLo, e1, e2, ⟨⟨r, h2, hv, hp, hP2, hD2⟩, hF⟩, st⟩ | ⟨q, st₀, t, T', L, E, ce, h0, X', hLo, e1, e2, hE, hce, hcv, hcl, st⟩
  · cases hv
    obtain ⟨x, rfl, rfl, rfl⟩ := hp
    have hS2 := x_S2 hS h0 e1 hLo hF
    obtain ⟨t2, a1, b1⟩ := kk T'.heap (locs ++ L) arr (by rw [e1]; exact hP2) hD2 hS2 hL T' rfl X'
    exact ⟨t2, st t2 a1, b1⟩
  · exact hE.elim
end WX93b

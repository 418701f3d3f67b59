/-! THE LECTERN, this side: it may throw -/
def xR : Room := { frames := 10, cells := 1, slots := 6, locals := 640 }
def xP (D : va_G) (dA : Nat → ClassId) (b0 : Nat) (ad : Nat → Nat) (h : wSt) (U : State) : Prop := wP D dA b0 ad S0 h U ∧ vx_Zq Bundle.tN "UNASSIGNED_STACK" Bundle.steD (wA b0) U U.heap ∧ vx_Zq Bundle.tN "SUPPRESSED_SENTINEL" Bundle.listD (wA b0) U U.heap ∧ ∀ w ∈ xB, va_Nw w U
def xX (D : va_G) (dA : Nat → ClassId) (b0 : Nat) (ad : Nat → Nat) (h : wSt) (res : Option Int32) : String → State → State → Prop := fun E st t => E = xE ∧ res = none ∧ va_P D vwCl (wW ad dA S0 h) t.heap ∧ va_D (wA b0) (wW ad dA S0 h) ∧ va_F (wA b0) st t
theorem x_onT : ∀ w ∈ xB, w.onTables = true := by decide +kernel
theorem xB_warm {s U : State} (hW : s.WarmedH U.vm) (hB : ∀ w ∈ xB, va_Nw w s) : ∀ w ∈ xB, va_Nw w U := by
  intro w hw
  have h0 := hB w hw
  rcases List.mem_cons.mp hw with rfl | hw
  · exact va_Nw.warmC hW h0
  · rcases List.mem_cons.mp hw with rfl | hw
    · exact va_Nw.warmD hW h0
    · rcases List.mem_cons.mp hw with rfl | hw
      · exact va_Nw.warmD hW h0
      · rcases List.mem_cons.mp hw with rfl | hw
        · exact va_Nw.warmD hW h0
        · cases hw
theorem xP_blind (D : va_G) (dA : Nat → ClassId) (b0 : Nat) (ad : Nat → Nat) (h : wSt) (av : List Value) : FrameBlind (va_Pc av (xP D dA b0 ad h)) := by
  intro a U g mk hq
  obtain ⟨q0, q1, z1, z2, z3⟩ := hq
  obtain ⟨y0, y1⟩ := wP_blind D dA b0 ad S0 h av a U g mk ⟨q0, q1⟩
  exact ⟨y0, y1, vx_Zq.moved (u := U) (U := U.calling g mk a) (Vm.Alike.refl U.vm) z1, vx_Zq.moved (u := U) (U := U.calling g mk a) (Vm.Alike.refl U.vm) z2, fun w hw => va_Nw.same (x_onT w hw) (u := U) (U := U.calling g mk a) rfl (z3 w hw)⟩
def fX10_rests_b75 (h : wSt) (v1 v2 v3 v4 v5 v6 v7 v8 : Int32) : Option ((Int32 × Int32) ⊕ Option Int32) :=
(fX10_isContent h v7 v8 v1 v2 v3).bind (fun ya =>
if ya = true then
(fX10_isContent h v8 v7 v1 v2 v3).bind (fun yb =>
if yb = true then
if v5 = v4 then some (.inr (some v6)) else some (.inl (v5 + 1, v6 + 1))
else some (.inl (v5, v6 + 1)))
else some (.inl (v5, v6 + 1)))
def fX10_rests_b58 (h : wSt) (v1 v2 v3 v4 v5 v6 v7 : Int32) : Option ((Int32 × Int32) ⊕ Option Int32) :=
if (v6 - v6 / 2 * 2) = 1 then fX10_rests_b75 h v1 v2 v3 v4 v5 v6 v7 1 else fX10_rests_b75 h v1 v2 v3 v4 v5 v6 v7 0
def fX10_rests_l41 (h : wSt) (v1 v2 v3 v4 v5 v6 : Int32) : Option ((Int32 × Int32) ⊕ Option Int32) :=
if 4 ≤ v6 then
if v4 = -1 then some (.inr (some v5)) else some (.inr none)
else
if v6 < 2 then fX10_rests_b58 h v1 v2 v3 v4 v5 v6 0 else fX10_rests_b58 h v1 v2 v3 v4 v5 v6 1
def fX10_rests (h : wSt) (x1 x2 x3 x4 : Int32) : Option (Option Int32) :=
(fX10_isGain h x1).bind (fun ya =>
if ya = true then
(fX10_isGain h x2).bind (fun yb =>
if yb = true then
(fX10_isGain h x3).bind (fun yc =>
if yc = true then
if -1 ≤ x4 then wit (fun v : Int32 × Int32 => fX10_rests_l41 h x1 x2 x3 x4 v.1 v.2) 3000 (0, 0)
else some none
else some none)
else some none)
else some none)
section WX92
variable {p : Program} {l : Launch} {e : Env} {R : Room} {s : State} {m : MethodId} {args : Array Value} {below : List Frame} {meth : Method} {c : Code} {own : String} {cc : ByteArray} {nL : Nat} {D : va_G} {dA : Nat → ClassId} {b0 : Nat} {ad : Nat → Nat} {pc : Nat} {ls : List (Option Value)} {h : wSt} {res : Option Int32}
theorem x_pre (X : wCx p s m args meth c own cc nL D dA b0 ad) {H : Heap} {locs : List Loc} (hP : va_P D vwCl (wW ad dA S0 h) H) (hD : va_D (wA b0) (wW ad dA S0 h)) (hS : va_S (wA b0) s.heap H locs) (hZ1 : vx_Zq Bundle.tN "UNASSIGNED_STACK" Bundle.steD (wA b0) s s.heap) (hZ2 : vx_Zq Bundle.tN "SUPPRESSED_SENTINEL" Bundle.listD (wA b0) s s.heap) (hB : ∀ w ∈ xB, va_Nw w s) {U : State} (hU : U.heap = H) (hW : s.WarmedH U.vm) : xP D dA b0 ad h U :=
  ⟨w_pre X hP hD hS hU hW, by rw [hU]; exact vx_Zq.moved hW.alike (hZ1.kept hS.2.1), by rw [hU]; exact vx_Zq.moved hW.alike (hZ2.kept hS.2.1), xB_warm hW hB⟩
abbrev xQ (below : List Frame) (args : Array Value) (s : State) (D : va_G) (dA : Nat → ClassId) (b0 : Nat) (ad : Nat → Nat) (h : wSt) (res : Option Int32) : State → Prop := vx_MQ below (wQ D dA b0 ad S0 (wFI (fun r h2 => res = some r ∧ h2 = h))) (xX D dA b0 ad h res) args s 1 6 (wA b0)
theorem w_xret (X : wCx p s m args meth c own cc nL D dA b0 ad) {v : Int32} (hd : decode cc pc = .ok (.ireturn, 1)) (hr : meth.sig.returnType = some .int) (hres : res = some v) : wM p l e R s m args below meth c 0 0 (xQ below args s D dA b0 ad h res) nL D dA b0 ad S0 pc ls [.int v] h := by
  intro H locs arr hP hD hS hL
  refine W.widen (Nat.zero_le 1) (Nat.zero_le 6) (vx_ret ?_)
  exact W.iret X.1 X.2.1 hr (fun t ht hW => ⟨⟨some (.int v), h, rfl, ⟨v, rfl, hres, rfl⟩, by rw [ht]; exact hP, hD⟩, hS.F ht⟩) hS.2.2 hd X.2.2.2.2.2.2.2.1
theorem w_xthrow (X : wCx p s m args meth c RX10 cc nL D dA b0 ad) (hl : l.stackTraces = false) (hZ1 : vx_Zq Bundle.tN "UNASSIGNED_STACK" Bundle.steD (wA b0) s s.heap) (hZ2 : vx_Zq Bundle.tN "SUPPRESSED_SENTINEL" Bundle.listD (wA b0) s s.heap) (hB : ∀ w ∈ xB, va_Nw w s) (hout : ∀ x ∈ c.exceptionTable.toList, False)
    (d0 : decode cc pc = .ok (.new 293, 3)) (d3 : decode cc (pc + 3) = .ok (.dup, 1)) (d4 : decode cc (pc + 4) = .ok (.invokespecial 295, 3)) (d7 : decode cc (pc + 7) = .ok (.athrow, 1)) (hres : res = none) : wM p l e xR s m args below meth c 0 0 (xQ below args s D dA b0 ad h res) nL D dA b0 ad S0 pc ls [] h := by
  intro H locs arr hP hD hS hL
  refine vx_throw0 (names := xN) (A := wA b0) X.1 X.2.1 hl X.2.2.2.1 (by decide +kernel) (by decide +kernel) (X.2.2.2.2.1 _ x_k) (X.2.2.2.2.1 _ x_i) (vx_hat (fun w hw => X.2.2.2.2.1 w (x_T0 w hw)) x_ng (fun w hw => va_Nw.use (x_onT w hw) (hB w hw))) x_ot hZ1 hZ2 hS (hL.1.trans X.2.2.1.symm) d0 d3 d4 d7 (fun x hx => (hout x hx).elim) (by decide) (Nat.le_of_ble_eq_true rfl) (by decide) (by decide) X.2.2.2.2.2.2.2.1 (fun t _ hz hk => ⟨rfl, hres, hP.kept (fun k q hq => hk q.1 (vx_lt hP hq)), hD, Nat.le_trans hS.1 hz, fun q h1 h2 => ?_⟩) hS.2.2 (by decide) (by decide)
  rw [hk q (Nat.lt_of_lt_of_le h1 hS.1)]
  exact hS.2.1 q h1 h2
set_option maxRecDepth 4000 in
theorem pX10_rests_b75 (X : wCx p s m args meth c RX10 cX10_rests 9 D dA b0 ad) (hr : meth.sig.returnType = some .int) {v1 v2 v3 v4 v5 v6 v7 v8 : Int32} {K : (Int32 × Int32) ⊕ Option Int32 → Prop} (hN : ∀ n5 n6 : Int32, K (.inl (n5, n6)) → wM p l e xR s m args below meth c 0 0 (xQ below args s D dA b0 ad h res) 9 D dA b0 ad S0 41 [some (.ref 0), some (.int v1), some (.int v2), some (.int v3), some (.int v4), some (.int n5), some (.int n6), none, none] [] h) (hX0 : ∀ r, K (.inr r) → r = res)
    (hf : wok (fX10_rests_b75 h v1 v2 v3 v4 v5 v6 v7 v8) K) : wM p l e xR s m args below meth c 0 0 (xQ below args s D dA b0 ad h res) 9 D dA b0 ad S0 75 [some (.ref 0), some (.int v1), some (.int v2), some (.int v3), some (.int v4), some (.int v5), some (.int v6), some (.int v7), some (.int v8)] [] h := by
  unfold fX10_rests_b75 at hf
  have hend : ∀ n5 : Int32, K (.inl (n5, v6 + 1)) → wM p l e xR s m args below meth c 0 0 (xQ below args s D dA b0 ad h res) 9 D dA b0 ad S0 114 [some (.ref 0), some (.int v1), some (.int v2), some (.int v3), some (.int v4), some (.int n5), some (.int v6), some (.int v7), some (.int v8)] [] h := by
    intro n5 hK
    refine w_iinc X dX10_rests_114 rfl (v := (v6 + 1)) rfl rfl (Nat.le_of_ble_eq_true rfl) (cinc_1 _) (ls' := [some (.ref 0), some (.int v1), some (.int v2), some (.int v3), some (.int v4), some (.int n5), some (.int (v6 + 1)), some (.int v7), some (.int v8)]) rfl ?_
    refine w_goto X dX10_rests_117 (t := 41) rfl ?_
    refine w_fg (ls2 := [some (.ref 0), some (.int v1), some (.int v2), some (.int v3), some (.int v4), some (.int n5), some (.int (v6 + 1)), none, none]) ⟨rfl, rfl, rfl, rfl, rfl, rfl, rfl, trivial⟩ ?_
    exact hN _ _ hK
  refine w_iload X dX10_rests_75 rfl rfl ?_
  refine w_iload X dX10_rests_77 rfl rfl ?_
  refine w_iload_n X dX10_rests_79 rfl rfl rfl ?_
  refine w_iload_n X dX10_rests_80 rfl rfl rfl ?_
  refine w_iload_n X dX10_rests_81 rfl rfl rfl ?_
  obtain ⟨ya, eya, hf⟩ := wok_b hf
  refine w_callS X dX10_rests_82 rfl sl_X10_296 (kX10_isContent l eya) (As := [.int v7, .int v8, .int v1, .int v2, .int v3]) (st := []) rfl rfl (Nat.le_of_ble_eq_true rfl) ⟨Nat.le_of_ble_eq_true rfl, Nat.le_of_ble_eq_true rfl⟩ ⟨Nat.zero_le _, Nat.zero_le _⟩ (fun r h2 hF => ?_)
  obtain ⟨_, rfl, rfl, rfl⟩ := hF
  refine w_if_eq X dX10_rests_85 rfl (t := 114) rfl (fun hc => ?_) (fun hc => ?_)
  · have hf := wok_f hf (wb_0 hc)
    exact hend v5 (wok_s hf)
  · have hf := wok_t hf (wb_n0 hc)
    refine w_iload X dX10_rests_88 rfl rfl ?_
    refine w_iload X dX10_rests_90 rfl rfl ?_
    refine w_iload_n X dX10_rests_92 rfl rfl rfl ?_
    refine w_iload_n X dX10_rests_93 rfl rfl rfl ?_
    refine w_iload_n X dX10_rests_94 rfl rfl rfl ?_
    obtain ⟨yb, eyb, hf⟩ := wok_b hf
    refine w_callS X dX10_rests_95 rfl sl_X10_296 (kX10_isContent l eyb) (As := [.int v8, .int v7, .int v1, .int v2, .int v3]) (st := []) rfl rfl (Nat.le_of_ble_eq_true rfl) ⟨Nat.le_of_ble_eq_true rfl, Nat.le_of_ble_eq_true rfl⟩ ⟨Nat.zero_le _, Nat.zero_le _⟩ (fun r h2 hF => ?_)
    obtain ⟨_, rfl, rfl, rfl⟩ := hF
    refine w_if_eq X dX10_rests_98 rfl (t := 114) rfl (fun hc => ?_) (fun hc => ?_)
    · have hf := wok_f hf (wb_0 hc)
      exact hend v5 (wok_s hf)
    · have hf := wok_t hf (wb_n0 hc)
      refine w_iload X dX10_rests_101 rfl rfl ?_
      refine w_iload X dX10_rests_103 rfl rfl ?_
      refine w_icmp_ne X dX10_rests_105 rfl (t := 111) rfl (fun hc => ?_) (fun hc => ?_)
      · have hf := wok_f hf hc
        refine w_iinc X dX10_rests_111 rfl (v := (v5 + 1)) rfl rfl (Nat.le_of_ble_eq_true rfl) (cinc_1 _) (ls' := [some (.ref 0), some (.int v1), some (.int v2), some (.int v3), some (.int v4), some (.int (v5 + 1)), some (.int v6), some (.int v7), some (.int v8)]) rfl ?_
        exact hend (v5 + 1) (wok_s hf)
      · have hf := wok_t hf hc
        refine w_iload X dX10_rests_108 rfl rfl ?_
        exact w_xret X dX10_rests_110 hr (hX0 _ (wok_s hf)).symm
set_option maxRecDepth 4000 in
theorem pX10_rests_b58 (X : wCx p s m args meth c RX10 cX10_rests 9 D dA b0 ad) (hr : meth.sig.returnType = some .int) {v1 v2 v3 v4 v5 v6 v7 : Int32} {K : (Int32 × Int32) ⊕ Option Int32 → Prop} (hN : ∀ n5 n6 : Int32, K (.inl (n5, n6)) → wM p l e xR s m args below meth c 0 0 (xQ below args s D dA b0 ad h res) 9 D dA b0 ad S0 41 [some (.ref 0), some (.int v1), some (.int v2), some (.int v3), some (.int v4), some (.int n5), some (.int n6), none, none] [] h) (hX0 : ∀ r, K (.inr r) → r = res)
    (hf : wok (fX10_rests_b58 h v1 v2 v3 v4 v5 v6 v7) K) : wM p l e xR s m args below meth c 0 0 (xQ below args s D dA b0 ad h res) 9 D dA b0 ad S0 58 [some (.ref 0), some (.int v1), some (.int v2), some (.int v3), some (.int v4), some (.int v5), some (.int v6), none, none] [.int v7] h := by
  unfold fX10_rests_b58 at hf
  refine w_istore X dX10_rests_58 rfl rfl (Nat.le_of_ble_eq_true rfl) (ls' := [some (.ref 0), some (.int v1), some (.int v2), some (.int v3), some (.int v4), some (.int v5), some (.int v6), some (.int v7), none]) rfl ?_
  refine w_iload X dX10_rests_60 rfl rfl ?_
  refine w_iconst X dX10_rests_62 rfl ci_2 ?_
  refine w_irem X dX10_rests_63 rfl (by decide) ?_
  refine w_iconst X dX10_rests_64 rfl ci_1 ?_
  refine w_icmp_ne X dX10_rests_65 rfl (t := 72) rfl (fun hc => ?_) (fun hc => ?_)
  · have hf := wok_f hf hc
    refine w_iconst X dX10_rests_72 rfl ci_0 ?_
    refine w_istore X dX10_rests_73 rfl rfl (Nat.le_of_ble_eq_true rfl) (ls' := [some (.ref 0), some (.int v1), some (.int v2), some (.int v3), some (.int v4), some (.int v5), some (.int v6), some (.int v7), some (.int 0)]) rfl ?_
    exact pX10_rests_b75 X hr hN hX0 hf
  · have hf := wok_t hf hc
    refine w_iconst X dX10_rests_68 rfl ci_1 ?_
    refine w_goto X dX10_rests_69 (t := 73) rfl ?_
    refine w_istore X dX10_rests_73 rfl rfl (Nat.le_of_ble_eq_true rfl) (ls' := [some (.ref 0), some (.int v1), some (.int v2), some (.int v3), some (.int v4), some (.int v5), some (.int v6), some (.int v7), some (.int 1)]) rfl ?_
    exact pX10_rests_b75 X hr hN hX0 hf
set_option maxRecDepth 4000 in
theorem pX10_rests_b0 (X : wCx p s m args meth c RX10 cX10_rests 9 D dA b0 ad) (hr : meth.sig.returnType = some .int) (hl : l.stackTraces = false) (hZ1 : vx_Zq Bundle.tN "UNASSIGNED_STACK" Bundle.steD (wA b0) s s.heap) (hZ2 : vx_Zq Bundle.tN "SUPPRESSED_SENTINEL" Bundle.listD (wA b0) s s.heap) (hB : ∀ w ∈ xB, va_Nw w s) (hout : ∀ x ∈ c.exceptionTable.toList, False) {x1 x2 x3 x4 : Int32}
    (hf : wok (fX10_rests h x1 x2 x3 x4) (fun r => r = res)) : wM p l e xR s m args below meth c 0 0 (xQ below args s D dA b0 ad h res) 9 D dA b0 ad S0 0 [some (.ref 0), some (.int x1), some (.int x2), some (.int x3), some (.int x4), none, none, none, none] [] h := by
  unfold fX10_rests at hf
  have thr : ∀ {ls : List (Option Value)}, wok (some (none : Option Int32)) (fun r => r = res) → wM p l e xR s m args below meth c 0 0 (xQ below args s D dA b0 ad h res) 9 D dA b0 ad S0 27 ls [] h := fun hf => w_xthrow X hl hZ1 hZ2 hB hout dX10_rests_27 dX10_rests_30 dX10_rests_31 dX10_rests_34 (wok_s hf).symm
  refine w_iload_n X dX10_rests_0 rfl rfl rfl ?_
  obtain ⟨ya, eya, hf⟩ := wok_b hf
  refine w_callS X dX10_rests_1 rfl sl_X10_290 (kX10_isGain l eya) (As := [.int x1]) (st := []) rfl rfl (Nat.le_of_ble_eq_true rfl) ⟨Nat.le_of_ble_eq_true rfl, Nat.le_of_ble_eq_true rfl⟩ ⟨Nat.zero_le _, Nat.zero_le _⟩ (fun r h2 hF => ?_)
  obtain ⟨_, rfl, rfl, rfl⟩ := hF
  refine w_if_eq X dX10_rests_4 rfl (t := 27) rfl (fun hc => thr (wok_f hf (wb_0 hc))) (fun hc => ?_)
  have hf := wok_t hf (wb_n0 hc)
  refine w_iload_n X dX10_rests_7 rfl rfl rfl ?_
  obtain ⟨yb, eyb, hf⟩ := wok_b hf
  refine w_callS X dX10_rests_8 rfl sl_X10_290 (kX10_isGain l eyb) (As := [.int x2]) (st := []) rfl rfl (Nat.le_of_ble_eq_true rfl) ⟨Nat.le_of_ble_eq_true rfl, Nat.le_of_ble_eq_true rfl⟩ ⟨Nat.zero_le _, Nat.zero_le _⟩ (fun r h2 hF => ?_)
  obtain ⟨_, rfl, rfl, rfl⟩ := hF
  refine w_if_eq X dX10_rests_11 rfl (t := 27) rfl (fun hc => thr (wok_f hf (wb_0 hc))) (fun hc => ?_)
  have hf := wok_t hf (wb_n0 hc)
  refine w_iload_n X dX10_rests_14 rfl rfl rfl ?_
  obtain ⟨yc, eyc, hf⟩ := wok_b hf
  refine w_callS X dX10_rests_15 rfl sl_X10_290 (kX10_isGain l eyc) (As := [.int x3]) (st := []) rfl rfl (Nat.le_of_ble_eq_true rfl) ⟨Nat.le_of_ble_eq_true rfl, Nat.le_of_ble_eq_true rfl⟩ ⟨Nat.zero_le _, Nat.zero_le _⟩ (fun r h2 hF => ?_)
  obtain ⟨_, rfl, rfl, rfl⟩ := hF
  refine w_if_eq X dX10_rests_18 rfl (t := 27) rfl (fun hc => thr (wok_f hf (wb_0 hc))) (fun hc => ?_)
  have hf := wok_t hf (wb_n0 hc)
  refine w_iload X dX10_rests_21 rfl rfl ?_
  refine w_iconst X dX10_rests_23 rfl ci_m1 ?_
  refine w_icmp_ge X dX10_rests_24 rfl (t := 35) rfl (fun hc => ?_) (fun hc => thr (wok_f hf hc))
  have hf := wok_t hf hc
  refine w_iconst X dX10_rests_35 rfl ci_0 ?_
  refine w_istore X dX10_rests_36 rfl rfl (Nat.le_of_ble_eq_true rfl) (ls' := [some (.ref 0), some (.int x1), some (.int x2), some (.int x3), some (.int x4), some (.int 0), none, none, none]) rfl ?_
  refine w_iconst X dX10_rests_38 rfl ci_0 ?_
  refine w_istore X dX10_rests_39 rfl rfl (Nat.le_of_ble_eq_true rfl) (ls' := [some (.ref 0), some (.int x1), some (.int x2), some (.int x3), some (.int x4), some (.int 0), some (.int 0), none, none]) rfl ?_
  refine wit_M (b := fun v : Int32 × Int32 => fX10_rests_l41 h x1 x2 x3 x4 v.1 v.2) (KE := fun r => r = res) (G := fun v => wM p l e xR s m args below meth c 0 0 (xQ below args s D dA b0 ad h res) 9 D dA b0 ad S0 41 [some (.ref 0), some (.int x1), some (.int x2), some (.int x3), some (.int x4), some (.int v.1), some (.int v.2), none, none] [] h) ?_ 3000 ((0 : Int32), (0 : Int32)) hf
  intro v K hN hX0 hf
  obtain ⟨v5, v6⟩ := v
  have hf : wok (fX10_rests_l41 h x1 x2 x3 x4 v5 v6) K := hf
  unfold fX10_rests_l41 at hf
  refine w_iload X dX10_rests_41 rfl rfl ?_
  refine w_iconst X dX10_rests_43 rfl ci_4 ?_
  refine w_icmp_ge X dX10_rests_44 rfl (t := 120) rfl (fun hc => ?_) (fun hc => ?_)
  · have hf := wok_t hf hc
    refine w_iload X dX10_rests_120 rfl rfl ?_
    refine w_iconst X dX10_rests_122 rfl ci_m1 ?_
    refine w_icmp_eq X dX10_rests_123 rfl (t := 134) rfl (fun hc => ?_) (fun hc => ?_)
    · have hf := wok_t hf hc
      refine w_iload X dX10_rests_134 rfl rfl ?_
      exact w_xret X dX10_rests_136 hr (hX0 _ (wok_s hf)).symm
    · have hf := wok_f hf hc
      exact w_xthrow X hl hZ1 hZ2 hB hout dX10_rests_126 dX10_rests_129 dX10_rests_130 dX10_rests_133 (hX0 _ (wok_s hf)).symm
  · have hf := wok_f hf hc
    refine w_iload X dX10_rests_47 rfl rfl ?_
    refine w_iconst X dX10_rests_49 rfl ci_2 ?_
    refine w_icmp_lt X dX10_rests_50 rfl (t := 57) rfl (fun hc => ?_) (fun hc => ?_)
    · have hf := wok_t hf hc
      refine w_iconst X dX10_rests_57 rfl ci_0 ?_
      exact pX10_rests_b58 X hr (fun n5 n6 hK => hN (n5, n6) hK) (fun r hK => hX0 r hK) hf
    · have hf := wok_f hf hc
      refine w_iconst X dX10_rests_53 rfl ci_1 ?_
      refine w_goto X dX10_rests_54 (t := 58) rfl ?_
      exact pX10_rests_b58 X hr (fun n5 n6 hK => hN (n5, n6) hK) (fun r hK => hX0 r hK) hf
end WX92
theorem kX10_rests (l : Launch) (hl : l.stackTraces = false) {h : wSt} {x1 x2 x3 x4 : Int32} {res : Option Int32} (hf : fX10_rests h x1 x2 x3 x4 = some res) (D : va_G) (dA : Nat → ClassId) (b0 : Nat) (ad : Nat → Nat) : vx_Met l yX10_rests (Cond.code yX10_rests cX10_rests 9 (some .int) :: wT0) xR (va_Pc ([.ref 0, .int x1, .int x2, .int x3, .int x4].map (wv ad)) (xP D dA b0 ad h)) (wQ D dA b0 ad S0 (wFI (fun r h2 => res = some r ∧ h2 = h))) (xX D dA b0 ad h res) 1 6 (wA b0) := by
  refine vx_ofW (cc := cX10_rests) (maxL := 9) (ret := some .int) (by decide) rfl ?_
  intro p e s m args below meth c s₁ B hml hout hv
  obtain ⟨rfl, ⟨hP, hD, hK, hb0, hstr⟩, z1, z2, z3⟩ := hv
  have hts0 := atoms_spec (ws := Cond.code yX10_rests cX10_rests 9 (some .int) :: wT0) B.pre
  have hts : ∀ w ∈ wT0, w.before ([.ref 0, .int x1, .int x2, .int x3, .int x4].map (wv ad)).toArray s = true := fun w hw => hts0 w (List.mem_cons_of_mem _ hw)
  have hown : s.vm.findClass RX10 = some m.cls := findClass_of_methodNamed B.named
  have hlv := lv_entry (([.ref 0, .int x1, .int x2, .int x3, .int x4] : List Value).map (wv ad)) (n := 9) (by rw [wlo_len]; exact Nat.le_of_ble_eq_true rfl)
  have X : wCx p s m ([.ref 0, .int x1, .int x2, .int x3, .int x4].map (wv ad)).toArray meth c RX10 cX10_rests 9 D dA b0 ad := ⟨B.exec, B.bytes, hml, hown, hts, hK, hb0, B.notSynchronized, hstr⟩
  rw [lg_entry_eq]
  refine pX10_rests_b0 X B.returns hl z1 z2 z3 hout ⟨res, hf, rfl⟩ s.heap [] _ hP hD va_S.rf ⟨hlv.1, hlv.2.1, fun i v hv => ?_⟩
  have hls : (wlo [.ref 0, .int x1, .int x2, .int x3, .int x4])[i]? = some (some v) := by
    match i, hv with
    | 0, hv => exact hv
    | 1, hv => exact hv
    | 2, hv => exact hv
    | 3, hv => exact hv
    | 4, hv => exact hv
    | 5, hv => cases hv
    | 6, hv => cases hv
    | 7, hv => cases hv
    | 8, hv => cases hv
    | i + 9, hv => cases hv
  have := hlv.2.2 _ (wlo_args ad _ 0 i v hls)
  rw [Nat.zero_add] at this
  exact this

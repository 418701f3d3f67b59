def lw_P (b : Addr) (xs : List Int32) (args : Array Value) (s : State) : Prop := args = #[.ref b] ∧ s.IntsAt b xs ∧ xs.length ≤ 448 ∧ (Jvm.Cond.and given_1 narrow_1).before args s = true
def lw_Q (_ : Array Value) (s : State) (o : Outcome) (t : State) : Prop := o = .returned (some (.int 1)) ∧ Framed s o t [] 600128 7301098
def lw_Z (below : List Frame) (a : Array Value) (s : State) : State → Prop := fun t => ∃ o, t.status = .running ∧ Ended t below o ∧ lw_Q a s o t
/-- the law's own end, with 1 on the stack, nothing written that was there before, its room as the claim has it -/
theorem lw_ret {p : Program} {l : Launch} {e : Env} {s : State} {m : MethodId} {below : List Frame} {meth : Method} {c : Code} {b : Nat} (hx : p.tables.exec = Jvm.exec) (hb : c.code = code) (hr : meth.sig.returnType = ret) (hlocks : meth.locks = false) {pc : Nat} {H : Heap} {ls : Array Slot} (hdg : decode code pc = .ok (.ireturn, 1)) : W p l e room_1 s m #[Value.ref b] below meth c H [] 600128 7301098 (lw_Z below #[Value.ref b] s) (F0 m pc ls [.int 1]) := by
  intro T hT X
  obtain ⟨fs, hret, hrun, hended, hW, hframe⟩ := X.leave (v := some (.int 1)) (hlocks := hlocks) (fun h => by rw [hr] at h; cases h)
  have hmeth' : T.vm.method? m = some meth := X.method'
  refine ⟨T.setFrames fs, ?_, .returned (some (.int 1)), hrun, hended, rfl, ⟨_, rfl⟩, hW, hframe⟩
  jvm_step X.here [X.here.top, hx, hb, hdg, hmeth', hr, ret, narrow_b1]
  (try refine ⟨rfl, ?_⟩); (try refine ⟨rfl, ?_⟩)
  first | (intro acts; rw [hret _ acts rfl rfl rfl]) | rw [hret _ _ rfl rfl rfl]
  exact Steps.refl _
/-- what holds at the law's entry: the machine, the code, the tables' words (any of lw_tbl by 'hts w (by decide +kernel)'), the script of L ints xs at the cell b, what the Statement gives of the start (any of its parts by flat_of_before) -/
def lw_At (p : Program) (s : State) (m : MethodId) (meth : Method) (c : Code) (b L : Nat) (xs : Nat → Int32) : Prop :=
  p.tables.exec = Jvm.exec ∧ c.code = code ∧ meth.sig.returnType = ret ∧ c.maxLocals = 7 ∧ s.vm.findClass R_law = some m.cls ∧ (∀ w ∈ lw_tbl, w.before #[Value.ref b] s = true) ∧ va_X b L xs s s.heap ∧ b < s.heap.size ∧ meth.locks = false ∧ (Jvm.Cond.and given_1 narrow_1).before #[Value.ref b] s = true
theorem w_nests : ∀ q ∈ wNk, Cond.methodLinkNest q.1 q.2.1 q.2.2.1 q.2.2.2 ∈ lw_tbl := by decide +kernel
theorem w_over1 : Cond.arrayOver (.object "WornSkin$Bookmark") ∈ lw_tbl := by decide +kernel
theorem w_over2 : Cond.arrayOver (.object "WornSkin$Shelf") ∈ lw_tbl := by decide +kernel
theorem w_lays1 : Cond.laysStatic "java/lang/String" "COMPACT_STRINGS" "Z" ∈ lw_tbl := by decide +kernel
theorem w_lays2 : Cond.laysStatic "jdk/internal/util/Preconditions" "SIOOBE_FORMATTER" "Ljava/util/function/BiFunction;" ∈ lw_tbl := by decide +kernel
theorem w_ini1 : Cond.initialized "java/lang/String" ∈ lw_tbl := by decide +kernel
theorem w_ini2 : Cond.initialized "jdk/internal/util/Preconditions" ∈ lw_tbl := by decide +kernel
theorem w_st1 : Cond.eq (.static "java/lang/String" "COMPACT_STRINGS" "Z") (.int 1) ∈ wN1 := by decide +kernel
theorem w_st2 : Cond.isRef (.static "jdk/internal/util/Preconditions" "SIOOBE_FORMATTER" "Ljava/util/function/BiFunction;") ∈ wN1 := by decide +kernel
/-- from the law's entry to its loop -/
theorem w_enter {p : Program} {e : Env} {s : State} {m : MethodId} {below : List Frame} {meth : Method} {c : Code} (l : Launch) {b L : Nat} {xs : Nat → Int32} (C0 : lw_At p s m meth c b L xs)
    (hloop : ∀ (D : va_G) (dA : Nat → ClassId) (ad : Nat → Nat), ad 99999 = b → wCx p s m #[Value.ref b] meth c RL cL_law 7 D dA s.heap.size ad → wM p l e room_1 s m #[Value.ref b] below meth c (0 + 1 + 187 + 1 + 44 + 1) (0 + 12 + 4772 + 59 + 4925 + 1) (lw_Z below #[Value.ref b] s) 7 D dA s.heap.size ad S0 23 [some (.ref 99999), some (.ref 0), some (.ref 188), some (.ref 233), some (.int 0), none, none] [] wz) :
    W p l e room_1 s m #[Value.ref b] below meth c s.heap [] 0 0 (lw_Z below #[Value.ref b] s) (entryFrame m ([Value.ref b] : List Value).toArray 7) := by
  obtain ⟨hx, hb, hr, hml, hown, hts, hX, hbl, hlocks, hgv⟩ := id C0
  have hg := flat_of_before _ hgv
  have hA : ∀ a : Nat, a < s.heap.size → ¬ wA s.heap.size a := fun a h1 h2 => Nat.not_le.mpr h1 h2
  have hT0 : ∀ w ∈ wT0, w.before #[Value.ref b] s = true := fun w hw => hts w (wT0_tbl w hw)
  have hN : wNw s := ⟨fun q hq => va_Nw.of rfl (hts _ (w_nests q hq)), va_AO.of (hts _ w_over1), va_AO.of (hts _ w_over2)⟩
  obtain ⟨D, dA, hK⟩ := w_known hT0 hN
  obtain ⟨adK, adV, hS1, hS2⟩ := w_texts (A := wA s.heap.size) hg hts hA
  have hZ1 : va_Z "java/lang/String" "COMPACT_STRINGS" "Z" (.int 1) (wA s.heap.size) s s.heap := va_Zof (hts _ w_lays1) (hts _ w_ini1) (va_eqt (hg _ w_st1)) hA
  obtain ⟨z0, z1, hZ2⟩ : ∃ z0 z1 : Nat, va_Z "jdk/internal/util/Preconditions" "SIOOBE_FORMATTER" "Ljava/util/function/BiFunction;" (if z1 = 0 then .null else .ref z0) (wA s.heap.size) s s.heap := by
    rcases va_Zqof (A := wA s.heap.size) (hts _ w_lays2) (hts _ w_ini2) (hg _ w_st2) hA with h | ⟨t, h⟩
    · exact ⟨0, 0, h⟩
    · exact ⟨t, 1, h⟩
  generalize hade : (fun k : Nat => if k = 99999 then b else if k < 200000 then adK (k - 100000) else if k < 300000 then adV (k - 200000) else if k = 300000 then z0 else z1) = ad
  have a1 : ad 99999 = b := by rw [← hade]; rfl
  have a2 : ∀ i, i < 25 → ad (100000 + i) = adK i := by
    intro i hi
    rw [← hade]
    show (if 100000 + i = 99999 then b else if 100000 + i < 200000 then adK (100000 + i - 100000) else _) = _
    rw [if_neg (by omega), if_pos (by omega), Nat.add_sub_cancel_left]
  have a3 : ∀ i, i < 25 → ad (200000 + i) = adV i := by
    intro i hi
    rw [← hade]
    show (if 200000 + i = 99999 then b else if 200000 + i < 200000 then _ else if 200000 + i < 300000 then adV (200000 + i - 200000) else _) = _
    rw [if_neg (by omega), if_neg (by omega), if_pos (by omega), Nat.add_sub_cancel_left]
  have a4 : ad 300000 = z0 := by rw [← hade]; rfl
  have a5 : ad 300001 = z1 := by rw [← hade]; rfl
  have hstr : wStr ad s.heap.size s := by
    refine ⟨⟨fun i hi => ?_, fun i j hi hj h => ?_⟩, fun q hq => ?_, hZ1, ?_, hN⟩
    · have := hS1.1 i hi
      dsimp only
      rw [a2 i hi, a3 i hi]
      exact this
    · have h : ad (100000 + i) = ad (100000 + j) := h
      rw [a2 i hi, a2 j hj] at h
      exact hS1.2 i j hi hj h
    · rw [a2 _ (w_hsr q hq).2]
      exact hS2 q hq
    · have e1 : wv ad (wsv ad) = if z1 = 0 then .null else .ref z0 := by
        unfold wsv
        rw [a5]
        by_cases hz : z1 = 0
        · rw [if_pos hz, if_pos hz]; rfl
        · rw [if_neg hz, if_neg hz]
          show Value.ref (ad 300000) = _
          rw [a4]
      rw [e1]
      exact hZ2
  have X : wCx p s m #[Value.ref b] meth c RL cL_law 7 D dA s.heap.size ad := ⟨hx, hb, hml, hown, hT0, hK, Nat.le_refl _, hlocks, hstr⟩
  have hl := lv_entry ([.ref b]) (n := 7) (Nat.le_of_ble_eq_true rfl)
  rw [lg_entry_eq]
  have hw := w_begin (l := l) (e := e) (below := below) (Q := lw_Z below #[Value.ref b] s) X a1 (fun ad2 h2 X2 => hloop D dA ad2 h2 X2)
  refine hw s.heap [] _ (fun k q h => by simp [wW] at h) ⟨fun i j p q h => by simp [wW] at h, fun k q h => by simp [wW] at h⟩ va_S.rf ⟨hl.1, hl.2.1, fun i v hv => ?_⟩
  match i, hv with
  | 0, hv =>
    cases hv
    show _ = some (Slot.val (Value.ref (ad 99999)))
    rw [a1]
    exact hl.2.2 (0, .ref b) (by simp [lv_args])
  | 1, hv => cases hv
  | 2, hv => cases hv
  | 3, hv => cases hv
  | 4, hv => cases hv
  | 5, hv => cases hv
  | 6, hv => cases hv
  | i + 7, hv => cases hv

/-! A TEXT'S LINE -/
def dTx (D : gLib) (a b c : Nat) (w : List Nat) : gLib := (fun x i => if x = 0 then (if i = 1 then gnt D + 1 else D.1 0 i) else if i = gnt D then (if x = 4 then a else if x = 5 then b else if x = 6 then c else D.1 x i) else D.1 x i, fun j i => if j = 1 ∧ i = gnt D then w else D.2.1 j i, D.2.2)
def gU2 (D : gLib) (T : gTp) (s : Nat × Nat) : Nat × Nat := gTq T (gKd T (gS1 D T s).1) (gS1 D T s)
def gU3 (D : gLib) (T : gTp) (s : Nat × Nat) : Nat × Nat := gTq T (gIk T (gU2 D T s).1) (gU2 D T s)
def gU4 (D : gLib) (T : gTp) (s : Nat × Nat) : Nat × Nat := gTd T 2 (gU3 D T s)
def gU5 (D : gLib) (T : gTp) (s : Nat × Nat) : Nat × Nat := nx T (gNw T 1 6 (gU4 D T s))
def gTx (D : gLib) (T : gTp) (s : Nat × Nat) : (Nat × Nat) × gLib := if gnt D < 6 then (gTs T 59 (gU5 D T s), dTx D ((gKd T (gS1 D T s).1).getD 0) ((gIk T (gU2 D T s).1).getD 0) (gTn T (gU4 D T s).1) (gTw T (nx T s).1)) else (fl T 5 s, D)
section G68
variable {h : wSt} {T : gTp} {b : Nat} {D : gLib}
theorem gTx_s {s : Nat × Nat} (hn : gnt D < 6) : gTx D T s = (gTs T 59 (gU5 D T s), dTx D ((gKd T (gS1 D T s).1).getD 0) ((gIk T (gU2 D T s).1).getD 0) (gTn T (gU4 D T s).1) (gTw T (nx T s).1)) := if_pos hn
theorem gTx_f {s : Nat × Nat} (hn : ¬ gnt D < 6) : gTx D T s = (fl T 5 s, D) := if_neg hn
theorem gTq_f {o : Option Nat} {s : Nat × Nat} (hq : s.2 ≠ 0) : gTq T o s = s := by
  unfold gTq
  cases o with
  | none => rw [Option.isSome_none, if_neg (show ¬ false = true by decide), fl_f hq, nx_f hq]
  | some i => rw [Option.isSome_some, if_pos (show true = true from rfl), nx_f hq]
theorem gTq_2 {o : Option Nat} {s : Nat × Nat} (hq : (gTq T o s).2 = 0) : s.2 = 0 ∧ ∃ i, o = some i := by
  have q : s.2 = 0 := by
    by_cases q : s.2 = 0
    · exact q
    · rw [gTq_f q] at hq; exact hq
  refine ⟨q, ?_⟩
  cases o with
  | none =>
    unfold gTq at hq
    rw [Option.isSome_none, if_neg (show ¬ false = true by decide), nx_2] at hq
    exact absurd hq (fl_ne (by omega))
  | some i => exact ⟨i, rfl⟩
theorem gU5_0 {s : Nat × Nat} (q : (gTs T 59 (gU5 D T s)).2 = 0) : (gU5 D T s).2 = 0 ∧ ((gU4 D T s).2 = 0 ∧ gTk T (gU4 D T s).1 = 2 ∧ 1 ≤ gTn T (gU4 D T s).1 ∧ gTn T (gU4 D T s).1 ≤ 6) ∧ (gU3 D T s).2 = 0 ∧ (gU2 D T s).2 = 0 ∧ (gS1 D T s).2 = 0 := by
  have q5 := gTs_2 q
  have p5 := q5
  unfold gU5 at p5
  rw [nx_2] at p5
  obtain ⟨q4, k4, l4, m4, -⟩ := gNw_2 p5
  have p4 := q4
  unfold gU4 at p4
  have q3 := gTd_2 p4
  have p3 := q3
  unfold gU3 at p3
  have q2 := (gTq_2 p3).1
  have p2 := q2
  unfold gU2 at p2
  exact ⟨q5, ⟨q4, k4, l4, m4⟩, q3, q2, (gTq_2 p2).1⟩
theorem DC_tx {g : wSt} (hD : DC h D) {a c e : Nat} {w : List Nat} (g0 : g.1 16 5 = nI (gnt D + 1)) (gi : ∀ i, i ≠ 5 → g.1 16 i = h.1 16 i) (g22 : ∀ i, g.1 22 i = if i = gnt D then nI a else h.1 22 i) (g23 : ∀ i, g.1 23 i = if i = gnt D then nI c else h.1 23 i) (g24 : ∀ i, g.1 24 i = if i = gnt D then nI e else h.1 24 i) (g21 : ∀ i, g.2 21 i = if i = gnt D then lN (eN 32 w) else h.2 21 i) (go : ∀ c, 17 ≤ c → c ≤ 20 → g.1 c = h.1 c ∧ g.2 c = h.2 c) (g25 : g.1 25 = h.1 25) : DC g (dTx D a c e w) := by
  obtain ⟨d1, d2, d3, d4, d5, d6⟩ := hD
  refine ⟨by rw [gi 0 (by omega)]; exact d1, g0, by rw [gi 10 (by omega)]; exact d3, fun i hi => ?_, fun t ht => ?_, fun i hi => ?_⟩
  · have hi : i < gns D := hi
    rw [(go 18 (by omega) (by omega)).1, (go 19 (by omega) (by omega)).1, (go 20 (by omega) (by omega)).1, (go 17 (by omega) (by omega)).2]
    have := d4 i hi
    unfold gln gtk gho gnm dTx
    simp only [if_false, false_and, Nat.reduceEqDiff, ite_self]
    exact this
  · have ht : t < gnt D + 1 := ht
    rw [g22, g23, g24, g21]
    by_cases e : t = gnt D
    · rw [if_pos e, if_pos e, if_pos e, if_pos e]
      unfold gkd gga gtl gnm dTx
      simp only [e, if_true, and_self, if_false, Nat.reduceEqDiff, and_true]
    · rw [if_neg e, if_neg e, if_neg e, if_neg e]
      have := d5 t (by omega)
      unfold gkd gga gtl gnm dTx
      simp only [e, if_false, and_false, Nat.reduceEqDiff]
      exact this
  · have hi : i < gnd D := hi
    rw [g25]
    have := d6 i hi
    unfold gdm dTx
    simp only [if_false, Nat.reduceEqDiff, ite_self]
    exact this
theorem c_readText0 (hW : WL D) (hD : DC h D) (hs : SC h T b 0) (hn : gnt D < 6) : ∃ g, fX4_readText h 16 = some g ∧ SCs g T (gTs T 59 (gU5 D T (b, 0))) ∧ fr sl h g ∧ ((gTs T 59 (gU5 D T (b, 0))).2 = 0 → DC g (dTx D ((gKd T (gS1 D T (b, 0)).1).getD 0) ((gIk T (gU2 D T (b, 0)).1).getD 0) (gTn T (gU4 D T (b, 0)).1) (gTw T (nx T (b, 0)).1))) := by
  have d0 := hD.2.1
  have hss : SCs h T (b, 0) := hs
  obtain ⟨g1, e1, s1', f1⟩ := c_nxt hss
  have D1 := DC_fr hD f1 (fun c _ _ => by unfold s1; omega)
  obtain ⟨v, g2, e2, s2, f2, v2⟩ := c_takeNewName s1' (nm := gnm D 0) (nt := gnm D 1) D1.1 (fun i hi => ⟨(hW.2.2.2.1 i hi).2.2.2.2.2, (D1.2.2.2.1 i hi).2.2.2⟩) hW.1 D1.2.1 (fun i hi => ⟨(hW.2.2.2.2.1 i hi).2.2.2.2, (D1.2.2.2.2.1 i hi).2.2.2⟩) hW.2.1
  have s2 : SCs g2 T (gS1 D T (b, 0)) := s2
  have v2 : (gS1 D T (b, 0)).2 = 0 → v = lN (eN 32 (gTw T (nx T (b, 0)).1)) := v2
  have f3 : fr (fun c => c = 21) g2 (wuJ g2 21 (gnt D) v) := fr_wuJ rfl
  obtain ⟨g4, e4, s4, f4⟩ := c_takeKind (SC_fr s2 f3 (by omega) (by omega) : SCs _ T _)
  have s4 : SCs g4 T (gU2 D T (b, 0)) := s4
  have f5 : fr (fun c => c = 22) g4 (wuI g4 22 (gnt D) (nI ((gKd T (gS1 D T (b, 0)).1).getD 0))) := fr_wuI rfl
  obtain ⟨g6, e6, s6, f6⟩ := c_takeInk (SC_fr s4 f5 (by omega) (by omega) : SCs _ T _)
  have s6 : SCs g6 T (gU3 D T (b, 0)) := s6
  have f7 : fr (fun c => c = 23) g6 (wuI g6 23 (gnt D) (nI ((gIk T (gU2 D T (b, 0)).1).getD 0))) := fr_wuI rfl
  obtain ⟨g8, e8, s8, f8⟩ := c_takeWord (SC_fr s6 f7 (by omega) (by omega) : SCs _ T _) (i := 2) (by omega) (by omega)
  have s8 : SCs g8 T (gU4 D T (b, 0)) := s8
  obtain ⟨g9, e9, s9, f9⟩ := c_takeNumber s8 (lo := 1) (hi := 6) (by omega) (by omega)
  have s9 : SCs g9 T (gU5 D T (b, 0)) := s9
  have f10 : fr (fun c => c = 24) g9 (wuI g9 24 (gnt D) (g8.1 1 5)) := fr_wuI rfl
  obtain ⟨g11, e11, s11, f11⟩ := c_takeSign (SC_fr s9 f10 (by omega) (by omega) : SCs _ T _) (x := 59) (by omega)
  have s11 : SCs g11 T (gTs T 59 (gU5 D T (b, 0))) := s11
  have f12 : fr (fun c => c = 16) g11 (wuI g11 16 5 (nI (gnt D + 1))) := fr_wuI rfl
  have k1 : ∀ c, c ≠ 1 → g1.1 c = h.1 c ∧ g1.2 c = h.2 c := fun c hc => f1 c (by unfold s1; omega)
  have k2 : ∀ c, c ≠ 1 → g2.1 c = h.1 c ∧ g2.2 c = h.2 c := fun c hc => ⟨((f2 c (by unfold s1; omega)).1).trans (k1 c hc).1, ((f2 c (by unfold s1; omega)).2).trans (k1 c hc).2⟩
  have k4 : ∀ c, c ≠ 1 → g4.1 c = h.1 c := fun c hc => by rw [fr_at f4 (by unfold s1; omega)]; exact (k2 c hc).1
  have k6 : ∀ c, c ≠ 1 → g6.1 c = (wuI g4 22 (gnt D) (nI ((gKd T (gS1 D T (b, 0)).1).getD 0))).1 c := fun c hc => fr_at f6 (by unfold s1; omega)
  have k8 : ∀ c, c ≠ 1 → g8.1 c = (wuI g6 23 (gnt D) (nI ((gIk T (gU2 D T (b, 0)).1).getD 0))).1 c := fun c hc => fr_at f8 (by unfold s1; omega)
  have k9 : ∀ c, c ≠ 1 → g9.1 c = g8.1 c := fun c hc => fr_at f9 (by unfold s1; omega)
  have k11 : ∀ c, c ≠ 1 → g11.1 c = (wuI g9 24 (gnt D) (g8.1 1 5)).1 c := fun c hc => fr_at f11 (by unfold s1; omega)
  have l11 : ∀ c, c ≠ 1 → g11.2 c = (wuJ g2 21 (gnt D) v).2 c := fun c hc => by
    rw [(f11 c (by unfold s1; omega)).2]
    show g9.2 c = _
    rw [(f9 c (by unfold s1; omega)).2, (f8 c (by unfold s1; omega)).2]
    show g6.2 c = _
    rw [(f6 c (by unfold s1; omega)).2]
    show g4.2 c = _
    rw [(f4 c (by unfold s1; omega)).2]
  have y1 : g1.1 16 5 = nI (gnt D) := by rw [(k1 16 (by omega)).1]; exact d0
  have y2 : g2.1 16 5 = nI (gnt D) := by rw [(k2 16 (by omega)).1]; exact d0
  have y4 : g4.1 16 5 = nI (gnt D) := by rw [k4 16 (by omega)]; exact d0
  have y8 : g8.1 16 5 = nI (gnt D) := by rw [k8 16 (by omega), wuc (by omega), k6 16 (by omega), wuc (by omega)]; exact y4
  have y11 : g11.1 16 5 = nI (gnt D) := by rw [k11 16 (by omega), wuc (by omega), k9 16 (by omega)]; exact y8
  refine ⟨wuI g11 16 5 (nI (gnt D + 1)), ?_, SC_fr s11 f12 (by omega) (by omega), ?_, fun q => ?_⟩
  · simp (disch := omega) only [↓reduceIte, wlet, Option.bind_some, true_and, and_true, not_true_eq_false, not_false_eq_true, reduceCtorEq, n0_, n1_, n2_, n3_, n4_, n5_, n6_, n7_, n8_, n9_, n10_, n12_, n16_, n18_, n20_, n21_, n22_, n24_, n25_, n26_, n27_, n28_, n29_, n30_, n31_, n32_, n40_, n41_, n42_, n43_, n45_, n48_, n54_, n57_, n58_, n59_, n60_, n61_, n63_, n96_, n97_, n99_, n100_, n122_, n126_, n200_, n255_, n375_, n400_, n1000_, n2000_, n9999_, n5764801_, n1000000_, n3000_, m1, m2, le_t, le_f, lt_t, lt_f, eq_t, eq_f, no_lt, no_le, le_no, lt_no, eq_no, no_eq, add_no, wib_t, clamp, nI_add, pk_mul, pk_sub, nor_, nand_, ndif_, shl_, sh1_, shr_, tbn, tb0, tb1, les_t, les_f, pk_div, rem_, remv, and31, wu1, wuc, wui, wu2, ws1, wsc, ws2, wv1, n11_, n13_, n14_, n15_, n17_, n19_, n23_, n56_, n64_, fX4_readText, d0, e1, e2, y1, y2, e4, y4, e6, e8, e9, y8, e11, y11, wv1, Nat.reduceAdd]
  · refine fr_tr (fr_mono (fr_tr f1 f2) (fun c q => Or.inl q)) (fr_tr (fr_mono f3 (fun c q => by unfold sl; omega)) (fr_tr (fr_mono f4 (fun c q => Or.inl q)) (fr_tr (fr_mono f5 (fun c q => by unfold sl; omega)) (fr_tr (fr_mono f6 (fun c q => Or.inl q)) (fr_tr (fr_mono f7 (fun c q => by unfold sl; omega)) (fr_tr (fr_mono (fr_tr f8 f9) (fun c q => Or.inl q)) (fr_tr (fr_mono f10 (fun c q => by unfold sl; omega)) (fr_tr (fr_mono f11 (fun c q => Or.inl q)) (fr_mono f12 (fun c q => by unfold sl; omega))))))))))
  · obtain ⟨q5, ⟨q4, t4, l4, u4⟩, q3, q2, q1⟩ := gU5_0 q
    have x8 : g8.1 1 5 = nI (gTn T (gU4 D T (b, 0)).1) := s8.2.2.2.2.2.2.2.2.1 t4
    refine DC_tx hD wu1 (fun i hi => ?_) (fun i => ?_) (fun i => ?_) (fun i => ?_) (fun i => ?_) (fun c h1 h2 => ⟨?_, ?_⟩) ?_
    · rw [wui hi, k11 16 (by omega), wuc (by omega), k9 16 (by omega), k8 16 (by omega), wuc (by omega), k6 16 (by omega), wuc (by omega), k4 16 (by omega)]
    · rw [wuc (by omega), k11 22 (by omega), wuc (by omega), k9 22 (by omega), k8 22 (by omega), wuc (by omega), k6 22 (by omega), wuS, k4 22 (by omega)]
    · rw [wuc (by omega), k11 23 (by omega), wuc (by omega), k9 23 (by omega), k8 23 (by omega), wuS, k6 23 (by omega), wuc (by omega), k4 23 (by omega)]
    · rw [wuc (by omega), k11 24 (by omega), wuS, x8, k9 24 (by omega), k8 24 (by omega), wuc (by omega), k6 24 (by omega), wuc (by omega), k4 24 (by omega)]
    · show g11.2 21 i = _
      rw [l11 21 (by omega)]
      by_cases e : i = gnt D
      · rw [if_pos e, e, wv2]; exact v2 q1
      · rw [if_neg e, wvi e, (k2 21 (by omega)).2]
    · rw [wuc (by omega), k11 c (by omega), wuc (by omega), k9 c (by omega), k8 c (by omega), wuc (by omega), k6 c (by omega), wuc (by omega), k4 c (by omega)]
    · show g11.2 c = _
      rw [l11 c (by omega), wvc (by omega), (k2 c (by omega)).2]
    · rw [wuc (by omega), k11 25 (by omega), wuc (by omega), k9 25 (by omega), k8 25 (by omega), wuc (by omega), k6 25 (by omega), wuc (by omega), k4 25 (by omega)]
end G68

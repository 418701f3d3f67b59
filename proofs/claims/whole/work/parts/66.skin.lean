/-! A SKIN'S LINE -/
/-- the draft of a library, each side -/
def DC (h : wSt) (D : gLib) : Prop := h.1 16 0 = nI (gns D) ∧ h.1 16 5 = nI (gnt D) ∧ h.1 16 10 = nI (gnd D) ∧ (∀ i, i < gns D → h.1 18 i = nI (gln D i) ∧ h.1 19 i = nI (gtk D i) ∧ h.1 20 i = nI (gho D i) ∧ h.2 17 i = lN (eN 32 (gnm D 0 i)))
  ∧ (∀ t, t < gnt D → h.1 22 t = nI (gkd D t) ∧ h.1 23 t = nI (gga D t) ∧ h.1 24 t = nI (gtl D t) ∧ h.2 21 t = lN (eN 32 (gnm D 1 t))) ∧ ∀ i, i < gnd D → h.1 25 i = nI (gdm D i)
def DM (h : wSt) (D : gLib) : Prop := h.1 190 3 = nI (gns D) ∧ h.1 190 4 = nI (gnt D) ∧ h.1 190 5 = nI (gnd D) ∧ (∀ i, i < gns D → h.1 193 (3 + i) = nI (gln D i) ∧ h.1 194 (3 + i) = nI (gtk D i) ∧ h.1 195 (3 + i) = nI (gho D i) ∧ h.2 191 (3 + i) = lN (eN 27 (gnm D 0 i)))
  ∧ (∀ t, t < gnt D → h.1 196 (6 + t) = nI (gkd D t) ∧ h.1 197 (6 + t) = nI (gga D t) ∧ h.1 198 (6 + t) = nI (gtl D t) ∧ h.2 192 (6 + t) = lN (eN 27 (gnm D 1 t))) ∧ ∀ i, i < gnd D → h.1 199 (12 + i) = nI (gdm D i)
theorem DC_fr {h g : wSt} {D : gLib} {P : Nat → Prop} (a : DC h D) (f : fr P h g) (hP : ∀ c, 16 ≤ c → c ≤ 25 → ¬ P c) : DC g D := by
  have q := fun c h1 h2 => f c (hP c h1 h2)
  unfold DC
  rw [(q 16 (by omega) (by omega)).1, (q 18 (by omega) (by omega)).1, (q 19 (by omega) (by omega)).1, (q 20 (by omega) (by omega)).1, (q 22 (by omega) (by omega)).1, (q 23 (by omega) (by omega)).1, (q 24 (by omega) (by omega)).1, (q 25 (by omega) (by omega)).1, (q 17 (by omega) (by omega)).2, (q 21 (by omega) (by omega)).2]
  exact a
theorem DM_fr {h g : wSt} {D : gLib} {P : Nat → Prop} (a : DM h D) (f : fr P h g) (hP : ∀ c, 190 ≤ c → c ≤ 199 → ¬ P c) : DM g D := by
  have q := fun c h1 h2 => f c (hP c h1 h2)
  unfold DM
  rw [(q 190 (by omega) (by omega)).1, (q 193 (by omega) (by omega)).1, (q 194 (by omega) (by omega)).1, (q 195 (by omega) (by omega)).1, (q 196 (by omega) (by omega)).1, (q 197 (by omega) (by omega)).1, (q 198 (by omega) (by omega)).1, (q 199 (by omega) (by omega)).1, (q 191 (by omega) (by omega)).2, (q 192 (by omega) (by omega)).2]
  exact a
def dSk (D : gLib) (a b : Nat) (w : List Nat) : gLib := (fun x i => if x = 0 then (if i = 0 then gns D + 1 else D.1 0 i) else if i = gns D then (if x = 1 then a else if x = 2 then b else if x = 3 then 0 else D.1 x i) else D.1 x i, fun j i => if j = 0 ∧ i = gns D then w else D.2.1 j i, D.2.2)
def gS1 (D : gLib) (T : gTp) (s : Nat × Nat) : Nat × Nat := gNew T (gnm D 0) (gns D) (gnm D 1) (gnt D) (nx T s)
def gS2 (D : gLib) (T : gTp) (s : Nat × Nat) : Nat × Nat := gTd T 2 (gS1 D T s)
def gS3 (D : gLib) (T : gTp) (s : Nat × Nat) : Nat × Nat := nx T (gNw T 1 6 (gS2 D T s))
def gS4 (D : gLib) (T : gTp) (s : Nat × Nat) : Nat × Nat := gTd T 3 (gS3 D T s)
def gS5 (D : gLib) (T : gTp) (s : Nat × Nat) : Nat × Nat := nx T (gNw T 1 30 (gS4 D T s))
def gSk (D : gLib) (T : gTp) (s : Nat × Nat) : (Nat × Nat) × gLib := if gns D < 3 then (gTs T 59 (gS5 D T s), dSk D (gTn T (gS2 D T s).1) (gTn T (gS4 D T s).1) (gTw T (nx T s).1)) else (fl T 5 s, D)
def sl (c : Nat) : Prop := c = 1 ∨ (16 ≤ c ∧ c ≤ 25)
section G66
variable {h : wSt} {T : gTp} {b : Nat} {D : gLib}
theorem gS5_0 {s : Nat × Nat} (q : (gTs T 59 (gS5 D T s)).2 = 0) : (gS5 D T s).2 = 0 ∧ ((gS4 D T s).2 = 0 ∧ gTk T (gS4 D T s).1 = 2 ∧ 1 ≤ gTn T (gS4 D T s).1 ∧ gTn T (gS4 D T s).1 ≤ 30) ∧ (gS3 D T s).2 = 0 ∧ ((gS2 D T s).2 = 0 ∧ gTk T (gS2 D T s).1 = 2 ∧ 1 ≤ gTn T (gS2 D T s).1 ∧ gTn T (gS2 D T s).1 ≤ 6) ∧ (gS1 D T s).2 = 0 := by
  have q5 := gTs_2 q
  have p5 := q5
  unfold gS5 at p5
  rw [nx_2] at p5
  obtain ⟨q4, k4, l4, m4, -⟩ := gNw_2 p5
  have p4 := q4
  unfold gS4 at p4
  have q3 := gTd_2 p4
  have p3 := q3
  unfold gS3 at p3
  rw [nx_2] at p3
  obtain ⟨q2, k2, l2, m2', -⟩ := gNw_2 p3
  have p2 := q2
  unfold gS2 at p2
  exact ⟨q5, ⟨q4, k4, l4, m4⟩, q3, ⟨q2, k2, l2, m2'⟩, gTd_2 p2⟩
theorem DC_sk {g : wSt} (hD : DC h D) (hn : gns D < 3) {a c : Nat} {w : List Nat} (g0 : g.1 16 0 = nI (gns D + 1)) (gi : ∀ i, i ≠ 0 → g.1 16 i = h.1 16 i) (g18 : ∀ i, g.1 18 i = if i = gns D then nI a else h.1 18 i) (g19 : ∀ i, g.1 19 i = if i = gns D then nI c else h.1 19 i) (g20 : ∀ i, g.1 20 i = if i = gns D then nI 0 else h.1 20 i) (g17 : ∀ i, g.2 17 i = if i = gns D then lN (eN 32 w) else h.2 17 i) (go : ∀ c, 21 ≤ c → c ≤ 25 → g.1 c = h.1 c ∧ g.2 c = h.2 c) : DC g (dSk D a c w) := by
  obtain ⟨d1, d2, d3, d4, d5, d6⟩ := hD
  refine ⟨g0, by rw [gi 5 (by omega)]; exact d2, by rw [gi 10 (by omega)]; exact d3, fun i hi => ?_, fun t ht => ?_, fun i hi => ?_⟩
  · have hi : i < gns D + 1 := hi
    rw [g18, g19, g20, g17]
    by_cases e : i = gns D
    · rw [if_pos e, if_pos e, if_pos e, if_pos e]
      unfold gln gtk gho gnm dSk
      simp only [e, if_true, and_self, if_false, Nat.reduceEqDiff, and_true]
    · rw [if_neg e, if_neg e, if_neg e, if_neg e]
      have := d4 i (by omega)
      unfold gln gtk gho gnm dSk
      simp only [e, if_false, and_false, Nat.reduceEqDiff]
      exact this
  · have ht : t < gnt D := ht
    rw [(go 22 (by omega) (by omega)).1, (go 23 (by omega) (by omega)).1, (go 24 (by omega) (by omega)).1, (go 21 (by omega) (by omega)).2]
    have := d5 t ht
    unfold gkd gga gtl gnm dSk
    simp only [if_false, false_and, Nat.reduceEqDiff, ite_self]
    exact this
  · have hi : i < gnd D := hi
    rw [(go 25 (by omega) (by omega)).1]
    have := d6 i hi
    unfold gdm dSk
    simp only [if_false, Nat.reduceEqDiff, ite_self]
    exact this
theorem gSk_s {s : Nat × Nat} (hn : gns D < 3) : gSk D T s = (gTs T 59 (gS5 D T s), dSk D (gTn T (gS2 D T s).1) (gTn T (gS4 D T s).1) (gTw T (nx T s).1)) := if_pos hn
theorem gSk_f {s : Nat × Nat} (hn : ¬ gns D < 3) : gSk D T s = (fl T 5 s, D) := if_neg hn
theorem c_readSkin0 (hW : WL D) (hD : DC h D) (hs : SC h T b 0) (hn : gns D < 3) : ∃ g, fX4_readSkin h 16 = some g ∧ SCs g T (gTs T 59 (gS5 D T (b, 0))) ∧ fr sl h g ∧ ((gTs T 59 (gS5 D T (b, 0))).2 = 0 → DC g (dSk D (gTn T (gS2 D T (b, 0)).1) (gTn T (gS4 D T (b, 0)).1) (gTw T (nx T (b, 0)).1))) := by
  have d0 := hD.1
  have hss : SCs h T (b, 0) := hs
  have n3 := hW.1
  obtain ⟨g1, e1, s1', f1⟩ := c_nxt hss
  have D1 := DC_fr hD f1 (fun c _ _ => by unfold s1; omega)
  obtain ⟨v, g2, e2, s2, f2, v2⟩ := c_takeNewName s1' (nm := gnm D 0) (nt := gnm D 1) D1.1 (fun i hi => ⟨(hW.2.2.2.1 i hi).2.2.2.2.2, (D1.2.2.2.1 i hi).2.2.2⟩) hW.1 D1.2.1 (fun i hi => ⟨(hW.2.2.2.2.1 i hi).2.2.2.2, (D1.2.2.2.2.1 i hi).2.2.2⟩) hW.2.1
  have s2 : SCs g2 T (gS1 D T (b, 0)) := s2
  have v2 : (gS1 D T (b, 0)).2 = 0 → v = lN (eN 32 (gTw T (nx T (b, 0)).1)) := v2
  have f3 : fr (fun c => c = 17) g2 (wuJ g2 17 (gns D) v) := fr_wuJ rfl
  obtain ⟨g4, e4, s4, f4⟩ := c_takeWord (SC_fr s2 f3 (by omega) (by omega) : SCs _ T _) (i := 2) (by omega) (by omega)
  have s4 : SCs g4 T (gS2 D T (b, 0)) := s4
  obtain ⟨g5, e5, s5, f5⟩ := c_takeNumber s4 (lo := 1) (hi := 6) (by omega) (by omega)
  have s5 : SCs g5 T (gS3 D T (b, 0)) := s5
  have f6 : fr (fun c => c = 18) g5 (wuI g5 18 (gns D) (g4.1 1 5)) := fr_wuI rfl
  obtain ⟨g7, e7, s7, f7⟩ := c_takeWord (SC_fr s5 f6 (by omega) (by omega) : SCs _ T _) (i := 3) (by omega) (by omega)
  have s7 : SCs g7 T (gS4 D T (b, 0)) := s7
  obtain ⟨g8, e8, s8, f8⟩ := c_takeNumber s7 (lo := 1) (hi := 30) (by omega) (by omega)
  have s8 : SCs g8 T (gS5 D T (b, 0)) := s8
  have f9 : fr (fun c => c = 19 ∨ c = 20) g8 (wuI (wuI g8 19 (gns D) (g7.1 1 5)) 20 (gns D) (nI 0)) := fr_tr (fr_wuI (Or.inl rfl)) (fr_wuI (Or.inr rfl))
  obtain ⟨g10, e10, s10, f10⟩ := c_takeSign (SC_fr s8 f9 (by omega) (by omega) : SCs _ T _) (x := 59) (by omega)
  have s10 : SCs g10 T (gTs T 59 (gS5 D T (b, 0))) := s10
  have f11 : fr (fun c => c = 16) g10 (wuI g10 16 0 (nI (gns D + 1))) := fr_wuI rfl
  have k1 : ∀ c, c ≠ 1 → g1.1 c = h.1 c ∧ g1.2 c = h.2 c := fun c hc => f1 c (by unfold s1; omega)
  have k2 : ∀ c, c ≠ 1 → g2.1 c = h.1 c ∧ g2.2 c = h.2 c := fun c hc => ⟨((f2 c (by unfold s1; omega)).1).trans (k1 c hc).1, ((f2 c (by unfold s1; omega)).2).trans (k1 c hc).2⟩
  have k5 : ∀ c, c ≠ 1 → g5.1 c = h.1 c ∧ g5.2 c = (wuJ g2 17 (gns D) v).2 c := fun c hc => ⟨by rw [fr_at f5 (by unfold s1; omega), fr_at f4 (by unfold s1; omega)]; exact (k2 c hc).1, by rw [(f5 c (by unfold s1; omega)).2, (f4 c (by unfold s1; omega)).2]⟩
  have k4 : g4.1 16 0 = nI (gns D) := by rw [fr_at f4 (by unfold s1; omega)]; show g2.1 16 0 = _; rw [(k2 16 (by omega)).1]; exact d0
  have k8 : ∀ c, c ≠ 1 → c ≠ 18 → g8.1 c = h.1 c := fun c hc h8 => by rw [fr_at f8 (by unfold s1; omega), fr_at f7 (by unfold s1; omega), fr_at f6 h8, (k5 c hc).1]
  have k81 : g8.1 18 = (wuI g5 18 (gns D) (g4.1 1 5)).1 18 := by rw [fr_at f8 (by unfold s1; omega), fr_at f7 (by unfold s1; omega)]
  have k82 : ∀ c, c ≠ 1 → g8.2 c = (wuJ g2 17 (gns D) v).2 c := fun c hc => by
    rw [(f8 c (by unfold s1; omega)).2, (f7 c (by unfold s1; omega)).2]
    show g5.2 c = _
    exact (k5 c hc).2
  have k7 : g7.1 16 0 = nI (gns D) := by rw [fr_at f7 (by unfold s1; omega), fr_at f6 (by omega), (k5 16 (by omega)).1]; exact d0
  have k10 : ∀ c, c ≠ 1 → c ≠ 18 → c ≠ 19 → c ≠ 20 → g10.1 c = h.1 c := fun c h1 h2 h3 h4 => by rw [fr_at f10 (by unfold s1; omega), fr_at f9 (by omega), k8 c h1 h2]
  have y1 : g1.1 16 0 = nI (gns D) := by rw [(k1 16 (by omega)).1]; exact d0
  have y10 : g10.1 16 0 = nI (gns D) := by rw [k10 16 (by omega) (by omega) (by omega) (by omega)]; exact d0
  have y9 : g8.1 16 0 = nI (gns D) := by rw [k8 16 (by omega) (by omega)]; exact d0
  refine ⟨wuI g10 16 0 (nI (gns D + 1)), ?_, SC_fr s10 f11 (by omega) (by omega), ?_, fun q => ?_⟩
  · simp (disch := omega) only [↓reduceIte, wlet, Option.bind_some, true_and, and_true, not_true_eq_false, not_false_eq_true, reduceCtorEq, n0_, n1_, n2_, n3_, n4_, n5_, n6_, n7_, n8_, n9_, n10_, n12_, n16_, n18_, n20_, n21_, n22_, n24_, n25_, n26_, n27_, n28_, n29_, n30_, n31_, n32_, n40_, n41_, n42_, n43_, n45_, n48_, n54_, n57_, n58_, n59_, n60_, n61_, n63_, n96_, n97_, n99_, n100_, n122_, n126_, n200_, n255_, n375_, n400_, n1000_, n2000_, n9999_, n5764801_, n1000000_, n3000_, m1, m2, le_t, le_f, lt_t, lt_f, eq_t, eq_f, no_lt, no_le, le_no, lt_no, eq_no, no_eq, add_no, wib_t, clamp, nI_add, pk_mul, pk_sub, nor_, nand_, ndif_, shl_, sh1_, shr_, tbn, tb0, tb1, les_t, les_f, pk_div, rem_, remv, and31, wu1, wuc, wui, wu2, ws1, wsc, ws2, wv1, n11_, n13_, n14_, n15_, n17_, n19_, n23_, n56_, n64_, fX4_readSkin, d0, e1, e2, y1, e4, e5, k4, e7, e8, k7, y9, e10, y10, Nat.reduceAdd]
  · refine fr_tr (fr_mono (fr_tr f1 f2) (fun c q => Or.inl q)) (fr_tr (fr_mono f3 (fun c q => by unfold sl; omega)) (fr_tr (fr_mono (fr_tr f4 f5) (fun c q => Or.inl q)) (fr_tr (fr_mono f6 (fun c q => by unfold sl; omega)) (fr_tr (fr_mono (fr_tr f7 f8) (fun c q => Or.inl q)) (fr_tr (fr_mono f9 (fun c q => by unfold sl; omega)) (fr_tr (fr_mono f10 (fun c q => Or.inl q)) (fr_mono f11 (fun c q => by unfold sl; omega))))))))
  · obtain ⟨q5, ⟨q4, t4, l4, u4⟩, q3, ⟨q2, t2, l2, u2⟩, q1⟩ := gS5_0 q
    have x4 : g4.1 1 5 = nI (gTn T (gS2 D T (b, 0)).1) := s4.2.2.2.2.2.2.2.2.1 t2
    have x7 : g7.1 1 5 = nI (gTn T (gS4 D T (b, 0)).1) := s7.2.2.2.2.2.2.2.2.1 t4
    refine DC_sk hD hn wu1 (fun i hi => ?_) (fun i => ?_) (fun i => ?_) (fun i => ?_) (fun i => ?_) (fun c h1 h2 => ⟨?_, ?_⟩)
    · rw [wui hi, k10 16 (by omega) (by omega) (by omega) (by omega)]
    · rw [wuc (by omega), fr_at f10 (by unfold s1; omega), fr_at f9 (by omega), k81, wuS, x4, (k5 18 (by omega)).1]
    · rw [wuc (by omega), fr_at f10 (by unfold s1; omega), wuc (by omega), wuS, x7, k8 19 (by omega) (by omega)]
    · rw [wuc (by omega), fr_at f10 (by unfold s1; omega), wuS, wuc (by omega), k8 20 (by omega) (by omega)]
    · show g10.2 17 i = _
      rw [(f10 17 (by unfold s1; omega)).2]
      show g8.2 17 i = _
      rw [k82 17 (by omega)]
      by_cases e : i = gns D
      · rw [if_pos e, e, wv2]; exact v2 q1
      · rw [if_neg e, wvi e, (k2 17 (by omega)).2]
    · rw [wuc (by omega), k10 c (by omega) (by omega) (by omega) (by omega)]
    · show g10.2 c = _
      rw [(f10 c (by unfold s1; omega)).2]
      show g8.2 c = _
      rw [k82 c (by omega), wvc (by omega), (k2 c (by omega)).2]
theorem c_readSkin (hW : WL D) (hD : DC h D) (hs : SC h T b 0) : ∃ g, fX4_readSkin h 16 = some g ∧ SCs g T (gSk D T (b, 0)).1 ∧ fr sl h g ∧ ((gSk D T (b, 0)).1.2 = 0 → DC g (gSk D T (b, 0)).2) := by
  have d0 := hD.1
  have hss : SCs h T (b, 0) := hs
  have n3 := hW.1
  by_cases hn : gns D < 3
  · rw [gSk_s hn]; dsimp only; exact c_readSkin0 hW hD hs hn
  · rw [gSk_f hn]; dsimp only
    obtain ⟨g, e1, s1', f1⟩ := c_fl hss (k := 5) (by omega) (by omega)
    refine ⟨g, ?_, s1', fr_mono f1 (fun c q => Or.inl q), fun q => absurd q (fl_ne (by omega))⟩
    simp (disch := omega) only [↓reduceIte, wlet, Option.bind_some, true_and, and_true, not_true_eq_false, not_false_eq_true, reduceCtorEq, n0_, n1_, n2_, n3_, n4_, n5_, n6_, n7_, n8_, n9_, n10_, n12_, n16_, n18_, n20_, n21_, n22_, n24_, n25_, n26_, n27_, n28_, n29_, n30_, n31_, n32_, n40_, n41_, n42_, n43_, n45_, n48_, n54_, n57_, n58_, n59_, n60_, n61_, n63_, n96_, n97_, n99_, n100_, n122_, n126_, n200_, n255_, n375_, n400_, n1000_, n2000_, n9999_, n5764801_, n1000000_, n3000_, m1, m2, le_t, le_f, lt_t, lt_f, eq_t, eq_f, no_lt, no_le, le_no, lt_no, eq_no, no_eq, add_no, wib_t, clamp, nI_add, pk_mul, pk_sub, nor_, nand_, ndif_, shl_, sh1_, shr_, tbn, tb0, tb1, les_t, les_f, pk_div, rem_, remv, and31, wu1, wuc, wui, wu2, ws1, wsc, ws2, wv1, n11_, n13_, n14_, n15_, n17_, n19_, n23_, n56_, n64_, fX4_readSkin, d0, e1]
end G66

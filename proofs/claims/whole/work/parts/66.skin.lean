/-! A SKIN'S LINE -/
/-- the draft of a library, each side -/
def DC (h : wSt) (D : gLib) : Prop := h.1 16 0 = nI (gns D) ∧ h.1 16 5 = nI (gnt D) ∧ h.1 16 10 = nI (gnd D) ∧ (∀ i, i < gns D → h.1 18 i = nI (gln D i) ∧ h.1 19 i = nI (gtk D i) ∧ h.1 20 i = nI (gho D i) ∧ h.2 17 i = lN (eN 32 (gnm D 0 i)))
  ∧ (∀ t, t < gnt D → h.1 22 t = nI (gkd D t) ∧ h.1 23 t = nI (gga D t) ∧ h.1 24 t = nI (gtl D t) ∧ h.2 21 t = lN (eN 32 (gnm D 1 t))) ∧ ∀ i, i < gnd D → h.1 25 i = nI (gdm D i)
def DM (h : wSt) (D : gLib) : Prop := h.1 190 3 = nI (gns D) ∧ h.1 190 4 = nI (gnt D) ∧ h.1 190 5 = nI (gnd D) ∧ (∀ i, i < gns D → h.1 193 (3 + i) = nI (gln D i) ∧ h.1 194 (3 + i) = nI (gtk D i) ∧ h.1 195 (3 + i) = nI (gho D i) ∧ h.2 191 (3 + i) = lN (eN 27 (gnm D 0 i)))
  ∧ (∀ t, t < gnt D → h.1 196 (6 + t) = nI (gkd D t) ∧ h.1 197 (6 + t) = nI (gga D t) ∧ h.1 198 (6 + t) = nI (gtl D t) ∧ h.2 192 (6 + t) = lN (eN 27 (gnm D 1 t))) ∧ ∀ i, i < gnd D → h.1 199 (12 + i) = nI (gdm D i)
theorem DC_fr {h g : wSt} {D : gLib} {P : Nat → Prop} (a : DC h D) (f : fr P h g) (hP : ∀ c, 16 ≤ c → c ≤ 25 → ¬ P c) : DC g D := by
  have q := fun c h1 h2 => f c (hP c h1 h2)
  unfold DC
  rw [(q 16 (by omega) (by omega)).1, (q 18 (by omega) (by omega)).1, (q 19 (by omega) (by omega)).1, (q 20 (by omega) (by omega)).1, (q 22 (by omega) (by omega)).1, (q 23 (by omega) (by omega)).1, (q 24 (by omega) (by omega)).1, (q 25 (by omega) (by omega)).1, (q 17 (by omega) (by omega)).2, (q 21 (by omega) (by omega)).2]
  exact a
theorem DM_fr {h g : wSt} {D : gLib} {P : Nat → Prop} (a : DM h D) (f : fr P h g) (hP : ∀ c, 190 ≤ c → c ≤ 199 → ¬ P c) : DM g D := by
  have q := fun c h1 h2 => f c (hP c h1 h2)
  unfold DM
  rw [(q 190 (by omega) (by omega)).1, (q 193 (by omega) (by omega)).1, (q 194 (by omega) (by omega)).1, (q 195 (by omega) (by omega)).1, (q 196 (by omega) (by omega)).1, (q 197 (by omega) (by omega)).1, (q 198 (by omega) (by omega)).1, (q 199 (by omega) (by omega)).1, (q 191 (by omega) (by omega)).2, (q 192 (by omega) (by omega)).2]
  exact a
def dSk (D : gLib) (a b : Nat) (w : List Nat) : gLib := (fun x i => if x = 0 then (if i = 0 then gns D + 1 else D.1 0 i) else if i = gns D then (if x = 1 then a else if x = 2 then b else if x = 3 then 0 else D.1 x i) else D.1 x i, fun j i => if j = 0 ∧ i = gns D then w else D.2.1 j i, D.2.2)
def gS1 (D : gLib) (T : gTp) (s : Nat × Nat) : Nat × Nat := gNew T (gnm D 0) (gns D) (gnm D 1) (gnt D) (nx T s)
def gS2 (D : gLib) (T : gTp) (s : Nat × Nat) : Nat × Nat := gTd T 2 (gS1 D T s)
def gS3 (D : gLib) (T : gTp) (s : Nat × Nat) : Nat × Nat := nx T (gNw T 1 6 (gS2 D T s))
def gS4 (D : gLib) (T : gTp) (s : Nat × Nat) : Nat × Nat := gTd T 3 (gS3 D T s)
def gS5 (D : gLib) (T : gTp) (s : Nat × Nat) : Nat × Nat := nx T (gNw T 1 30 (gS4 D T s))
def gSk (D : gLib) (T : gTp) (s : Nat × Nat) : (Nat × Nat) × gLib := if gns D < 3 then (gTs T 59 (gS5 D T s), dSk D (gTn T (gS2 D T s).1) (gTn T (gS4 D T s).1) (gTw T (nx T s).1)) else (fl T 5 s, D)
def sl (c : Nat) : Prop := c = 1 ∨ (16 ≤ c ∧ c ≤ 28)
section G66
variable {h : wSt} {T : gTp} {b : Nat} {D : gLib}
theorem gS5_0 {s : Nat × Nat} (q : (gTs T 59 (gS5 D T s)).2 = 0) : (gS5 D T s).2 = 0 ∧ ((gS4 D T s).2 = 0 ∧ gTk T (gS4 D T s).1 = 2 ∧ 1 ≤ gTn T (gS4 D T s).1 ∧ gTn T (gS4 D T s).1 ≤ 30) ∧ (gS3 D T s).2 = 0 ∧ ((gS2 D T s).2 = 0 ∧ gTk T (gS2 D T s).1 = 2 ∧ 1 ≤ gTn T (gS2 D T s).1 ∧ gTn T (gS2 D T s).1 ≤ 6) ∧ (gS1 D T s).2 = 0 := by
  have q5 := gTs_2 q
  have p5 := q5
  unfold gS5 at p5
  rw [nx_2] at p5
  obtain ⟨q4, k4, l4, m4, -⟩ := gNw_2 p5
  have p4 := q4
  unfold gS4 at p4
  have q3 := gTd_2 p4
  have p3 := q3
  unfold gS3 at p3
  rw [nx_2] at p3
  obtain ⟨q2, k2, l2, m2', -⟩ := gNw_2 p3
  have p2 := q2
  unfold gS2 at p2
  exact ⟨q5, ⟨q4, k4, l4, m4⟩, q3, ⟨q2, k2, l2, m2'⟩, gTd_2 p2⟩
theorem DC_sk {g : wSt} (hD : DC h D) (hn : gns D < 3) {a c : Nat} {w : List Nat} (g0 : g.1 16 0 = nI (gns D + 1)) (gi : ∀ i, i ≠ 0 → g.1 16 i = h.1 16 i) (g18 : ∀ i, g.1 18 i = if i = gns D then nI a else h.1 18 i) (g19 : ∀ i, g.1 19 i = if i = gns D then nI c else h.1 19 i) (g20 : ∀ i, g.1 20 i = if i = gns D then nI 0 else h.1 20 i) (g17 : ∀ i, g.2 17 i = if i = gns D then lN (eN 32 w) else h.2 17 i) (go : ∀ c, 21 ≤ c → c ≤ 25 → g.1 c = h.1 c ∧ g.2 c = h.2 c) : DC g (dSk D a c w) := by
  obtain ⟨d1, d2, d3, d4, d5, d6⟩ := hD
  refine ⟨g0, by rw [gi 5 (by omega)]; exact d2, by rw [gi 10 (by omega)]; exact d3, fun i hi => ?_, fun t ht => ?_, fun i hi => ?_⟩
  · have hi : i < gns D + 1 := hi
    rw [g18, g19, g20, g17]
    by_cases e : i = gns D
    · rw [if_pos e, if_pos e, if_pos e, if_pos e]
      unfold gln gtk gho gnm dSk
      simp only [e, if_true, and_self, if_false, Nat.reduceEqDiff, and_true]
      exact ⟨rfl, rfl, rfl, rfl⟩
    · rw [if_neg e, if_neg e, if_neg e, if_neg e]
      have := d4 i (by omega)
      unfold gln gtk gho gnm dSk
      simp only [e, if_false, and_false, Nat.reduceEqDiff]
      exact this
  · have ht : t < gnt D := ht
    rw [(go 22 (by omega) (by omega)).1, (go 23 (by omega) (by omega)).1, (go 24 (by omega) (by omega)).1, (go 21 (by omega) (by omega)).2]
    have := d5 t ht
    unfold gkd gga gtl gnm dSk
    simp only [if_false, false_and, Nat.reduceEqDiff, ite_self]
    exact this
  · have hi : i < gnd D := hi
    rw [(go 25 (by omega) (by omega)).1]
    have := d6 i hi
    unfold gdm dSk
    simp only [if_false, Nat.reduceEqDiff, ite_self]
    exact this
end G66

/-! A HOLE'S LINE -/
def dHo (D : gLib) (i x : Nat) : gLib := (fun y j => if y = 3 ∧ j = i then x else D.1 y j, D.2.1, D.2.2)
def gH1 (D : gLib) (T : gTp) (s : Nat × Nat) : Nat × Nat := gTo T (gnm D 0) (gns D) (nx T s)
def gHi (D : gLib) (T : gTp) (s : Nat × Nat) : Nat := (gNf (gnm D 0) (gns D) (gTw T (nx T s).1)).getD 0
def gH2 (D : gLib) (T : gTp) (s : Nat × Nat) : Nat × Nat := gNw T 0 (gln D (gHi D T s) - 1) (gH1 D T s)
def gHo (D : gLib) (T : gTp) (s : Nat × Nat) : (Nat × Nat) × gLib := if (gH2 D T s).2 ≠ 0 then (gH2 D T s, D) else if (gho D (gHi D T s)).testBit (gTn T (gH1 D T s).1) then (fl T 3 (gH1 D T s), D) else (gTs T 59 (nx T (gH1 D T s)), dHo D (gHi D T s) (gho D (gHi D T s) ||| 2 ^ gTn T (gH1 D T s).1))
section G73
variable {h : wSt} {T : gTp} {b : Nat} {D : gLib}
theorem and_bit {a n : Nat} : a &&& 2 ^ n = 0 ↔ a.testBit n = false := by
  constructor
  · intro q
    have := congrArg (fun x => x.testBit n) q
    simpa [Nat.testBit_and, Nat.testBit_two_pow_self] using this
  · intro q
    apply Nat.eq_of_testBit_eq
    intro i
    rw [Nat.testBit_and, Nat.testBit_two_pow, Nat.zero_testBit]
    by_cases e : n = i
    · rw [← e, q]; rfl
    · rw [decide_eq_false e, Bool.and_false]
theorem or_lt {a n k : Nat} (ha : a < 2 ^ k) (hn : n < k) : a ||| 2 ^ n < 2 ^ k := Nat.or_lt_two_pow ha (Nat.pow_lt_pow_right (by omega) hn)
theorem WL_ho (hW : WL D) {i n : Nat} (hi : i < gns D) (hn : n < gln D i) : WL (dHo D i (gho D i ||| 2 ^ n)) := by
  obtain ⟨w1, w2, w3, w4, w5, w6⟩ := hW
  refine ⟨w1, w2, w3, fun j hj => ?_, w5, w6⟩
  have := w4 j hj
  by_cases e : j = i
  · subst e
    unfold gln gtk gho gnm dHo
    simp only [if_true, and_self, if_false, false_and, Nat.reduceEqDiff]
    exact ⟨this.1, this.2.1, this.2.2.1, this.2.2.2.1, or_lt this.2.2.2.2.1 hn, this.2.2.2.2.2⟩
  · unfold gln gtk gho gnm dHo
    simp only [e, and_false, if_false, Nat.reduceEqDiff]
    exact this
theorem DC_ho {g : wSt} (hD : DC h D) {i x : Nat} (g20 : ∀ j, g.1 20 j = if j = i then nI x else h.1 20 j) (go : ∀ c, 16 ≤ c → c ≤ 25 → c ≠ 20 → g.1 c = h.1 c ∧ g.2 c = h.2 c) : DC g (dHo D i x) := by
  obtain ⟨d1, d2, d3, d4, d5, d6⟩ := hD
  have o := fun c h1 h2 h3 => (go c h1 h2 h3).1
  refine ⟨by rw [o 16 (by omega) (by omega) (by omega)]; exact d1, by rw [o 16 (by omega) (by omega) (by omega)]; exact d2, by rw [o 16 (by omega) (by omega) (by omega)]; exact d3, fun j hj => ?_, fun t ht => ?_, fun j hj => ?_⟩
  · have := d4 j hj
    rw [o 18 (by omega) (by omega) (by omega), o 19 (by omega) (by omega) (by omega), g20, (go 17 (by omega) (by omega) (by omega)).2]
    by_cases e : j = i
    · rw [if_pos e]
      unfold gln gtk gho gnm dHo
      simp only [e, if_true, and_self, if_false, false_and, Nat.reduceEqDiff]
      rw [e] at this
      exact ⟨this.1, this.2.1, trivial, this.2.2.2⟩
    · rw [if_neg e]
      unfold gln gtk gho gnm dHo
      simp only [e, and_false, if_false, Nat.reduceEqDiff]
      exact this
  · have := d5 t ht
    rw [o 22 (by omega) (by omega) (by omega), o 23 (by omega) (by omega) (by omega), o 24 (by omega) (by omega) (by omega), (go 21 (by omega) (by omega) (by omega)).2]
    exact this
  · have := d6 j hj
    rw [o 25 (by omega) (by omega) (by omega)]
    exact this
end G73

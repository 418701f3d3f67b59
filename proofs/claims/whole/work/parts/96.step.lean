/-! ONE LINE OF THE SCRIPT -/
section G96
variable {h : wSt} {k L : Nat} {xs : Nat → Int32} {v4 : Int32}
set_option maxRecDepth 10000 in
set_option maxHeartbeats 4000000 in
theorem law_step (hI : Inv k h) (hk : k ≤ 1000) (c0 : ¬ (Int32.ofNat L - 7) < v4) (g0 : wib v4 L) (g1 : wib (v4 + 1) L) (g2 : wib (v4 + 2) L) (g3 : wib (v4 + 3) L) (g4 : wib (v4 + 4) L) (g5 : wib (v4 + 5) L) (g6 : wib (v4 + 6) L) (h32 : ¬ ((xs v4.toNatClampNeg) &&& 63) = 32) : ∃ h2, fL_law_l23 h xs L v4 = some (.inl (v4 + 7, h2)) ∧ Inv (k + 1) h2 := by
  unfold fL_law_l23
  rw [if_neg c0, if_pos g0]
  by_cases q0 : ((xs v4.toNatClampNeg) &&& 63) = 0
  · rw [if_pos q0, if_pos g1, if_pos g2, if_pos g3, if_pos g4, if_pos g5, if_pos g6]
    obtain ⟨r, a, b, e1, e2, i2⟩ := op_feed hI ((((xs (v4 + 1).toNatClampNeg).toInt64) <<< ((32 : Int32).toInt64 &&& 63)) ||| (((xs (v4 + 2).toNatClampNeg).toInt64) &&& 4294967295)) ((((xs (v4 + 3).toNatClampNeg).toInt64) <<< ((32 : Int32).toInt64 &&& 63)) ||| (((xs (v4 + 4).toNatClampNeg).toInt64) &&& 4294967295)) ((((xs (v4 + 5).toNatClampNeg).toInt64) <<< ((32 : Int32).toInt64 &&& 63)) ||| (((xs (v4 + 6).toNatClampNeg).toInt64) &&& 4294967295))
    refine ⟨b, ?_, Inv_mono i2 (Nat.le_succ _)⟩
    simp only [e1, Option.bind_some, e2, ↓reduceIte, fL_law_b1477_23]
  rw [if_neg q0]
  by_cases q1 : ((xs v4.toNatClampNeg) &&& 63) = 1
  · rw [if_pos q1]
    obtain ⟨r, a, b, e1, e2, i2⟩ := op_library hI
    refine ⟨b, ?_, Inv_mono i2 (Nat.le_succ _)⟩
    simp only [e1, Option.bind_some, e2, ↓reduceIte, fL_law_b1477_23]
  rw [if_neg q1]
  by_cases q2 : ((xs v4.toNatClampNeg) &&& 63) = 2
  · rw [if_pos q2]
    obtain ⟨r, a, b, e1, e2, i2⟩ := op_year hI
    refine ⟨b, ?_, Inv_mono i2 (Nat.le_succ _)⟩
    simp only [e1, Option.bind_some, e2, ↓reduceIte, fL_law_b1477_23]
  rw [if_neg q2]
  by_cases q3 : ((xs v4.toNatClampNeg) &&& 63) = 3
  · rw [if_pos q3, if_pos g1, if_pos g2]
    obtain ⟨r, a, b, e1, e2, i2⟩ := op_skin hI (xs (v4 + 1).toNatClampNeg) (xs (v4 + 2).toNatClampNeg)
    refine ⟨b, ?_, Inv_mono i2 (Nat.le_succ _)⟩
    simp only [e1, Option.bind_some, e2, ↓reduceIte, fL_law_b1477_23]
  rw [if_neg q3]
  by_cases q4 : ((xs v4.toNatClampNeg) &&& 63) = 4
  · rw [if_pos q4, if_pos g1, if_pos g2]
    obtain ⟨r, a, b, e1, e2, i2⟩ := op_text hI (xs (v4 + 1).toNatClampNeg) (xs (v4 + 2).toNatClampNeg)
    refine ⟨b, ?_, Inv_mono i2 (Nat.le_succ _)⟩
    simp only [e1, Option.bind_some, e2, ↓reduceIte, fL_law_b1477_23]
  rw [if_neg q4]
  by_cases q5 : ((xs v4.toNatClampNeg) &&& 63) = 5
  · rw [if_pos q5, if_pos g1, if_pos g2]
    obtain ⟨r, b, e1, e2, i2⟩ := op_layers hI (xs (v4 + 1).toNatClampNeg) (xs (v4 + 2).toNatClampNeg)
    refine ⟨b, ?_, Inv_mono i2 (Nat.le_succ _)⟩
    simp only [e1, Option.bind_some, e2, ↓reduceIte, fL_law_b1477_23]
  rw [if_neg q5]
  by_cases q6 : ((xs v4.toNatClampNeg) &&& 63) = 6
  · rw [if_pos q6, if_pos g1, if_pos g2, if_pos g3]
    obtain ⟨r, b, e1, e2, i2⟩ := op_layer hI (xs (v4 + 1).toNatClampNeg) (xs (v4 + 2).toNatClampNeg) (xs (v4 + 3).toNatClampNeg)
    refine ⟨b, ?_, Inv_mono i2 (Nat.le_succ _)⟩
    simp only [e1, Option.bind_some, e2, ↓reduceIte, fL_law_b1477_23]
  rw [if_neg q6]
  by_cases q7 : ((xs v4.toNatClampNeg) &&& 63) = 7
  · rw [if_pos q7, if_pos g1, if_pos g2]
    obtain ⟨r, a, b, e1, e2, i2⟩ := op_read hI (xs (v4 + 1).toNatClampNeg) (xs (v4 + 2).toNatClampNeg)
    refine ⟨b, ?_, Inv_mono i2 (Nat.le_succ _)⟩
    simp only [e1, Option.bind_some, e2, ↓reduceIte, fL_law_b1477_23]
  rw [if_neg q7]
  by_cases q8 : ((xs v4.toNatClampNeg) &&& 63) = 8
  · rw [if_pos q8, if_pos g1, if_pos g2, if_pos g3]
    obtain ⟨r, a, b, e1, e2, i2⟩ := op_write hI (xs (v4 + 1).toNatClampNeg) (xs (v4 + 2).toNatClampNeg) (xs (v4 + 3).toNatClampNeg)
    refine ⟨b, ?_, Inv_mono i2 (Nat.le_succ _)⟩
    simp only [e1, Option.bind_some, e2, ↓reduceIte, fL_law_b1477_23]
  rw [if_neg q8]
  by_cases q9 : ((xs v4.toNatClampNeg) &&& 63) = 9
  · rw [if_pos q9, if_pos g1]
    obtain ⟨r, a, b, e1, e2, i2⟩ := op_scrape hI (xs (v4 + 1).toNatClampNeg)
    refine ⟨b, ?_, Inv_mono i2 (Nat.le_succ _)⟩
    simp only [e1, Option.bind_some, e2, ↓reduceIte, fL_law_b1477_23]
  rw [if_neg q9]
  by_cases q10 : ((xs v4.toNatClampNeg) &&& 63) = 10
  · rw [if_pos q10, if_pos g1]
    obtain ⟨r, a, b, e1, e2, i2⟩ := op_third hI (xs (v4 + 1).toNatClampNeg)
    refine ⟨b, ?_, Inv_mono i2 (Nat.le_succ _)⟩
    simp only [e1, Option.bind_some, e2, ↓reduceIte, fL_law_b1477_23]
  rw [if_neg q10]
  by_cases q11 : ((xs v4.toNatClampNeg) &&& 63) = 11
  · rw [if_pos q11]
    obtain ⟨r, a, b, e1, e2, i2⟩ := op_week hI hk
    refine ⟨b, ?_, i2⟩
    simp only [e1, Option.bind_some, e2, ↓reduceIte, fL_law_b1477_23]
  rw [if_neg q11]
  by_cases q12 : ((xs v4.toNatClampNeg) &&& 63) = 12
  · rw [if_pos q12]
    obtain ⟨r, a, b, e1, e2, i2⟩ := op_undo hI
    refine ⟨b, ?_, Inv_mono i2 (Nat.le_succ _)⟩
    simp only [e1, Option.bind_some, e2, ↓reduceIte, fL_law_b1477_23]
  rw [if_neg q12]
  by_cases q13 : ((xs v4.toNatClampNeg) &&& 63) = 13
  · rw [if_pos q13, if_pos g1]
    obtain ⟨r, a, b, e1, e2, i2⟩ := op_judged hI (xs (v4 + 1).toNatClampNeg)
    refine ⟨b, ?_, Inv_mono i2 (Nat.le_succ _)⟩
    simp only [e1, Option.bind_some, e2, ↓reduceIte, fL_law_b1477_23]
  rw [if_neg q13]
  by_cases q14 : ((xs v4.toNatClampNeg) &&& 63) = 14
  · rw [if_pos q14, if_pos g1, if_pos g2, if_pos g3]
    obtain ⟨r, a, b, e1, e2, i2⟩ := op_later hI hk (xs (v4 + 1).toNatClampNeg) (xs (v4 + 2).toNatClampNeg) (xs (v4 + 3).toNatClampNeg)
    refine ⟨b, ?_, Inv_mono i2 (Nat.le_succ _)⟩
    simp only [e1, Option.bind_some, e2, ↓reduceIte, fL_law_b1477_23]
  rw [if_neg q14]
  by_cases q15 : ((xs v4.toNatClampNeg) &&& 63) = 15
  · rw [if_pos q15, if_pos g1]
    obtain ⟨r, a, b, e1, e2, i2⟩ := op_when hI hk (xs (v4 + 1).toNatClampNeg)
    refine ⟨b, ?_, Inv_mono i2 (Nat.le_succ _)⟩
    simp only [e1, Option.bind_some, e2, ↓reduceIte, fL_law_b1477_23]
  rw [if_neg q15]
  by_cases q16 : ((xs v4.toNatClampNeg) &&& 63) = 16
  · rw [if_pos q16, if_pos g1]
    obtain ⟨r, a, b, e1, e2, i2⟩ := op_need hI (xs (v4 + 1).toNatClampNeg)
    refine ⟨b, ?_, Inv_mono i2 (Nat.le_succ _)⟩
    simp only [e1, Option.bind_some, e2, ↓reduceIte, fL_law_b1477_23]
  rw [if_neg q16]
  by_cases q17 : ((xs v4.toNatClampNeg) &&& 63) = 17
  · rw [if_pos q17]
    obtain ⟨r, a, b, e1, e2, i2⟩ := op_lost hI
    refine ⟨b, ?_, Inv_mono i2 (Nat.le_succ _)⟩
    simp only [e1, Option.bind_some, e2, ↓reduceIte, fL_law_b1477_23]
  rw [if_neg q17]
  by_cases q18 : ((xs v4.toNatClampNeg) &&& 63) = 18
  · rw [if_pos q18, if_pos g1, if_pos g2]
    obtain ⟨r, b, e1, e2, i2⟩ := op_place hI (xs (v4 + 1).toNatClampNeg) (xs (v4 + 2).toNatClampNeg)
    refine ⟨b, ?_, Inv_mono i2 (Nat.le_succ _)⟩
    simp only [e1, Option.bind_some, e2, ↓reduceIte, fL_law_b1477_23]
  rw [if_neg q18]
  by_cases q19 : ((xs v4.toNatClampNeg) &&& 63) = 19
  · rw [if_pos q19, if_pos g1, if_pos g2]
    obtain ⟨r, a, b, e1, e2, i2⟩ := op_cost hI (xs (v4 + 1).toNatClampNeg) (xs (v4 + 2).toNatClampNeg)
    refine ⟨b, ?_, Inv_mono i2 (Nat.le_succ _)⟩
    simp only [e1, Option.bind_some, e2, ↓reduceIte, fL_law_b1477_23]
  rw [if_neg q19]
  by_cases q20 : ((xs v4.toNatClampNeg) &&& 63) = 20
  · rw [if_pos q20, if_pos g1]
    obtain ⟨r, a, b, e1, e2, i2⟩ := op_lay hI (xs (v4 + 1).toNatClampNeg)
    refine ⟨b, ?_, Inv_mono i2 (Nat.le_succ _)⟩
    simp only [e1, Option.bind_some, e2, ↓reduceIte, fL_law_b1477_23]
  rw [if_neg q20]
  by_cases q21 : ((xs v4.toNatClampNeg) &&& 63) = 21
  · rw [if_pos q21, if_pos g1, if_pos g2]
    obtain ⟨r, a, b, e1, e2, i2⟩ := op_bears hI (xs (v4 + 1).toNatClampNeg) (xs (v4 + 2).toNatClampNeg)
    refine ⟨b, ?_, Inv_mono i2 (Nat.le_succ _)⟩
    simp only [e1, Option.bind_some, e2, ↓reduceIte, fL_law_b1477_23]
  rw [if_neg q21]
  by_cases q22 : ((xs v4.toNatClampNeg) &&& 63) = 22
  · rw [if_pos q22, if_pos g1]
    obtain ⟨r, b, e1, e2, i2⟩ := op_over hI (xs (v4 + 1).toNatClampNeg)
    refine ⟨b, ?_, Inv_mono i2 (Nat.le_succ _)⟩
    simp only [e1, Option.bind_some, e2, ↓reduceIte, fL_law_b1477_23]
  rw [if_neg q22]
  by_cases q23 : ((xs v4.toNatClampNeg) &&& 63) = 23
  · rw [if_pos q23, if_pos g1]
    obtain ⟨r, b, e1, e2, i2⟩ := op_deepest hI (xs (v4 + 1).toNatClampNeg)
    refine ⟨b, ?_, Inv_mono i2 (Nat.le_succ _)⟩
    simp only [e1, Option.bind_some, e2, ↓reduceIte, fL_law_b1477_23]
  rw [if_neg q23]
  by_cases q24 : ((xs v4.toNatClampNeg) &&& 63) = 24
  · rw [if_pos q24, if_pos g1]
    obtain ⟨r, b, e1, e2, i2⟩ := op_bare hI (xs (v4 + 1).toNatClampNeg)
    refine ⟨b, ?_, Inv_mono i2 (Nat.le_succ _)⟩
    simp only [e1, Option.bind_some, e2, ↓reduceIte, fL_law_b1477_23]
  rw [if_neg q24]
  by_cases q25 : ((xs v4.toNatClampNeg) &&& 63) = 25
  · rw [if_pos q25]
    obtain ⟨r, b, e1, e2, i2⟩ := op_same hI
    refine ⟨b, ?_, Inv_mono i2 (Nat.le_succ _)⟩
    simp only [e1, Option.bind_some, e2, ↓reduceIte, fL_law_b1477_23]
  rw [if_neg q25]
  by_cases q26 : ((xs v4.toNatClampNeg) &&& 63) = 26
  · rw [if_pos q26]
    obtain ⟨r, a, b, e1, e2, i2⟩ := op_giveup hI
    refine ⟨b, ?_, Inv_mono i2 (Nat.le_succ _)⟩
    simp only [e1, Option.bind_some, e2, ↓reduceIte, fL_law_b1477_23]
  rw [if_neg q26]
  by_cases q27 : ((xs v4.toNatClampNeg) &&& 63) = 27
  · rw [if_pos q27, if_pos g1]
    obtain ⟨r, a, b, e1, e2, i2⟩ := op_psalter hI (xs (v4 + 1).toNatClampNeg)
    refine ⟨b, ?_, Inv_mono i2 (Nat.le_succ _)⟩
    simp only [e1, Option.bind_some, e2, ↓reduceIte, fL_law_b1477_23]
  rw [if_neg q27]
  by_cases q28 : ((xs v4.toNatClampNeg) &&& 63) = 28
  · rw [if_pos q28, if_pos g1, if_pos g2, if_pos g3, if_pos g4]
    by_cases z : xs (v4 + 4).toNatClampNeg = 0
    · rw [if_pos z]
      obtain ⟨r, a, b, e1, e2, i2⟩ := op_see hI (xs (v4 + 1).toNatClampNeg) (xs (v4 + 2).toNatClampNeg) (xs (v4 + 3).toNatClampNeg) false
      have e1 : fX10_see h (xs (v4 + 1).toNatClampNeg) (xs (v4 + 2).toNatClampNeg) (xs (v4 + 3).toNatClampNeg) (0 : Int32) = some (r, a) := e1
      have e2 : fX11_see a (xs (v4 + 1).toNatClampNeg) (xs (v4 + 2).toNatClampNeg) (xs (v4 + 3).toNatClampNeg) (0 : Int32) = some (r, b) := e2
      refine ⟨b, ?_, Inv_mono i2 (Nat.le_succ _)⟩
      simp only [fL_law_b1127_23, e1, Option.bind_some, if_pos g1, if_pos g2, if_pos g3, if_pos g4, if_pos z, fL_law_b1163_23, e2, ↓reduceIte, fL_law_b1477_23]
    · rw [if_neg z]
      obtain ⟨r, a, b, e1, e2, i2⟩ := op_see hI (xs (v4 + 1).toNatClampNeg) (xs (v4 + 2).toNatClampNeg) (xs (v4 + 3).toNatClampNeg) true
      have e1 : fX10_see h (xs (v4 + 1).toNatClampNeg) (xs (v4 + 2).toNatClampNeg) (xs (v4 + 3).toNatClampNeg) (1 : Int32) = some (r, a) := e1
      have e2 : fX11_see a (xs (v4 + 1).toNatClampNeg) (xs (v4 + 2).toNatClampNeg) (xs (v4 + 3).toNatClampNeg) (1 : Int32) = some (r, b) := e2
      refine ⟨b, ?_, Inv_mono i2 (Nat.le_succ _)⟩
      simp only [fL_law_b1127_23, e1, Option.bind_some, if_pos g1, if_pos g2, if_pos g3, if_pos g4, if_neg z, fL_law_b1163_23, e2, ↓reduceIte, fL_law_b1477_23]
  rw [if_neg q28]
  by_cases q29 : ((xs v4.toNatClampNeg) &&& 63) = 29
  · rw [if_pos q29]
    obtain ⟨r, a, b, e1, e2, i2⟩ := op_who hI
    refine ⟨b, ?_, Inv_mono i2 (Nat.le_succ _)⟩
    simp only [e1, Option.bind_some, e2, ↓reduceIte, fL_law_b1477_23]
  rw [if_neg q29]
  by_cases q30 : ((xs v4.toNatClampNeg) &&& 63) = 30
  · rw [if_pos q30, if_pos g1]
    obtain ⟨r, a, b, e1, e2, i2⟩ := op_ask hI (xs (v4 + 1).toNatClampNeg)
    refine ⟨b, ?_, Inv_mono i2 (Nat.le_succ _)⟩
    simp only [e1, Option.bind_some, e2, ↓reduceIte, fL_law_b1477_23]
  rw [if_neg q30]
  by_cases q31 : ((xs v4.toNatClampNeg) &&& 63) = 31
  · rw [if_pos q31, if_pos g1, if_pos g2, if_pos g3]
    obtain ⟨r, a, b, e1, e2, i2⟩ := op_chance hI (xs (v4 + 1).toNatClampNeg) (xs (v4 + 2).toNatClampNeg) (xs (v4 + 3).toNatClampNeg)
    refine ⟨b, ?_, Inv_mono i2 (Nat.le_succ _)⟩
    simp only [e1, Option.bind_some, e2, ↓reduceIte, fL_law_b1477_23]
  rw [if_neg q31]
  by_cases q32 : ((xs v4.toNatClampNeg) &&& 63) = 32
  · exact absurd q32 h32
  rw [if_neg q32]
  by_cases q33 : ((xs v4.toNatClampNeg) &&& 63) = 33
  · rw [if_pos q33, if_pos g1, if_pos g2, if_pos g3]
    obtain ⟨r, a, b, e1, e2, i2⟩ := op_years hI hk (xs (v4 + 1).toNatClampNeg) (xs (v4 + 2).toNatClampNeg) (xs (v4 + 3).toNatClampNeg)
    refine ⟨b, ?_, Inv_mono i2 (Nat.le_succ _)⟩
    simp only [e1, Option.bind_some, e2, ↓reduceIte, fL_law_b1477_23]
  rw [if_neg q33]
  by_cases q34 : ((xs v4.toNatClampNeg) &&& 63) = 34
  · rw [if_pos q34, if_pos g1, if_pos g2]
    by_cases z : xs (v4 + 2).toNatClampNeg = 0
    · rw [if_pos z]
      obtain ⟨r, a, b, e1, e2, i2⟩ := op_mark hI (xs (v4 + 1).toNatClampNeg) false
      have e1 : fX10_mark h (xs (v4 + 1).toNatClampNeg) (0 : Int32) = some (r, a) := e1
      have e2 : fX11_mark a (xs (v4 + 1).toNatClampNeg) (0 : Int32) = some (r, b) := e2
      refine ⟨b, ?_, Inv_mono i2 (Nat.le_succ _)⟩
      simp only [fL_law_b1420_23, e1, Option.bind_some, if_pos g1, if_pos g2, if_pos z, fL_law_b1444_23, e2, ↓reduceIte, fL_law_b1477_23]
    · rw [if_neg z]
      obtain ⟨r, a, b, e1, e2, i2⟩ := op_mark hI (xs (v4 + 1).toNatClampNeg) true
      have e1 : fX10_mark h (xs (v4 + 1).toNatClampNeg) (1 : Int32) = some (r, a) := e1
      have e2 : fX11_mark a (xs (v4 + 1).toNatClampNeg) (1 : Int32) = some (r, b) := e2
      refine ⟨b, ?_, Inv_mono i2 (Nat.le_succ _)⟩
      simp only [fL_law_b1420_23, e1, Option.bind_some, if_pos g1, if_pos g2, if_neg z, fL_law_b1444_23, e2, ↓reduceIte, fL_law_b1477_23]
  rw [if_neg q34]
  by_cases q35 : ((xs v4.toNatClampNeg) &&& 63) = 35
  · rw [if_pos q35, if_pos g1]
    obtain ⟨r, a, b, e1, e2, i2⟩ := op_count hI (xs (v4 + 1).toNatClampNeg)
    refine ⟨b, ?_, Inv_mono i2 (Nat.le_succ _)⟩
    simp only [e1, Option.bind_some, e2, ↓reduceIte, fL_law_b1477_23]
  rw [if_neg q35]
  exact ⟨h, rfl, Inv_mono hI (Nat.le_succ _)⟩
theorem law_end {i : Nat} (hL : L ≤ 448) (hi : i ≤ 1000) : (Int32.ofNat L - 7 < nI i) = (L < i + 7) := by
  have e7 : Int32.ofNat L - 7 = nI L - nI 7 := rfl
  rw [e7, Int32.lt_iff_toInt_lt, nI_toInt (by omega), Int32.toInt_sub, nI_toInt (by omega), nI_toInt (by omega)]
  rw [Int.bmod_eq_of_le (by omega) (by omega)]
  exact propext ⟨fun q => by omega, fun q => by omega⟩
theorem law_in {i j : Nat} (hL : L ≤ 448) (hi : i + 7 ≤ L) (hj : j < 7) : wib (nI i + nI j) L := by
  rw [nI_add]
  exact of_eq_true (wib_t (by omega) (by omega))
end G96

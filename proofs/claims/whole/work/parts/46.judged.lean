/-! A YEAR JUDGED -/
def gDo (L : gLib) (y : Nat × Nat × Nat × Nat) (S : gSh) : Bool × gSh :=
  if y.1 = 3 then (true, (S.1 + 1, S.2)) else if y.1 = 0 then (if gCan L S y.2.1 y.2.2.1 y.2.2.2 then (true, gPut L y.2.1 y.2.2.1 y.2.2.2 S) else (false, S))
  else (decide (S.2.2.1 y.2.2.1 &&& (if y.1 = 1 then 63 else 9) ≠ 0), gRub L y.2.2.1 (if y.1 = 1 then 63 else 9) S)
theorem gDo_week (L : gLib) (y : Nat × Nat × Nat × Nat) (S : gSh) : (gDo L y S).2.1 ≤ S.1 + 1 := by
  unfold gDo
  split
  · exact Nat.le_refl _
  · split
    · split
      · show (gPut _ _ _ _ _).1 ≤ _
        rw [gPut_week]; omega
      · exact Nat.le_succ _
    · show (gRub _ _ _ _).1 ≤ _
      rw [gRub_week]; omega
def gG (L : gLib) (S : gSh) : Nat := gOr (fun i => if S.2.1 i = 0 then 2 ^ i else 0) (gns L) 0
section G46
variable {h : wSt} {k : Nat} {L : gLib} {S : gSh} {u : gUn} {M : gMk} {Y : gYr} {N : gSn} {T : gTp}
theorem gG_lt (hW : WL L) : gG L S < 8 := by
  have n1 := hW.1
  have := lt_pow_bits (x := gG L S) (m := 3) (fun b hb => by
    cases hq : (gG L S).testBit b
    · rfl
    · unfold gG at hq
      rw [gOr_bit, Nat.zero_testBit] at hq
      rcases hq with q | ⟨i, q1, q2⟩
      · cases q
      · split at q2
        · rw [Nat.testBit_two_pow] at q2
          simp at q2
          omega
        · rw [Nat.zero_testBit] at q2
          cases q2)
  omega
theorem CX_week {k2 : Nat} (hx : CX h L k2 S) (hw : S.1 + 1 < 1048576) : CX (wuI h k2 1 (nI (S.1 + 1))) L k2 (S.1 + 1, S.2) ∧ fr (sk k2) h (wuI h k2 1 (nI (S.1 + 1))) := by
  obtain ⟨hW, hC, ⟨v1, v2⟩, ⟨s0, s1, s2⟩, hk⟩ := hx
  have f : fr (sk k2) h (wuI h k2 1 (nI (S.1 + 1))) := fr_wuI (by unfold sk; omega)
  refine ⟨⟨hW, CL_fr hC f (fun c _ _ => by unfold sk; omega), ⟨hw, v2⟩, ⟨wu1, fun i hi => ?_, fun p hp => ?_⟩, hk⟩, f⟩
  · rw [wuc (by omega), wuc (by omega)]; exact s1 i hi
  · rw [wuc (by omega), wuc (by omega)]; exact s2 p hp
theorem MX_week (hx : MX h L S) (hw : S.1 + 1 < 1048576) : MX (wuI h 225 0 (nI (S.1 + 1))) L (S.1 + 1, S.2) ∧ fr s225 h (wuI h 225 0 (nI (S.1 + 1))) := by
  obtain ⟨hW, hC, ⟨v1, v2⟩, hS⟩ := hx
  have f : fr s225 h (wuI h 225 0 (nI (S.1 + 1))) := fr_wuI rfl
  exact ⟨⟨hW, ML_fr hC f (fun c _ _ => by unfold s225; omega), ⟨hw, v2⟩, MS_week hS _⟩, f⟩
theorem c_follow (hx : CX h L 34 S) {j : Nat} (hY : WY L Y) (hj : j < Y.1) (hw : S.1 + 1 < 1048576) : ∃ g, fX6_follow h 34 (nI (gLine (Y.2 j))) = some ((gDo L (Y.2 j) S).1, g) ∧ CX g L 34 (gDo L (Y.2 j) S).2 ∧ fr (sk 34) h g := by
  have n1 := hx.1.1
  have n2 := hx.1.2.1
  obtain ⟨y1, y2, y3, y4, y5⟩ := hY.2 j hj
  revert y1 y2 y3 y4 y5
  obtain ⟨a, t, i, l⟩ := Y.2 j
  intro y1 y2 y3 y4 y5
  have y1 : a ≤ 3 := y1
  have y2 : a = 0 → t < gnt L ∧ l ≤ 5 := y2
  have y3 : a ≠ 0 → t = 0 ∧ l = 0 := y3
  have y4 : a ≠ 3 → i < gns L := y4
  have y5 : a = 3 → i = 0 := y5
  have hL : gLine (a, t, i, l) = 1000 * a + 100 * t + 10 * i + l := rfl
  have b1 : t ≤ 5 := by
    by_cases q : a = 0
    · have := (y2 q).1; omega
    · have := (y3 q).1; omega
  have b2 : l ≤ 5 := by
    by_cases q : a = 0
    · exact (y2 q).2
    · have := (y3 q).2; omega
  have b3 : i ≤ 2 := by
    by_cases q : a = 3
    · have := y5 q; omega
    · have := y4 q; omega
  have hb : gLine (a, t, i, l) < 10000 := by rw [hL]; omega
  have d1 : gLine (a, t, i, l) / 1000 = a := by rw [hL]; omega
  have d2 : gLine (a, t, i, l) / 10 % 10 = i := by rw [hL]; omega
  have d3 : gLine (a, t, i, l) / 100 % 10 = t := by rw [hL]; omega
  have d4 : gLine (a, t, i, l) % 10 = l := by rw [hL]; omega
  clear hL
  revert hb d1 d2 d3 d4
  generalize gLine (a, t, i, l) = x
  intro hb d1 d2 d3 d4
  by_cases q3 : a = 3
  · obtain ⟨x1, f1⟩ := CX_week hx hw
    have s0 := hx.2.2.2.1.1
    refine ⟨wuI h 34 1 (nI (S.1 + 1)), ?_, ?_, f1⟩
    · unfold gDo
      rw [if_pos q3]
      simp (disch := omega) only [↓reduceIte, wlet, Option.bind_some, true_and, and_true, not_true_eq_false, not_false_eq_true, reduceCtorEq, n0_, n1_, n2_, n3_, n4_, n5_, n6_, n7_, n8_, n9_, n10_, n12_, n16_, n18_, n20_, n21_, n22_, n24_, n25_, n26_, n27_, n28_, n29_, n30_, n31_, n32_, n40_, n41_, n42_, n43_, n45_, n48_, n54_, n57_, n58_, n59_, n60_, n61_, n63_, n96_, n97_, n99_, n100_, n122_, n126_, n200_, n255_, n375_, n400_, n1000_, n2000_, n9999_, n5764801_, n1000000_, n3000_, m1, m2, le_t, le_f, lt_t, lt_f, eq_t, eq_f, no_lt, no_le, le_no, lt_no, eq_no, no_eq, add_no, wib_t, clamp, nI_add, pk_mul, pk_sub, nor_, nand_, ndif_, shl_, sh1_, shr_, tbn, tb0, tb1, les_t, les_f, pk_div, rem_, remv, and31, wu1, wuc, wui, wu2, ws1, wsc, ws2, wv1, n11_, n13_, n14_, n15_, n17_, n19_, n23_, n56_, n64_, fX6_follow, d1, q3, s0]
    · unfold gDo
      rw [if_pos q3]
      exact x1
  · have hi := y4 q3
    have a1 := c_hasSkin hx.1 hx.2.1 (nI i)
    rw [gIx_at hi (by omega)] at a1
    by_cases q0 : a = 0
    · obtain ⟨ht, hl⟩ := y2 q0
      have a2 := c_hasText hx.1 hx.2.1 (nI t)
      rw [gIx_at ht (by omega)] at a2
      have a3 := c_can hx ht hi (j := l) (by omega)
      have e : gDo L (a, t, i, l) S = if gCan L S t i l then (true, gPut L t i l S) else (false, S) := by
        unfold gDo
        rw [if_neg q3, if_pos q0]
      rw [e]
      cases hc : gCan L S t i l with
      | false =>
        rw [hc] at a3
        refine ⟨h, ?_, by rw [if_neg (by decide)]; exact hx, fr_rf⟩
        rw [if_neg (by decide)]
        simp (disch := omega) only [↓reduceIte, wlet, Option.bind_some, true_and, and_true, not_true_eq_false, not_false_eq_true, reduceCtorEq, n0_, n1_, n2_, n3_, n4_, n5_, n6_, n7_, n8_, n9_, n10_, n12_, n16_, n18_, n20_, n21_, n22_, n24_, n25_, n26_, n27_, n28_, n29_, n30_, n31_, n32_, n40_, n41_, n42_, n43_, n45_, n48_, n54_, n57_, n58_, n59_, n60_, n61_, n63_, n96_, n97_, n99_, n100_, n122_, n126_, n200_, n255_, n375_, n400_, n1000_, n2000_, n9999_, n5764801_, n1000000_, n3000_, m1, m2, le_t, le_f, lt_t, lt_f, eq_t, eq_f, no_lt, no_le, le_no, lt_no, eq_no, no_eq, add_no, wib_t, clamp, nI_add, pk_mul, pk_sub, nor_, nand_, ndif_, shl_, sh1_, shr_, tbn, tb0, tb1, les_t, les_f, pk_div, rem_, remv, and31, wu1, wuc, wui, wu2, ws1, wsc, ws2, wv1, n11_, n13_, n14_, n15_, n17_, n19_, n23_, n56_, n64_, fX6_follow, fX6_writeIfCan, d1, d2, d3, d4, q0, a1, a2, a3, Option.isSome_none, Option.isSome_some, Bool.false_eq_true]
      | true =>
        rw [hc] at a3
        obtain ⟨g, e2, x2, f2⟩ := c_put hx ht hi hc
        refine ⟨g, ?_, by rw [if_pos rfl]; exact x2, f2⟩
        rw [if_pos rfl]
        simp (disch := omega) only [↓reduceIte, wlet, Option.bind_some, true_and, and_true, not_true_eq_false, not_false_eq_true, reduceCtorEq, n0_, n1_, n2_, n3_, n4_, n5_, n6_, n7_, n8_, n9_, n10_, n12_, n16_, n18_, n20_, n21_, n22_, n24_, n25_, n26_, n27_, n28_, n29_, n30_, n31_, n32_, n40_, n41_, n42_, n43_, n45_, n48_, n54_, n57_, n58_, n59_, n60_, n61_, n63_, n96_, n97_, n99_, n100_, n122_, n126_, n200_, n255_, n375_, n400_, n1000_, n2000_, n9999_, n5764801_, n1000000_, n3000_, m1, m2, le_t, le_f, lt_t, lt_f, eq_t, eq_f, no_lt, no_le, le_no, lt_no, eq_no, no_eq, add_no, wib_t, clamp, nI_add, pk_mul, pk_sub, nor_, nand_, ndif_, shl_, sh1_, shr_, tbn, tb0, tb1, les_t, les_f, pk_div, rem_, remv, and31, wu1, wuc, wui, wu2, ws1, wsc, ws2, wv1, n11_, n13_, n14_, n15_, n17_, n19_, n23_, n56_, n64_, fX6_follow, fX6_writeIfCan, d1, d2, d3, d4, q0, a1, a2, a3, e2, Option.isSome_none, Option.isSome_some, Bool.false_eq_true]
    · by_cases q1 : a = 1
      · obtain ⟨g, e2, x2, f2⟩ := c_rub hx (m := 63) hi
        have e : gDo L (a, t, i, l) S = (decide (S.2.2.1 i &&& 63 ≠ 0), gRub L i 63 S) := by
          unfold gDo
          rw [if_neg q3, if_neg q0, if_pos q1]
        rw [e]
        refine ⟨g, ?_, x2, f2⟩
        simp (disch := omega) only [↓reduceIte, wlet, Option.bind_some, true_and, and_true, not_true_eq_false, not_false_eq_true, reduceCtorEq, n0_, n1_, n2_, n3_, n4_, n5_, n6_, n7_, n8_, n9_, n10_, n12_, n16_, n18_, n20_, n21_, n22_, n24_, n25_, n26_, n27_, n28_, n29_, n30_, n31_, n32_, n40_, n41_, n42_, n43_, n45_, n48_, n54_, n57_, n58_, n59_, n60_, n61_, n63_, n96_, n97_, n99_, n100_, n122_, n126_, n200_, n255_, n375_, n400_, n1000_, n2000_, n9999_, n5764801_, n1000000_, n3000_, m1, m2, le_t, le_f, lt_t, lt_f, eq_t, eq_f, no_lt, no_le, le_no, lt_no, eq_no, no_eq, add_no, wib_t, clamp, nI_add, pk_mul, pk_sub, nor_, nand_, ndif_, shl_, sh1_, shr_, tbn, tb0, tb1, les_t, les_f, pk_div, rem_, remv, and31, wu1, wuc, wui, wu2, ws1, wsc, ws2, wv1, n11_, n13_, n14_, n15_, n17_, n19_, n23_, n56_, n64_, fX6_follow, fX6_follow_b103, d1, d2, q1, a1, e2, Option.isSome_none, Option.isSome_some, Bool.false_eq_true]
      · obtain ⟨g, e2, x2, f2⟩ := c_rub hx (m := 9) hi
        have e : gDo L (a, t, i, l) S = (decide (S.2.2.1 i &&& 9 ≠ 0), gRub L i 9 S) := by
          unfold gDo
          rw [if_neg q3, if_neg q0, if_neg q1]
        rw [e]
        refine ⟨g, ?_, x2, f2⟩
        simp (disch := omega) only [↓reduceIte, wlet, Option.bind_some, true_and, and_true, not_true_eq_false, not_false_eq_true, reduceCtorEq, n0_, n1_, n2_, n3_, n4_, n5_, n6_, n7_, n8_, n9_, n10_, n12_, n16_, n18_, n20_, n21_, n22_, n24_, n25_, n26_, n27_, n28_, n29_, n30_, n31_, n32_, n40_, n41_, n42_, n43_, n45_, n48_, n54_, n57_, n58_, n59_, n60_, n61_, n63_, n96_, n97_, n99_, n100_, n122_, n126_, n200_, n255_, n375_, n400_, n1000_, n2000_, n9999_, n5764801_, n1000000_, n3000_, m1, m2, le_t, le_f, lt_t, lt_f, eq_t, eq_f, no_lt, no_le, le_no, lt_no, eq_no, no_eq, add_no, wib_t, clamp, nI_add, pk_mul, pk_sub, nor_, nand_, ndif_, shl_, sh1_, shr_, tbn, tb0, tb1, les_t, les_f, pk_div, rem_, remv, and31, wu1, wuc, wui, wu2, ws1, wsc, ws2, wv1, n11_, n13_, n14_, n15_, n17_, n19_, n23_, n56_, n64_, fX6_follow, fX6_follow_b103, d1, d2, a1, e2, Option.isSome_none, Option.isSome_some, Bool.false_eq_true]
theorem gRub_0 {i m : Nat} (h0 : S.2.2.1 i &&& m = 0) : gRub L i m S = S := by
  unfold gRub
  rw [if_pos h0]
theorem r_rub (hx : MX h L S) {i m : Nat} (hi : i < gns L) : ∃ g, fX11_goes_b98 h (nI i) (nI m) = some (decide (S.2.2.1 i &&& m ≠ 0), g) ∧ MX g L (gRub L i m S) ∧ fr s225 h g := by
  have n1 := hx.1.1
  have b1 := r_wear hx (m := m) hi
  by_cases h0 : S.2.2.1 i &&& m = 0
  · rw [if_pos h0] at b1
    refine ⟨h, ?_, by rw [gRub_0 h0]; exact hx, fr_rf⟩
    rw [decide_eq_false (fun q => q h0)]
    simp (disch := omega) only [↓reduceIte, wlet, Option.bind_some, true_and, and_true, not_true_eq_false, not_false_eq_true, reduceCtorEq, n0_, n1_, n2_, n3_, n4_, n5_, n6_, n7_, n8_, n9_, n10_, n12_, n16_, n18_, n20_, n21_, n22_, n24_, n25_, n26_, n27_, n28_, n29_, n30_, n31_, n32_, n40_, n41_, n42_, n43_, n45_, n48_, n54_, n57_, n58_, n59_, n60_, n61_, n63_, n96_, n97_, n99_, n100_, n122_, n126_, n200_, n255_, n375_, n400_, n1000_, n2000_, n9999_, n5764801_, n1000000_, n3000_, m1, m2, le_t, le_f, lt_t, lt_f, eq_t, eq_f, no_lt, no_le, le_no, lt_no, eq_no, no_eq, add_no, wib_t, clamp, nI_add, pk_mul, pk_sub, nor_, nand_, ndif_, shl_, sh1_, shr_, tbn, tb0, tb1, les_t, les_f, pk_div, rem_, remv, and31, wu1, wuc, wui, wu2, ws1, wsc, ws2, wv1, n11_, n13_, n14_, n15_, n17_, n19_, n23_, n56_, n64_, fX11_goes_b98, b1]
  · rw [if_neg h0] at b1
    have hb := gWear_b hx.1 hx.2.2.1 (S.2.2.1 i &&& m) (i := i) (by omega)
    obtain ⟨g, e2, x2, f2⟩ := r_scrapes hx hi h0
    refine ⟨g, ?_, x2, f2⟩
    rw [decide_eq_true h0]
    simp (disch := omega) only [↓reduceIte, wlet, Option.bind_some, true_and, and_true, not_true_eq_false, not_false_eq_true, reduceCtorEq, n0_, n1_, n2_, n3_, n4_, n5_, n6_, n7_, n8_, n9_, n10_, n12_, n16_, n18_, n20_, n21_, n22_, n24_, n25_, n26_, n27_, n28_, n29_, n30_, n31_, n32_, n40_, n41_, n42_, n43_, n45_, n48_, n54_, n57_, n58_, n59_, n60_, n61_, n63_, n96_, n97_, n99_, n100_, n122_, n126_, n200_, n255_, n375_, n400_, n1000_, n2000_, n9999_, n5764801_, n1000000_, n3000_, m1, m2, le_t, le_f, lt_t, lt_f, eq_t, eq_f, no_lt, no_le, le_no, lt_no, eq_no, no_eq, add_no, wib_t, clamp, nI_add, pk_mul, pk_sub, nor_, nand_, ndif_, shl_, sh1_, shr_, tbn, tb0, tb1, les_t, les_f, pk_div, rem_, remv, and31, wu1, wuc, wui, wu2, ws1, wsc, ws2, wv1, n11_, n13_, n14_, n15_, n17_, n19_, n23_, n56_, n64_, fX11_goes_b98, b1, e2]
theorem r_goes (hx : MX h L S) {j : Nat} (hY : WY L Y) (hM : YM h 0 Y) (hj : j < Y.1) (hw : S.1 + 1 < 1048576) : ∃ g, fX11_goes h (nI j) = some ((gDo L (Y.2 j) S).1, g) ∧ MX g L (gDo L (Y.2 j) S).2 ∧ fr s225 h g := by
  have n1 := hx.1.1
  have n2 := hx.1.2.1
  have y0 := hY.1
  obtain ⟨y1, y2, y3, y4, y5⟩ := hY.2 j hj
  obtain ⟨m1', m2', m3'⟩ := hM.2 j hj
  rw [Nat.mul_zero, Nat.zero_add] at m1' m2' m3'
  revert y1 y2 y3 y4 y5 m1' m2' m3'
  obtain ⟨a, t, i, l⟩ := Y.2 j
  intro y1 y2 y3 y4 y5 m1' m2' m3'
  have y1 : a ≤ 3 := y1
  have y2 : a = 0 → t < gnt L ∧ l ≤ 5 := y2
  have y4 : a ≠ 3 → i < gns L := y4
  have m1' : h.1 216 j = nI a := m1'
  have m2' : a = 0 → h.1 217 j = nI t ∧ h.1 219 j = nI l := m2'
  have m3' : a ≠ 3 → h.1 218 j = nI i := m3'
  by_cases q3 : a = 3
  · obtain ⟨x1, f1⟩ := MX_week hx hw
    have s0 := hx.2.2.2.1
    refine ⟨wuI h 225 0 (nI (S.1 + 1)), ?_, ?_, f1⟩
    · unfold gDo
      rw [if_pos q3]
      simp (disch := omega) only [↓reduceIte, wlet, Option.bind_some, true_and, and_true, not_true_eq_false, not_false_eq_true, reduceCtorEq, n0_, n1_, n2_, n3_, n4_, n5_, n6_, n7_, n8_, n9_, n10_, n12_, n16_, n18_, n20_, n21_, n22_, n24_, n25_, n26_, n27_, n28_, n29_, n30_, n31_, n32_, n40_, n41_, n42_, n43_, n45_, n48_, n54_, n57_, n58_, n59_, n60_, n61_, n63_, n96_, n97_, n99_, n100_, n122_, n126_, n200_, n255_, n375_, n400_, n1000_, n2000_, n9999_, n5764801_, n1000000_, n3000_, m1, m2, le_t, le_f, lt_t, lt_f, eq_t, eq_f, no_lt, no_le, le_no, lt_no, eq_no, no_eq, add_no, wib_t, clamp, nI_add, pk_mul, pk_sub, nor_, nand_, ndif_, shl_, sh1_, shr_, tbn, tb0, tb1, les_t, les_f, pk_div, rem_, remv, and31, wu1, wuc, wui, wu2, ws1, wsc, ws2, wv1, n11_, n13_, n14_, n15_, n17_, n19_, n23_, n56_, n64_, fX11_goes, m1', q3, s0]
    · unfold gDo
      rw [if_pos q3]
      exact x1
  · have hi := y4 q3
    have m3' := m3' q3
    by_cases q0 : a = 0
    · obtain ⟨ht, hl⟩ := y2 q0
      obtain ⟨m4', m5'⟩ := m2' q0
      have a3 := r_can hx ht hi (j := l) (by omega)
      have e : gDo L (a, t, i, l) S = if gCan L S t i l then (true, gPut L t i l S) else (false, S) := by
        unfold gDo
        rw [if_neg q3, if_pos q0]
      rw [e]
      cases hc : gCan L S t i l with
      | false =>
        rw [hc] at a3
        refine ⟨h, ?_, by rw [if_neg (by decide)]; exact hx, fr_rf⟩
        rw [if_neg (by decide)]
        simp (disch := omega) only [↓reduceIte, wlet, Option.bind_some, true_and, and_true, not_true_eq_false, not_false_eq_true, reduceCtorEq, n0_, n1_, n2_, n3_, n4_, n5_, n6_, n7_, n8_, n9_, n10_, n12_, n16_, n18_, n20_, n21_, n22_, n24_, n25_, n26_, n27_, n28_, n29_, n30_, n31_, n32_, n40_, n41_, n42_, n43_, n45_, n48_, n54_, n57_, n58_, n59_, n60_, n61_, n63_, n96_, n97_, n99_, n100_, n122_, n126_, n200_, n255_, n375_, n400_, n1000_, n2000_, n9999_, n5764801_, n1000000_, n3000_, m1, m2, le_t, le_f, lt_t, lt_f, eq_t, eq_f, no_lt, no_le, le_no, lt_no, eq_no, no_eq, add_no, wib_t, clamp, nI_add, pk_mul, pk_sub, nor_, nand_, ndif_, shl_, sh1_, shr_, tbn, tb0, tb1, les_t, les_f, pk_div, rem_, remv, and31, wu1, wuc, wui, wu2, ws1, wsc, ws2, wv1, n11_, n13_, n14_, n15_, n17_, n19_, n23_, n56_, n64_, fX11_goes, m1', m3', m4', m5', q0, a3, Option.isSome_none, Option.isSome_some, Bool.false_eq_true]
      | true =>
        rw [hc] at a3
        obtain ⟨g, e2, x2, f2⟩ := r_put hx ht hi hc
        refine ⟨g, ?_, by rw [if_pos rfl]; exact x2, f2⟩
        rw [if_pos rfl]
        simp (disch := omega) only [↓reduceIte, wlet, Option.bind_some, true_and, and_true, not_true_eq_false, not_false_eq_true, reduceCtorEq, n0_, n1_, n2_, n3_, n4_, n5_, n6_, n7_, n8_, n9_, n10_, n12_, n16_, n18_, n20_, n21_, n22_, n24_, n25_, n26_, n27_, n28_, n29_, n30_, n31_, n32_, n40_, n41_, n42_, n43_, n45_, n48_, n54_, n57_, n58_, n59_, n60_, n61_, n63_, n96_, n97_, n99_, n100_, n122_, n126_, n200_, n255_, n375_, n400_, n1000_, n2000_, n9999_, n5764801_, n1000000_, n3000_, m1, m2, le_t, le_f, lt_t, lt_f, eq_t, eq_f, no_lt, no_le, le_no, lt_no, eq_no, no_eq, add_no, wib_t, clamp, nI_add, pk_mul, pk_sub, nor_, nand_, ndif_, shl_, sh1_, shr_, tbn, tb0, tb1, les_t, les_f, pk_div, rem_, remv, and31, wu1, wuc, wui, wu2, ws1, wsc, ws2, wv1, n11_, n13_, n14_, n15_, n17_, n19_, n23_, n56_, n64_, fX11_goes, m1', m3', m4', m5', q0, a3, e2, Option.isSome_none, Option.isSome_some, Bool.false_eq_true]
    · by_cases q1 : a = 1
      · obtain ⟨g, e2, x2, f2⟩ := r_rub hx (m := 63) hi
        have e : gDo L (a, t, i, l) S = (decide (S.2.2.1 i &&& 63 ≠ 0), gRub L i 63 S) := by
          unfold gDo
          rw [if_neg q3, if_neg q0, if_pos q1]
        rw [e]
        refine ⟨g, ?_, x2, f2⟩
        simp (disch := omega) only [↓reduceIte, wlet, Option.bind_some, true_and, and_true, not_true_eq_false, not_false_eq_true, reduceCtorEq, n0_, n1_, n2_, n3_, n4_, n5_, n6_, n7_, n8_, n9_, n10_, n12_, n16_, n18_, n20_, n21_, n22_, n24_, n25_, n26_, n27_, n28_, n29_, n30_, n31_, n32_, n40_, n41_, n42_, n43_, n45_, n48_, n54_, n57_, n58_, n59_, n60_, n61_, n63_, n96_, n97_, n99_, n100_, n122_, n126_, n200_, n255_, n375_, n400_, n1000_, n2000_, n9999_, n5764801_, n1000000_, n3000_, m1, m2, le_t, le_f, lt_t, lt_f, eq_t, eq_f, no_lt, no_le, le_no, lt_no, eq_no, no_eq, add_no, wib_t, clamp, nI_add, pk_mul, pk_sub, nor_, nand_, ndif_, shl_, sh1_, shr_, tbn, tb0, tb1, les_t, les_f, pk_div, rem_, remv, and31, wu1, wuc, wui, wu2, ws1, wsc, ws2, wv1, n11_, n13_, n14_, n15_, n17_, n19_, n23_, n56_, n64_, fX11_goes, m1', m3', q1, e2]
      · obtain ⟨g, e2, x2, f2⟩ := r_rub hx (m := 9) hi
        have e : gDo L (a, t, i, l) S = (decide (S.2.2.1 i &&& 9 ≠ 0), gRub L i 9 S) := by
          unfold gDo
          rw [if_neg q3, if_neg q0, if_neg q1]
        rw [e]
        refine ⟨g, ?_, x2, f2⟩
        simp (disch := omega) only [↓reduceIte, wlet, Option.bind_some, true_and, and_true, not_true_eq_false, not_false_eq_true, reduceCtorEq, n0_, n1_, n2_, n3_, n4_, n5_, n6_, n7_, n8_, n9_, n10_, n12_, n16_, n18_, n20_, n21_, n22_, n24_, n25_, n26_, n27_, n28_, n29_, n30_, n31_, n32_, n40_, n41_, n42_, n43_, n45_, n48_, n54_, n57_, n58_, n59_, n60_, n61_, n63_, n96_, n97_, n99_, n100_, n122_, n126_, n200_, n255_, n375_, n400_, n1000_, n2000_, n9999_, n5764801_, n1000000_, n3000_, m1, m2, le_t, le_f, lt_t, lt_f, eq_t, eq_f, no_lt, no_le, le_no, lt_no, eq_no, no_eq, add_no, wib_t, clamp, nI_add, pk_mul, pk_sub, nor_, nand_, ndif_, shl_, sh1_, shr_, tbn, tb0, tb1, les_t, les_f, pk_div, rem_, remv, and31, wu1, wuc, wui, wu2, ws1, wsc, ws2, wv1, n11_, n13_, n14_, n15_, n17_, n19_, n23_, n56_, n64_, fX11_goes, m1', m3', e2]
theorem WS_begin (hW : WL L) : WS L (gBegin L) := by
  refine ⟨by show 0 < 1048576; omega, fun i hi => ⟨?_, by show 0 < 64; omega, fun q => ⟨?_, rfl⟩⟩, fun p hp => ⟨by show ([] : List Nat).length ≤ 9; simp, fun t ht => by cases ht⟩, fun i j _ _ q => ?_, fun i j _ _ _ => rfl⟩
  · show (if i < gns L then gtk L i else 0) ≤ 30
    split
    · rename_i q
      exact (hW.2.2.2.1 i q).2.2.2.1
    · omega
  · show (if i < gns L then gtk L i else 0) = 0
    rw [if_neg (by omega)]
  · have q : (0 : Nat).testBit j = true := q
    rw [Nat.zero_testBit] at q
    cases q
theorem c_begin (hW : WL L) (hC : CL h L) {b : Nat} (hb : 29 ≤ b) : ∃ g, fX6_begin h b = some g ∧ CX g L b (gBegin L) ∧ fr (sk b) h g := by
  have n1 := hW.1
  have f0 : fr (sk b) h (wuI h b 1 (nI 0)) := fr_wuI (by unfold sk; omega)
  obtain ⟨e, he, e1, e2, e3, e4⟩ := wit_for (b := fun v : (Int32 × wSt) => fX6_begin_l7 v.2 b v.1) (fun _ (u : Unit) => u) 3
    (fun m _ v => ∃ g, v = (nI m, g) ∧ fr (sk b) h g ∧ g.1 b 1 = nI 0 ∧ (∀ i, i < m → g.1 (b + 1) i = nI (if i < gns L then gtk L i else 0) ∧ g.1 (b + 2) i = nI 0) ∧ ∀ p, p < 6 * m → g.1 (b + 3) p = nI 0 ∧ g.1 (b + 4) p = nI 0)
    (fun _ g => fr (sk b) h g ∧ g.1 b 1 = nI 0 ∧ (∀ i, i < 3 → g.1 (b + 1) i = nI (if i < gns L then gtk L i else 0) ∧ g.1 (b + 2) i = nI 0) ∧ ∀ p, p < 18 → g.1 (b + 3) p = nI 0 ∧ g.1 (b + 4) p = nI 0)
    (by
      rintro m _ v hm ⟨g, rfl, fg, g0, g1, g2⟩
      obtain ⟨s, es, fs, s0, s1, s2, s3, s4⟩ := c_strip g b (i := m) hm
      have hC2 := CL_fr hC (fr_tr fg fs) (fun c _ _ => by unfold sk; omega)
      have c1 := hC2.1
      refine ⟨(nI (m + 1), wuI s (b + 1) m (nI (if m < gns L then gtk L m else 0))), ?_, _, rfl, fr_tr fg (fr_tr fs (fr_wuI (by unfold sk; omega))), ?_, ?_, ?_⟩
      · by_cases hq : m < gns L
        · have c2 := (hC2.2.2.2.1 m hq).2.1
          rw [if_pos hq]
          simp (disch := omega) only [↓reduceIte, wlet, Option.bind_some, true_and, and_true, not_true_eq_false, not_false_eq_true, reduceCtorEq, n0_, n1_, n2_, n3_, n4_, n5_, n6_, n7_, n8_, n9_, n10_, n12_, n16_, n18_, n20_, n21_, n22_, n24_, n25_, n26_, n27_, n28_, n29_, n30_, n31_, n32_, n40_, n41_, n42_, n43_, n45_, n48_, n54_, n57_, n58_, n59_, n60_, n61_, n63_, n96_, n97_, n99_, n100_, n122_, n126_, n200_, n255_, n375_, n400_, n1000_, n2000_, n9999_, n5764801_, n1000000_, n3000_, m1, m2, le_t, le_f, lt_t, lt_f, eq_t, eq_f, no_lt, no_le, le_no, lt_no, eq_no, no_eq, add_no, wib_t, clamp, nI_add, pk_mul, pk_sub, nor_, nand_, ndif_, shl_, sh1_, shr_, tbn, tb0, tb1, les_t, les_f, pk_div, rem_, remv, and31, wu1, wuc, wui, wu2, ws1, wsc, ws2, wv1, n11_, n13_, n14_, n15_, n17_, n19_, n23_, n56_, n64_, fX6_begin_l7, fX6_begin_b46_7, es, c1, c2]
        · rw [if_neg hq]
          simp (disch := omega) only [↓reduceIte, wlet, Option.bind_some, true_and, and_true, not_true_eq_false, not_false_eq_true, reduceCtorEq, n0_, n1_, n2_, n3_, n4_, n5_, n6_, n7_, n8_, n9_, n10_, n12_, n16_, n18_, n20_, n21_, n22_, n24_, n25_, n26_, n27_, n28_, n29_, n30_, n31_, n32_, n40_, n41_, n42_, n43_, n45_, n48_, n54_, n57_, n58_, n59_, n60_, n61_, n63_, n96_, n97_, n99_, n100_, n122_, n126_, n200_, n255_, n375_, n400_, n1000_, n2000_, n9999_, n5764801_, n1000000_, n3000_, m1, m2, le_t, le_f, lt_t, lt_f, eq_t, eq_f, no_lt, no_le, le_no, lt_no, eq_no, no_eq, add_no, wib_t, clamp, nI_add, pk_mul, pk_sub, nor_, nand_, ndif_, shl_, sh1_, shr_, tbn, tb0, tb1, les_t, les_f, pk_div, rem_, remv, and31, wu1, wuc, wui, wu2, ws1, wsc, ws2, wv1, n11_, n13_, n14_, n15_, n17_, n19_, n23_, n56_, n64_, fX6_begin_l7, fX6_begin_b46_7, es, c1]
      · rw [wuc (by omega), s0]; exact g0
      · intro i hi
        rw [wuS, wuc (by omega), s1, s2]
        by_cases q : i = m
        · rw [if_pos q, if_pos q, q]
          exact ⟨rfl, rfl⟩
        · rw [if_neg q, if_neg q]
          exact g1 i (by omega)
      · intro p hp
        rw [wuc (by omega), wuc (by omega), s3, s4]
        by_cases q : 6 * m ≤ p ∧ p < 6 * m + 6
        · rw [if_pos q, if_pos q]
          exact ⟨rfl, rfl⟩
        · rw [if_neg q, if_neg q]
          exact g2 p (by omega))
    (by
      rintro _ v ⟨g, rfl, hg⟩
      refine ⟨g, ?_, hg⟩
      simp (disch := omega) only [↓reduceIte, wlet, Option.bind_some, true_and, and_true, not_true_eq_false, not_false_eq_true, reduceCtorEq, n0_, n1_, n2_, n3_, n4_, n5_, n6_, n7_, n8_, n9_, n10_, n12_, n16_, n18_, n20_, n21_, n22_, n24_, n25_, n26_, n27_, n28_, n29_, n30_, n31_, n32_, n40_, n41_, n42_, n43_, n45_, n48_, n54_, n57_, n58_, n59_, n60_, n61_, n63_, n96_, n97_, n99_, n100_, n122_, n126_, n200_, n255_, n375_, n400_, n1000_, n2000_, n9999_, n5764801_, n1000000_, n3000_, m1, m2, le_t, le_f, lt_t, lt_f, eq_t, eq_f, no_lt, no_le, le_no, lt_no, eq_no, no_eq, add_no, wib_t, clamp, nI_add, pk_mul, pk_sub, nor_, nand_, ndif_, shl_, sh1_, shr_, tbn, tb0, tb1, les_t, les_f, pk_div, rem_, remv, and31, wu1, wuc, wui, wu2, ws1, wsc, ws2, wv1, n11_, n13_, n14_, n15_, n17_, n19_, n23_, n56_, n64_, fX6_begin_l7])
    (N := 3000) (by omega) (a0 := ()) (v0 := (nI 0, wuI h b 1 (nI 0))) ⟨_, rfl, f0, wu1, fun i hi => absurd hi (Nat.not_lt_zero _), fun p hp => absurd hp (by omega)⟩
  refine ⟨e, ?_, ⟨hW, CL_fr hC e1 (fun c _ _ => by unfold sk; omega), WS_begin hW, ⟨e2, e3, e4⟩, hb⟩, e1⟩
  simp (disch := omega) only [↓reduceIte, wlet, Option.bind_some, true_and, and_true, not_true_eq_false, not_false_eq_true, reduceCtorEq, n0_, n1_, n2_, n3_, n4_, n5_, n6_, n7_, n8_, n9_, n10_, n12_, n16_, n18_, n20_, n21_, n22_, n24_, n25_, n26_, n27_, n28_, n29_, n30_, n31_, n32_, n40_, n41_, n42_, n43_, n45_, n48_, n54_, n57_, n58_, n59_, n60_, n61_, n63_, n96_, n97_, n99_, n100_, n122_, n126_, n200_, n255_, n375_, n400_, n1000_, n2000_, n9999_, n5764801_, n1000000_, n3000_, m1, m2, le_t, le_f, lt_t, lt_f, eq_t, eq_f, no_lt, no_le, le_no, lt_no, eq_no, no_eq, add_no, wib_t, clamp, nI_add, pk_mul, pk_sub, nor_, nand_, ndif_, shl_, sh1_, shr_, tbn, tb0, tb1, les_t, les_f, pk_div, rem_, remv, and31, wu1, wuc, wui, wu2, ws1, wsc, ws2, wv1, n11_, n13_, n14_, n15_, n17_, n19_, n23_, n56_, n64_, fX6_begin, he]
theorem r_fresh (hW : WL L) (hC : ML h L) : ∃ g, fX11_fresh0 h = some g ∧ MX g L (gBegin L) ∧ fr s225 h g := by
  have n1 := hW.1
  obtain ⟨e, he, e1, e2⟩ := wit_for (b := fun v : (Int32 × wSt) => fX11_fresh0_l2 v.2 v.1) (fun _ (u : Unit) => u) 25
    (fun m _ v => ∃ g, v = (nI m, g) ∧ fr s225 h g ∧ ∀ q, q < m → g.1 225 q = nI 0)
    (fun _ g => fr s225 h g ∧ ∀ q, q < 25 → g.1 225 q = nI 0)
    (by
      rintro m _ v hm ⟨g, rfl, fg, g0⟩
      refine ⟨(nI (m + 1), wuI g 225 m (nI 0)), ?_, _, rfl, fr_tr fg (fr_wuI rfl), ?_⟩
      · simp (disch := omega) only [↓reduceIte, wlet, Option.bind_some, true_and, and_true, not_true_eq_false, not_false_eq_true, reduceCtorEq, n0_, n1_, n2_, n3_, n4_, n5_, n6_, n7_, n8_, n9_, n10_, n12_, n16_, n18_, n20_, n21_, n22_, n24_, n25_, n26_, n27_, n28_, n29_, n30_, n31_, n32_, n40_, n41_, n42_, n43_, n45_, n48_, n54_, n57_, n58_, n59_, n60_, n61_, n63_, n96_, n97_, n99_, n100_, n122_, n126_, n200_, n255_, n375_, n400_, n1000_, n2000_, n9999_, n5764801_, n1000000_, n3000_, m1, m2, le_t, le_f, lt_t, lt_f, eq_t, eq_f, no_lt, no_le, le_no, lt_no, eq_no, no_eq, add_no, wib_t, clamp, nI_add, pk_mul, pk_sub, nor_, nand_, ndif_, shl_, sh1_, shr_, tbn, tb0, tb1, les_t, les_f, pk_div, rem_, remv, and31, wu1, wuc, wui, wu2, ws1, wsc, ws2, wv1, n11_, n13_, n14_, n15_, n17_, n19_, n23_, n56_, n64_, fX11_fresh0_l2]
      · intro q hq
        rw [wuS]
        by_cases e : q = m
        · rw [if_pos e]
        · rw [if_neg e]; exact g0 q (by omega))
    (by
      rintro _ v ⟨g, rfl, hg⟩
      refine ⟨g, ?_, hg⟩
      simp (disch := omega) only [↓reduceIte, wlet, Option.bind_some, true_and, and_true, not_true_eq_false, not_false_eq_true, reduceCtorEq, n0_, n1_, n2_, n3_, n4_, n5_, n6_, n7_, n8_, n9_, n10_, n12_, n16_, n18_, n20_, n21_, n22_, n24_, n25_, n26_, n27_, n28_, n29_, n30_, n31_, n32_, n40_, n41_, n42_, n43_, n45_, n48_, n54_, n57_, n58_, n59_, n60_, n61_, n63_, n96_, n97_, n99_, n100_, n122_, n126_, n200_, n255_, n375_, n400_, n1000_, n2000_, n9999_, n5764801_, n1000000_, n3000_, m1, m2, le_t, le_f, lt_t, lt_f, eq_t, eq_f, no_lt, no_le, le_no, lt_no, eq_no, no_eq, add_no, wib_t, clamp, nI_add, pk_mul, pk_sub, nor_, nand_, ndif_, shl_, sh1_, shr_, tbn, tb0, tb1, les_t, les_f, pk_div, rem_, remv, and31, wu1, wuc, wui, wu2, ws1, wsc, ws2, wv1, n11_, n13_, n14_, n15_, n17_, n19_, n23_, n56_, n64_, fX11_fresh0_l2])
    (N := 3000) (by omega) (a0 := ()) (v0 := (nI 0, h)) ⟨_, rfl, fr_rf, fun i hi => absurd hi (Nat.not_lt_zero _)⟩
  obtain ⟨d, hd, d1, d2⟩ := wit_for (b := fun v : (Int32 × wSt) => fX11_fresh0_l23 v.2 v.1) (fun _ (u : Unit) => u) (gns L)
    (fun m _ v => ∃ g, v = (nI m, g) ∧ fr s225 h g ∧ ∀ q, q < 25 → g.1 225 q = nI (if 1 ≤ q ∧ q < 1 + m then gtk L (q - 1) else 0))
    (fun _ g => fr s225 h g ∧ ∀ q, q < 25 → g.1 225 q = nI (if 1 ≤ q ∧ q < 1 + gns L then gtk L (q - 1) else 0))
    (by
      rintro m _ v hm ⟨g, rfl, fg, g0⟩
      have hC2 := ML_fr hC fg (fun c _ _ => by unfold s225; omega)
      have c1 := hC2.1
      have c2 := (hC2.2.2.2.1 m hm).2.1
      refine ⟨(nI (m + 1), wuI g 225 (1 + m) (nI (gtk L m))), ?_, _, rfl, fr_tr fg (fr_wuI rfl), ?_⟩
      · simp (disch := omega) only [↓reduceIte, wlet, Option.bind_some, true_and, and_true, not_true_eq_false, not_false_eq_true, reduceCtorEq, n0_, n1_, n2_, n3_, n4_, n5_, n6_, n7_, n8_, n9_, n10_, n12_, n16_, n18_, n20_, n21_, n22_, n24_, n25_, n26_, n27_, n28_, n29_, n30_, n31_, n32_, n40_, n41_, n42_, n43_, n45_, n48_, n54_, n57_, n58_, n59_, n60_, n61_, n63_, n96_, n97_, n99_, n100_, n122_, n126_, n200_, n255_, n375_, n400_, n1000_, n2000_, n9999_, n5764801_, n1000000_, n3000_, m1, m2, le_t, le_f, lt_t, lt_f, eq_t, eq_f, no_lt, no_le, le_no, lt_no, eq_no, no_eq, add_no, wib_t, clamp, nI_add, pk_mul, pk_sub, nor_, nand_, ndif_, shl_, sh1_, shr_, tbn, tb0, tb1, les_t, les_f, pk_div, rem_, remv, and31, wu1, wuc, wui, wu2, ws1, wsc, ws2, wv1, n11_, n13_, n14_, n15_, n17_, n19_, n23_, n56_, n64_, fX11_fresh0_l23, c1, c2]
      · intro q hq
        rw [wuS]
        by_cases e : q = 1 + m
        · rw [if_pos e, if_pos (by omega), show q - 1 = m by omega]
        · rw [if_neg e, g0 q hq]
          by_cases e2 : 1 ≤ q ∧ q < 1 + m
          · rw [if_pos e2, if_pos (by omega)]
          · rw [if_neg e2, if_neg (by omega)])
    (by
      rintro _ v ⟨g, rfl, fg, g0⟩
      have c1 := (ML_fr hC fg (fun c _ _ => by unfold s225; omega)).1
      refine ⟨g, ?_, fg, g0⟩
      simp (disch := omega) only [↓reduceIte, wlet, Option.bind_some, true_and, and_true, not_true_eq_false, not_false_eq_true, reduceCtorEq, n0_, n1_, n2_, n3_, n4_, n5_, n6_, n7_, n8_, n9_, n10_, n12_, n16_, n18_, n20_, n21_, n22_, n24_, n25_, n26_, n27_, n28_, n29_, n30_, n31_, n32_, n40_, n41_, n42_, n43_, n45_, n48_, n54_, n57_, n58_, n59_, n60_, n61_, n63_, n96_, n97_, n99_, n100_, n122_, n126_, n200_, n255_, n375_, n400_, n1000_, n2000_, n9999_, n5764801_, n1000000_, n3000_, m1, m2, le_t, le_f, lt_t, lt_f, eq_t, eq_f, no_lt, no_le, le_no, lt_no, eq_no, no_eq, add_no, wib_t, clamp, nI_add, pk_mul, pk_sub, nor_, nand_, ndif_, shl_, sh1_, shr_, tbn, tb0, tb1, les_t, les_f, pk_div, rem_, remv, and31, wu1, wuc, wui, wu2, ws1, wsc, ws2, wv1, n11_, n13_, n14_, n15_, n17_, n19_, n23_, n56_, n64_, fX11_fresh0_l23, c1])
    (N := 3000) (by omega) (a0 := ()) (v0 := (nI 0, e)) ⟨_, rfl, e1, fun q hq => by rw [e2 q hq, if_neg (by omega)]⟩
  refine ⟨d, ?_, ⟨hW, ML_fr hC d1 (fun c _ _ => by unfold s225; omega), WS_begin hW, ?_, fun i hi => ⟨?_, ?_⟩, fun p hp => ?_⟩, d1⟩
  · simp (disch := omega) only [↓reduceIte, wlet, Option.bind_some, true_and, and_true, not_true_eq_false, not_false_eq_true, reduceCtorEq, n0_, n1_, n2_, n3_, n4_, n5_, n6_, n7_, n8_, n9_, n10_, n12_, n16_, n18_, n20_, n21_, n22_, n24_, n25_, n26_, n27_, n28_, n29_, n30_, n31_, n32_, n40_, n41_, n42_, n43_, n45_, n48_, n54_, n57_, n58_, n59_, n60_, n61_, n63_, n96_, n97_, n99_, n100_, n122_, n126_, n200_, n255_, n375_, n400_, n1000_, n2000_, n9999_, n5764801_, n1000000_, n3000_, m1, m2, le_t, le_f, lt_t, lt_f, eq_t, eq_f, no_lt, no_le, le_no, lt_no, eq_no, no_eq, add_no, wib_t, clamp, nI_add, pk_mul, pk_sub, nor_, nand_, ndif_, shl_, sh1_, shr_, tbn, tb0, tb1, les_t, les_f, pk_div, rem_, remv, and31, wu1, wuc, wui, wu2, ws1, wsc, ws2, wv1, n11_, n13_, n14_, n15_, n17_, n19_, n23_, n56_, n64_, fX11_fresh0, he, hd]
  · rw [d2 0 (by omega), if_neg (by omega)]; rfl
  · show _ = nI (if i < gns L then gtk L i else 0)
    rw [d2 _ (by omega)]
    by_cases q : i < gns L
    · rw [if_pos (by omega), if_pos q, show 0 + 1 + i - 1 = i by omega]
    · rw [if_neg (by omega), if_neg q]
  · rw [d2 _ (by omega), if_neg (by omega)]; rfl
  · rw [d2 _ (by omega), if_neg (by omega)]; rfl
theorem r_trial6 (hx : MX h L S) : ∃ g, fX11_copies h 225 25 (nI 0) 226 25 (nI 0) = some g ∧ MX g L S ∧ MS g 226 0 S ∧ fr (fun c => c = 226) h g := by
  obtain ⟨hW, hC, hV, hS⟩ := hx
  obtain ⟨g, e, f, q⟩ := r_copies h (a0 := 225) (g0 := 25) (o := 0) (a2 := 226) (g2 := 25) (o2 := 0) (by omega) (by omega) (by omega) (by omega) (by omega)
  exact ⟨g, e, ⟨hW, ML_fr hC f (fun c _ _ => by omega), hV, MS_fr hS f (by omega)⟩, MS_copies hS q, f⟩
theorem r_back6 {S2 : gSh} (hx : MX h L S2) (hV : WS L S) (hS : MS h 226 0 S) : ∃ g, fX11_copies h 226 25 (nI 0) 225 25 (nI 0) = some g ∧ MX g L S ∧ fr s225 h g := by
  obtain ⟨hW, hC, -, -⟩ := hx
  obtain ⟨g, e, f, q⟩ := r_copies h (a0 := 226) (g0 := 25) (o := 0) (a2 := 225) (g2 := 25) (o2 := 0) (by omega) (by omega) (by omega) (by omega) (by omega)
  exact ⟨g, e, ⟨hW, ML_fr hC f (fun c _ _ => by omega), hV, MS_copies hS q⟩, f⟩
/-- a year as it goes: refused, gone, the shelf -/
def gJ (L : gLib) (Y : gYr) (j : Nat) (a : Option Nat × Option Nat × gSh) : Option Nat × Option Nat × gSh :=
  ((if (gDo L (Y.2 j) a.2.2).1 then a.1 else match a.1 with | none => some j | some x => some x), (if gG L (gDo L (Y.2 j) a.2.2).2 = gG L a.2.2 then a.2.1 else match a.2.1 with | none => some j | some x => some x), (gDo L (Y.2 j) a.2.2).2)
theorem gJ_b {j n : Nat} {a : Option Nat × Option Nat × gSh} (h : (∀ x, a.1 = some x → x < n) ∧ ∀ x, a.2.1 = some x → x < n) (hj : j < n) : (∀ x, (gJ L Y j a).1 = some x → x < n) ∧ ∀ x, (gJ L Y j a).2.1 = some x → x < n := by
  obtain ⟨h1, h2⟩ := h
  constructor
  · intro x hx
    unfold gJ at hx
    simp only at hx
    split at hx
    · exact h1 x hx
    · split at hx
      · cases hx; exact hj
      · cases hx
        rename_i y hy
        exact h1 _ hy
  · intro x hx
    unfold gJ at hx
    simp only at hx
    split at hx
    · exact h2 x hx
    · split at hx
      · cases hx; exact hj
      · cases hx
        rename_i y hy
        exact h2 _ hy
theorem c_judge (hx : CX h L 34 (gBegin L)) (hY : WY L Y) (hC : YC h 39 Y) (v1 : Int32) : ∃ g, wit (fun v : (Int32 × Int32 × Int32 × wSt) => fX10_judged_l26 v.2.2.2 v1 v.1 v.2.1 v.2.2.1) 3000 (wno, wno, nI 0, h) = some (rI (gF (gJ L Y) Y.1 (none, none, gBegin L)).1, rI (gF (gJ L Y) Y.1 (none, none, gBegin L)).2.1, g) ∧ CX g L 34 (gF (gJ L Y) Y.1 (none, none, gBegin L)).2.2 ∧ fr (sk 34) h g := by
  have y0 := hY.1
  obtain ⟨e, he, g, eg, xg, fg⟩ := wit_for (b := fun v : (Int32 × Int32 × Int32 × wSt) => fX10_judged_l26 v.2.2.2 v1 v.1 v.2.1 v.2.2.1) (gJ L Y) Y.1
    (fun j a v => ∃ g, v = (rI a.1, rI a.2.1, nI j, g) ∧ CX g L 34 a.2.2 ∧ fr (sk 34) h g ∧ a.2.2.1 ≤ j ∧ ((∀ x, a.1 = some x → x < 40) ∧ ∀ x, a.2.1 = some x → x < 40))
    (fun a e => ∃ g, e = (rI a.1, rI a.2.1, g) ∧ CX g L 34 a.2.2 ∧ fr (sk 34) h g)
    (by
      rintro j ⟨p, q, S2⟩ v hj ⟨g, rfl, xg, fg, hw, hb⟩
      have hw : S2.1 ≤ j := hw
      have xg : CX g L 34 S2 := xg
      have hb1 : ∀ x, p = some x → x < 40 := hb.1
      have hb2 : ∀ x, q = some x → x < 40 := hb.2
      obtain ⟨y1, y2⟩ := YC_fr hC fg (by unfold sk; omega) (by unfold sk; omega)
      have y2 := y2 j hj
      simp only [Nat.reduceAdd] at y2
      have g1 := c_gone xg
      obtain ⟨g2, e2, x2, f2⟩ := c_follow (Y := Y) xg hY hj (by omega)
      have g3 := c_gone x2
      have l1 := gG_lt (S := S2) xg.1
      have l2 := gG_lt (S := (gDo L (Y.2 j) S2).2) xg.1
      have g1 : fX6_goneSkins g 34 = some (nI (gG L S2)) := g1
      have g3 : fX6_goneSkins g2 34 = some (nI (gG L (gDo L (Y.2 j) S2).2)) := g3
      refine ⟨(rI (gJ L Y j (p, q, S2)).1, rI (gJ L Y j (p, q, S2)).2.1, nI (j + 1), g2), ?_, g2, rfl, x2, fr_tr fg f2, ?_, gJ_b hb (by omega)⟩
      · unfold gJ
        have K1 := And.intro g1 l1
        have K2 := And.intro e2 (And.intro g3 l2)
        clear g1 l1 e2 g3 l2 x2
        revert K1 K2
        generalize gDo L (Y.2 j) S2 = d
        obtain ⟨d1, d2⟩ := d
        simp only
        generalize gG L S2 = z1
        generalize gG L d2 = z2
        rintro ⟨g1, l1⟩ ⟨e2, g3, l2⟩
        by_cases hz : z2 = z1
        · subst hz
          cases d1 with
          | true => simp (disch := omega) only [↓reduceIte, wlet, Option.bind_some, true_and, and_true, not_true_eq_false, not_false_eq_true, reduceCtorEq, n0_, n1_, n2_, n3_, n4_, n5_, n6_, n7_, n8_, n9_, n10_, n12_, n16_, n18_, n20_, n21_, n22_, n24_, n25_, n26_, n27_, n28_, n29_, n30_, n31_, n32_, n40_, n41_, n42_, n43_, n45_, n48_, n54_, n57_, n58_, n59_, n60_, n61_, n63_, n96_, n97_, n99_, n100_, n122_, n126_, n200_, n255_, n375_, n400_, n1000_, n2000_, n9999_, n5764801_, n1000000_, n3000_, m1, m2, le_t, le_f, lt_t, lt_f, eq_t, eq_f, no_lt, no_le, le_no, lt_no, eq_no, no_eq, add_no, wib_t, clamp, nI_add, pk_mul, pk_sub, nor_, nand_, ndif_, shl_, sh1_, shr_, tbn, tb0, tb1, les_t, les_f, pk_div, rem_, remv, and31, wu1, wuc, wui, wu2, ws1, wsc, ws2, wv1, n11_, n13_, n14_, n15_, n17_, n19_, n23_, n56_, n64_, fX10_judged_l26, fX10_judged_b79_26, fX10_judged_b99_26, y1, y2, g1, e2, g3]
          | false =>
            cases p with
            | none => simp (disch := omega) only [↓reduceIte, wlet, Option.bind_some, true_and, and_true, not_true_eq_false, not_false_eq_true, reduceCtorEq, n0_, n1_, n2_, n3_, n4_, n5_, n6_, n7_, n8_, n9_, n10_, n12_, n16_, n18_, n20_, n21_, n22_, n24_, n25_, n26_, n27_, n28_, n29_, n30_, n31_, n32_, n40_, n41_, n42_, n43_, n45_, n48_, n54_, n57_, n58_, n59_, n60_, n61_, n63_, n96_, n97_, n99_, n100_, n122_, n126_, n200_, n255_, n375_, n400_, n1000_, n2000_, n9999_, n5764801_, n1000000_, n3000_, m1, m2, le_t, le_f, lt_t, lt_f, eq_t, eq_f, no_lt, no_le, le_no, lt_no, eq_no, no_eq, add_no, wib_t, clamp, nI_add, pk_mul, pk_sub, nor_, nand_, ndif_, shl_, sh1_, shr_, tbn, tb0, tb1, les_t, les_f, pk_div, rem_, remv, and31, wu1, wuc, wui, wu2, ws1, wsc, ws2, wv1, n11_, n13_, n14_, n15_, n17_, n19_, n23_, n56_, n64_, fX10_judged_l26, fX10_judged_b79_26, fX10_judged_b99_26, y1, y2, g1, e2, g3, rI, Option.isSome_none, Option.isSome_some, Bool.false_eq_true]
            | some x =>
              have := hb1 x rfl
              simp (disch := omega) only [↓reduceIte, wlet, Option.bind_some, true_and, and_true, not_true_eq_false, not_false_eq_true, reduceCtorEq, n0_, n1_, n2_, n3_, n4_, n5_, n6_, n7_, n8_, n9_, n10_, n12_, n16_, n18_, n20_, n21_, n22_, n24_, n25_, n26_, n27_, n28_, n29_, n30_, n31_, n32_, n40_, n41_, n42_, n43_, n45_, n48_, n54_, n57_, n58_, n59_, n60_, n61_, n63_, n96_, n97_, n99_, n100_, n122_, n126_, n200_, n255_, n375_, n400_, n1000_, n2000_, n9999_, n5764801_, n1000000_, n3000_, m1, m2, le_t, le_f, lt_t, lt_f, eq_t, eq_f, no_lt, no_le, le_no, lt_no, eq_no, no_eq, add_no, wib_t, clamp, nI_add, pk_mul, pk_sub, nor_, nand_, ndif_, shl_, sh1_, shr_, tbn, tb0, tb1, les_t, les_f, pk_div, rem_, remv, and31, wu1, wuc, wui, wu2, ws1, wsc, ws2, wv1, n11_, n13_, n14_, n15_, n17_, n19_, n23_, n56_, n64_, fX10_judged_l26, fX10_judged_b79_26, fX10_judged_b99_26, y1, y2, g1, e2, g3, rI, Option.isSome_none, Option.isSome_some, Bool.false_eq_true]
        · cases d1 with
          | true =>
            cases q with
            | none => simp (disch := omega) only [↓reduceIte, wlet, Option.bind_some, true_and, and_true, not_true_eq_false, not_false_eq_true, reduceCtorEq, n0_, n1_, n2_, n3_, n4_, n5_, n6_, n7_, n8_, n9_, n10_, n12_, n16_, n18_, n20_, n21_, n22_, n24_, n25_, n26_, n27_, n28_, n29_, n30_, n31_, n32_, n40_, n41_, n42_, n43_, n45_, n48_, n54_, n57_, n58_, n59_, n60_, n61_, n63_, n96_, n97_, n99_, n100_, n122_, n126_, n200_, n255_, n375_, n400_, n1000_, n2000_, n9999_, n5764801_, n1000000_, n3000_, m1, m2, le_t, le_f, lt_t, lt_f, eq_t, eq_f, no_lt, no_le, le_no, lt_no, eq_no, no_eq, add_no, wib_t, clamp, nI_add, pk_mul, pk_sub, nor_, nand_, ndif_, shl_, sh1_, shr_, tbn, tb0, tb1, les_t, les_f, pk_div, rem_, remv, and31, wu1, wuc, wui, wu2, ws1, wsc, ws2, wv1, n11_, n13_, n14_, n15_, n17_, n19_, n23_, n56_, n64_, fX10_judged_l26, fX10_judged_b79_26, fX10_judged_b99_26, y1, y2, g1, e2, g3, rI, hz]
            | some x =>
              have := hb2 x rfl
              simp (disch := omega) only [↓reduceIte, wlet, Option.bind_some, true_and, and_true, not_true_eq_false, not_false_eq_true, reduceCtorEq, n0_, n1_, n2_, n3_, n4_, n5_, n6_, n7_, n8_, n9_, n10_, n12_, n16_, n18_, n20_, n21_, n22_, n24_, n25_, n26_, n27_, n28_, n29_, n30_, n31_, n32_, n40_, n41_, n42_, n43_, n45_, n48_, n54_, n57_, n58_, n59_, n60_, n61_, n63_, n96_, n97_, n99_, n100_, n122_, n126_, n200_, n255_, n375_, n400_, n1000_, n2000_, n9999_, n5764801_, n1000000_, n3000_, m1, m2, le_t, le_f, lt_t, lt_f, eq_t, eq_f, no_lt, no_le, le_no, lt_no, eq_no, no_eq, add_no, wib_t, clamp, nI_add, pk_mul, pk_sub, nor_, nand_, ndif_, shl_, sh1_, shr_, tbn, tb0, tb1, les_t, les_f, pk_div, rem_, remv, and31, wu1, wuc, wui, wu2, ws1, wsc, ws2, wv1, n11_, n13_, n14_, n15_, n17_, n19_, n23_, n56_, n64_, fX10_judged_l26, fX10_judged_b79_26, fX10_judged_b99_26, y1, y2, g1, e2, g3, rI, hz]
          | false =>
            cases p with
            | none =>
              cases q with
              | none => simp (disch := omega) only [↓reduceIte, wlet, Option.bind_some, true_and, and_true, not_true_eq_false, not_false_eq_true, reduceCtorEq, n0_, n1_, n2_, n3_, n4_, n5_, n6_, n7_, n8_, n9_, n10_, n12_, n16_, n18_, n20_, n21_, n22_, n24_, n25_, n26_, n27_, n28_, n29_, n30_, n31_, n32_, n40_, n41_, n42_, n43_, n45_, n48_, n54_, n57_, n58_, n59_, n60_, n61_, n63_, n96_, n97_, n99_, n100_, n122_, n126_, n200_, n255_, n375_, n400_, n1000_, n2000_, n9999_, n5764801_, n1000000_, n3000_, m1, m2, le_t, le_f, lt_t, lt_f, eq_t, eq_f, no_lt, no_le, le_no, lt_no, eq_no, no_eq, add_no, wib_t, clamp, nI_add, pk_mul, pk_sub, nor_, nand_, ndif_, shl_, sh1_, shr_, tbn, tb0, tb1, les_t, les_f, pk_div, rem_, remv, and31, wu1, wuc, wui, wu2, ws1, wsc, ws2, wv1, n11_, n13_, n14_, n15_, n17_, n19_, n23_, n56_, n64_, fX10_judged_l26, fX10_judged_b79_26, fX10_judged_b99_26, y1, y2, g1, e2, g3, rI, hz, Option.isSome_none, Option.isSome_some, Bool.false_eq_true]
              | some x =>
                have := hb2 x rfl
                simp (disch := omega) only [↓reduceIte, wlet, Option.bind_some, true_and, and_true, not_true_eq_false, not_false_eq_true, reduceCtorEq, n0_, n1_, n2_, n3_, n4_, n5_, n6_, n7_, n8_, n9_, n10_, n12_, n16_, n18_, n20_, n21_, n22_, n24_, n25_, n26_, n27_, n28_, n29_, n30_, n31_, n32_, n40_, n41_, n42_, n43_, n45_, n48_, n54_, n57_, n58_, n59_, n60_, n61_, n63_, n96_, n97_, n99_, n100_, n122_, n126_, n200_, n255_, n375_, n400_, n1000_, n2000_, n9999_, n5764801_, n1000000_, n3000_, m1, m2, le_t, le_f, lt_t, lt_f, eq_t, eq_f, no_lt, no_le, le_no, lt_no, eq_no, no_eq, add_no, wib_t, clamp, nI_add, pk_mul, pk_sub, nor_, nand_, ndif_, shl_, sh1_, shr_, tbn, tb0, tb1, les_t, les_f, pk_div, rem_, remv, and31, wu1, wuc, wui, wu2, ws1, wsc, ws2, wv1, n11_, n13_, n14_, n15_, n17_, n19_, n23_, n56_, n64_, fX10_judged_l26, fX10_judged_b79_26, fX10_judged_b99_26, y1, y2, g1, e2, g3, rI, hz, Option.isSome_none, Option.isSome_some, Bool.false_eq_true]
            | some x =>
              have := hb1 x rfl
              cases q with
              | none => simp (disch := omega) only [↓reduceIte, wlet, Option.bind_some, true_and, and_true, not_true_eq_false, not_false_eq_true, reduceCtorEq, n0_, n1_, n2_, n3_, n4_, n5_, n6_, n7_, n8_, n9_, n10_, n12_, n16_, n18_, n20_, n21_, n22_, n24_, n25_, n26_, n27_, n28_, n29_, n30_, n31_, n32_, n40_, n41_, n42_, n43_, n45_, n48_, n54_, n57_, n58_, n59_, n60_, n61_, n63_, n96_, n97_, n99_, n100_, n122_, n126_, n200_, n255_, n375_, n400_, n1000_, n2000_, n9999_, n5764801_, n1000000_, n3000_, m1, m2, le_t, le_f, lt_t, lt_f, eq_t, eq_f, no_lt, no_le, le_no, lt_no, eq_no, no_eq, add_no, wib_t, clamp, nI_add, pk_mul, pk_sub, nor_, nand_, ndif_, shl_, sh1_, shr_, tbn, tb0, tb1, les_t, les_f, pk_div, rem_, remv, and31, wu1, wuc, wui, wu2, ws1, wsc, ws2, wv1, n11_, n13_, n14_, n15_, n17_, n19_, n23_, n56_, n64_, fX10_judged_l26, fX10_judged_b79_26, fX10_judged_b99_26, y1, y2, g1, e2, g3, rI, hz, Option.isSome_none, Option.isSome_some, Bool.false_eq_true]
              | some x =>
                have := hb2 x rfl
                simp (disch := omega) only [↓reduceIte, wlet, Option.bind_some, true_and, and_true, not_true_eq_false, not_false_eq_true, reduceCtorEq, n0_, n1_, n2_, n3_, n4_, n5_, n6_, n7_, n8_, n9_, n10_, n12_, n16_, n18_, n20_, n21_, n22_, n24_, n25_, n26_, n27_, n28_, n29_, n30_, n31_, n32_, n40_, n41_, n42_, n43_, n45_, n48_, n54_, n57_, n58_, n59_, n60_, n61_, n63_, n96_, n97_, n99_, n100_, n122_, n126_, n200_, n255_, n375_, n400_, n1000_, n2000_, n9999_, n5764801_, n1000000_, n3000_, m1, m2, le_t, le_f, lt_t, lt_f, eq_t, eq_f, no_lt, no_le, le_no, lt_no, eq_no, no_eq, add_no, wib_t, clamp, nI_add, pk_mul, pk_sub, nor_, nand_, ndif_, shl_, sh1_, shr_, tbn, tb0, tb1, les_t, les_f, pk_div, rem_, remv, and31, wu1, wuc, wui, wu2, ws1, wsc, ws2, wv1, n11_, n13_, n14_, n15_, n17_, n19_, n23_, n56_, n64_, fX10_judged_l26, fX10_judged_b79_26, fX10_judged_b99_26, y1, y2, g1, e2, g3, rI, hz, Option.isSome_none, Option.isSome_some, Bool.false_eq_true]
      · show (gDo L (Y.2 j) S2).2.1 ≤ j + 1
        have := gDo_week L (Y.2 j) S2
        omega)
    (by
      rintro ⟨p, q, S2⟩ v ⟨g, rfl, xg, fg, -⟩
      have y1 := (YC_fr hC fg (by unfold sk; omega) (by unfold sk; omega)).1
      refine ⟨_, ?_, g, rfl, xg, fg⟩
      simp (disch := omega) only [↓reduceIte, wlet, Option.bind_some, true_and, and_true, not_true_eq_false, not_false_eq_true, reduceCtorEq, n0_, n1_, n2_, n3_, n4_, n5_, n6_, n7_, n8_, n9_, n10_, n12_, n16_, n18_, n20_, n21_, n22_, n24_, n25_, n26_, n27_, n28_, n29_, n30_, n31_, n32_, n40_, n41_, n42_, n43_, n45_, n48_, n54_, n57_, n58_, n59_, n60_, n61_, n63_, n96_, n97_, n99_, n100_, n122_, n126_, n200_, n255_, n375_, n400_, n1000_, n2000_, n9999_, n5764801_, n1000000_, n3000_, m1, m2, le_t, le_f, lt_t, lt_f, eq_t, eq_f, no_lt, no_le, le_no, lt_no, eq_no, no_eq, add_no, wib_t, clamp, nI_add, pk_mul, pk_sub, nor_, nand_, ndif_, shl_, sh1_, shr_, tbn, tb0, tb1, les_t, les_f, pk_div, rem_, remv, and31, wu1, wuc, wui, wu2, ws1, wsc, ws2, wv1, n11_, n13_, n14_, n15_, n17_, n19_, n23_, n56_, n64_, fX10_judged_l26, y1])
    (N := 3000) (by omega) (a0 := (none, none, gBegin L)) (v0 := (wno, wno, nI 0, h)) ⟨h, rfl, hx, fr_rf, Nat.le_refl _, ⟨fun x hx => (by cases hx), fun x hx => (by cases hx)⟩⟩
  exact ⟨g, by rw [he, eg], xg, fg⟩
theorem r_judge (hx : MX h L (gBegin L)) (hY : WY L Y) (hM : YM h 0 Y) (v1 : Int32) : ∃ g, wit (fun v : (Int32 × Int32 × Int32 × wSt) => fX11_judged_l41 v.2.2.2 v1 v.1 v.2.1 v.2.2.1) 3000 (wno, wno, nI 0, h) = some (rI (gF (gJ L Y) Y.1 (none, none, gBegin L)).1, rI (gF (gJ L Y) Y.1 (none, none, gBegin L)).2.1, g) ∧ MX g L (gF (gJ L Y) Y.1 (none, none, gBegin L)).2.2 ∧ fr s225 h g := by
  have y0 := hY.1
  obtain ⟨e, he, g, eg, xg, fg⟩ := wit_for (b := fun v : (Int32 × Int32 × Int32 × wSt) => fX11_judged_l41 v.2.2.2 v1 v.1 v.2.1 v.2.2.1) (gJ L Y) Y.1
    (fun j a v => ∃ g, v = (rI a.1, rI a.2.1, nI j, g) ∧ MX g L a.2.2 ∧ fr s225 h g ∧ a.2.2.1 ≤ j ∧ ((∀ x, a.1 = some x → x < 40) ∧ ∀ x, a.2.1 = some x → x < 40))
    (fun a e => ∃ g, e = (rI a.1, rI a.2.1, g) ∧ MX g L a.2.2 ∧ fr s225 h g)
    (by
      rintro j ⟨p, q, S2⟩ v hj ⟨g, rfl, xg, fg, hw, hb⟩
      have hw : S2.1 ≤ j := hw
      have xg : MX g L S2 := xg
      have hb1 : ∀ x, p = some x → x < 40 := hb.1
      have hb2 : ∀ x, q = some x → x < 40 := hb.2
      have hM2 := YM_fr hM fg (fun c _ _ => by unfold s225; omega)
      have y1 := hM2.1
      have g1 := r_gone xg
      obtain ⟨g2, e2, x2, f2⟩ := r_goes (Y := Y) xg hY hM2 hj (by omega)
      have g3 := r_gone x2
      have l1 := gG_lt (S := S2) xg.1
      have l2 := gG_lt (S := (gDo L (Y.2 j) S2).2) xg.1
      have g1 : fX11_gones g = some (nI (gG L S2)) := g1
      have g3 : fX11_gones g2 = some (nI (gG L (gDo L (Y.2 j) S2).2)) := g3
      refine ⟨(rI (gJ L Y j (p, q, S2)).1, rI (gJ L Y j (p, q, S2)).2.1, nI (j + 1), g2), ?_, g2, rfl, x2, fr_tr fg f2, ?_, gJ_b hb (by omega)⟩
      · unfold gJ
        have K1 := And.intro g1 l1
        have K2 := And.intro e2 (And.intro g3 l2)
        clear g1 l1 e2 g3 l2 x2
        revert K1 K2
        generalize gDo L (Y.2 j) S2 = d
        obtain ⟨d1, d2⟩ := d
        simp only
        generalize gG L S2 = z1
        generalize gG L d2 = z2
        rintro ⟨g1, l1⟩ ⟨e2, g3, l2⟩
        by_cases hz : z2 = z1
        · subst hz
          cases d1 with
          | true => simp (disch := omega) only [↓reduceIte, wlet, Option.bind_some, true_and, and_true, not_true_eq_false, not_false_eq_true, reduceCtorEq, n0_, n1_, n2_, n3_, n4_, n5_, n6_, n7_, n8_, n9_, n10_, n12_, n16_, n18_, n20_, n21_, n22_, n24_, n25_, n26_, n27_, n28_, n29_, n30_, n31_, n32_, n40_, n41_, n42_, n43_, n45_, n48_, n54_, n57_, n58_, n59_, n60_, n61_, n63_, n96_, n97_, n99_, n100_, n122_, n126_, n200_, n255_, n375_, n400_, n1000_, n2000_, n9999_, n5764801_, n1000000_, n3000_, m1, m2, le_t, le_f, lt_t, lt_f, eq_t, eq_f, no_lt, no_le, le_no, lt_no, eq_no, no_eq, add_no, wib_t, clamp, nI_add, pk_mul, pk_sub, nor_, nand_, ndif_, shl_, sh1_, shr_, tbn, tb0, tb1, les_t, les_f, pk_div, rem_, remv, and31, wu1, wuc, wui, wu2, ws1, wsc, ws2, wv1, n11_, n13_, n14_, n15_, n17_, n19_, n23_, n56_, n64_, fX11_judged_l41, fX11_judged_b74_41, fX11_judged_b90_41, y1, g1, e2, g3]
          | false =>
            cases p with
            | none => simp (disch := omega) only [↓reduceIte, wlet, Option.bind_some, true_and, and_true, not_true_eq_false, not_false_eq_true, reduceCtorEq, n0_, n1_, n2_, n3_, n4_, n5_, n6_, n7_, n8_, n9_, n10_, n12_, n16_, n18_, n20_, n21_, n22_, n24_, n25_, n26_, n27_, n28_, n29_, n30_, n31_, n32_, n40_, n41_, n42_, n43_, n45_, n48_, n54_, n57_, n58_, n59_, n60_, n61_, n63_, n96_, n97_, n99_, n100_, n122_, n126_, n200_, n255_, n375_, n400_, n1000_, n2000_, n9999_, n5764801_, n1000000_, n3000_, m1, m2, le_t, le_f, lt_t, lt_f, eq_t, eq_f, no_lt, no_le, le_no, lt_no, eq_no, no_eq, add_no, wib_t, clamp, nI_add, pk_mul, pk_sub, nor_, nand_, ndif_, shl_, sh1_, shr_, tbn, tb0, tb1, les_t, les_f, pk_div, rem_, remv, and31, wu1, wuc, wui, wu2, ws1, wsc, ws2, wv1, n11_, n13_, n14_, n15_, n17_, n19_, n23_, n56_, n64_, fX11_judged_l41, fX11_judged_b74_41, fX11_judged_b90_41, y1, g1, e2, g3, rI, Option.isSome_none, Option.isSome_some, Bool.false_eq_true]
            | some x =>
              have := hb1 x rfl
              simp (disch := omega) only [↓reduceIte, wlet, Option.bind_some, true_and, and_true, not_true_eq_false, not_false_eq_true, reduceCtorEq, n0_, n1_, n2_, n3_, n4_, n5_, n6_, n7_, n8_, n9_, n10_, n12_, n16_, n18_, n20_, n21_, n22_, n24_, n25_, n26_, n27_, n28_, n29_, n30_, n31_, n32_, n40_, n41_, n42_, n43_, n45_, n48_, n54_, n57_, n58_, n59_, n60_, n61_, n63_, n96_, n97_, n99_, n100_, n122_, n126_, n200_, n255_, n375_, n400_, n1000_, n2000_, n9999_, n5764801_, n1000000_, n3000_, m1, m2, le_t, le_f, lt_t, lt_f, eq_t, eq_f, no_lt, no_le, le_no, lt_no, eq_no, no_eq, add_no, wib_t, clamp, nI_add, pk_mul, pk_sub, nor_, nand_, ndif_, shl_, sh1_, shr_, tbn, tb0, tb1, les_t, les_f, pk_div, rem_, remv, and31, wu1, wuc, wui, wu2, ws1, wsc, ws2, wv1, n11_, n13_, n14_, n15_, n17_, n19_, n23_, n56_, n64_, fX11_judged_l41, fX11_judged_b74_41, fX11_judged_b90_41, y1, g1, e2, g3, rI, Option.isSome_none, Option.isSome_some, Bool.false_eq_true]
        · cases d1 with
          | true =>
            cases q with
            | none => simp (disch := omega) only [↓reduceIte, wlet, Option.bind_some, true_and, and_true, not_true_eq_false, not_false_eq_true, reduceCtorEq, n0_, n1_, n2_, n3_, n4_, n5_, n6_, n7_, n8_, n9_, n10_, n12_, n16_, n18_, n20_, n21_, n22_, n24_, n25_, n26_, n27_, n28_, n29_, n30_, n31_, n32_, n40_, n41_, n42_, n43_, n45_, n48_, n54_, n57_, n58_, n59_, n60_, n61_, n63_, n96_, n97_, n99_, n100_, n122_, n126_, n200_, n255_, n375_, n400_, n1000_, n2000_, n9999_, n5764801_, n1000000_, n3000_, m1, m2, le_t, le_f, lt_t, lt_f, eq_t, eq_f, no_lt, no_le, le_no, lt_no, eq_no, no_eq, add_no, wib_t, clamp, nI_add, pk_mul, pk_sub, nor_, nand_, ndif_, shl_, sh1_, shr_, tbn, tb0, tb1, les_t, les_f, pk_div, rem_, remv, and31, wu1, wuc, wui, wu2, ws1, wsc, ws2, wv1, n11_, n13_, n14_, n15_, n17_, n19_, n23_, n56_, n64_, fX11_judged_l41, fX11_judged_b74_41, fX11_judged_b90_41, y1, g1, e2, g3, rI, hz]
            | some x =>
              have := hb2 x rfl
              simp (disch := omega) only [↓reduceIte, wlet, Option.bind_some, true_and, and_true, not_true_eq_false, not_false_eq_true, reduceCtorEq, n0_, n1_, n2_, n3_, n4_, n5_, n6_, n7_, n8_, n9_, n10_, n12_, n16_, n18_, n20_, n21_, n22_, n24_, n25_, n26_, n27_, n28_, n29_, n30_, n31_, n32_, n40_, n41_, n42_, n43_, n45_, n48_, n54_, n57_, n58_, n59_, n60_, n61_, n63_, n96_, n97_, n99_, n100_, n122_, n126_, n200_, n255_, n375_, n400_, n1000_, n2000_, n9999_, n5764801_, n1000000_, n3000_, m1, m2, le_t, le_f, lt_t, lt_f, eq_t, eq_f, no_lt, no_le, le_no, lt_no, eq_no, no_eq, add_no, wib_t, clamp, nI_add, pk_mul, pk_sub, nor_, nand_, ndif_, shl_, sh1_, shr_, tbn, tb0, tb1, les_t, les_f, pk_div, rem_, remv, and31, wu1, wuc, wui, wu2, ws1, wsc, ws2, wv1, n11_, n13_, n14_, n15_, n17_, n19_, n23_, n56_, n64_, fX11_judged_l41, fX11_judged_b74_41, fX11_judged_b90_41, y1, g1, e2, g3, rI, hz]
          | false =>
            cases p with
            | none =>
              cases q with
              | none => simp (disch := omega) only [↓reduceIte, wlet, Option.bind_some, true_and, and_true, not_true_eq_false, not_false_eq_true, reduceCtorEq, n0_, n1_, n2_, n3_, n4_, n5_, n6_, n7_, n8_, n9_, n10_, n12_, n16_, n18_, n20_, n21_, n22_, n24_, n25_, n26_, n27_, n28_, n29_, n30_, n31_, n32_, n40_, n41_, n42_, n43_, n45_, n48_, n54_, n57_, n58_, n59_, n60_, n61_, n63_, n96_, n97_, n99_, n100_, n122_, n126_, n200_, n255_, n375_, n400_, n1000_, n2000_, n9999_, n5764801_, n1000000_, n3000_, m1, m2, le_t, le_f, lt_t, lt_f, eq_t, eq_f, no_lt, no_le, le_no, lt_no, eq_no, no_eq, add_no, wib_t, clamp, nI_add, pk_mul, pk_sub, nor_, nand_, ndif_, shl_, sh1_, shr_, tbn, tb0, tb1, les_t, les_f, pk_div, rem_, remv, and31, wu1, wuc, wui, wu2, ws1, wsc, ws2, wv1, n11_, n13_, n14_, n15_, n17_, n19_, n23_, n56_, n64_, fX11_judged_l41, fX11_judged_b74_41, fX11_judged_b90_41, y1, g1, e2, g3, rI, hz, Option.isSome_none, Option.isSome_some, Bool.false_eq_true]
              | some x =>
                have := hb2 x rfl
                simp (disch := omega) only [↓reduceIte, wlet, Option.bind_some, true_and, and_true, not_true_eq_false, not_false_eq_true, reduceCtorEq, n0_, n1_, n2_, n3_, n4_, n5_, n6_, n7_, n8_, n9_, n10_, n12_, n16_, n18_, n20_, n21_, n22_, n24_, n25_, n26_, n27_, n28_, n29_, n30_, n31_, n32_, n40_, n41_, n42_, n43_, n45_, n48_, n54_, n57_, n58_, n59_, n60_, n61_, n63_, n96_, n97_, n99_, n100_, n122_, n126_, n200_, n255_, n375_, n400_, n1000_, n2000_, n9999_, n5764801_, n1000000_, n3000_, m1, m2, le_t, le_f, lt_t, lt_f, eq_t, eq_f, no_lt, no_le, le_no, lt_no, eq_no, no_eq, add_no, wib_t, clamp, nI_add, pk_mul, pk_sub, nor_, nand_, ndif_, shl_, sh1_, shr_, tbn, tb0, tb1, les_t, les_f, pk_div, rem_, remv, and31, wu1, wuc, wui, wu2, ws1, wsc, ws2, wv1, n11_, n13_, n14_, n15_, n17_, n19_, n23_, n56_, n64_, fX11_judged_l41, fX11_judged_b74_41, fX11_judged_b90_41, y1, g1, e2, g3, rI, hz, Option.isSome_none, Option.isSome_some, Bool.false_eq_true]
            | some x =>
              have := hb1 x rfl
              cases q with
              | none => simp (disch := omega) only [↓reduceIte, wlet, Option.bind_some, true_and, and_true, not_true_eq_false, not_false_eq_true, reduceCtorEq, n0_, n1_, n2_, n3_, n4_, n5_, n6_, n7_, n8_, n9_, n10_, n12_, n16_, n18_, n20_, n21_, n22_, n24_, n25_, n26_, n27_, n28_, n29_, n30_, n31_, n32_, n40_, n41_, n42_, n43_, n45_, n48_, n54_, n57_, n58_, n59_, n60_, n61_, n63_, n96_, n97_, n99_, n100_, n122_, n126_, n200_, n255_, n375_, n400_, n1000_, n2000_, n9999_, n5764801_, n1000000_, n3000_, m1, m2, le_t, le_f, lt_t, lt_f, eq_t, eq_f, no_lt, no_le, le_no, lt_no, eq_no, no_eq, add_no, wib_t, clamp, nI_add, pk_mul, pk_sub, nor_, nand_, ndif_, shl_, sh1_, shr_, tbn, tb0, tb1, les_t, les_f, pk_div, rem_, remv, and31, wu1, wuc, wui, wu2, ws1, wsc, ws2, wv1, n11_, n13_, n14_, n15_, n17_, n19_, n23_, n56_, n64_, fX11_judged_l41, fX11_judged_b74_41, fX11_judged_b90_41, y1, g1, e2, g3, rI, hz, Option.isSome_none, Option.isSome_some, Bool.false_eq_true]
              | some x =>
                have := hb2 x rfl
                simp (disch := omega) only [↓reduceIte, wlet, Option.bind_some, true_and, and_true, not_true_eq_false, not_false_eq_true, reduceCtorEq, n0_, n1_, n2_, n3_, n4_, n5_, n6_, n7_, n8_, n9_, n10_, n12_, n16_, n18_, n20_, n21_, n22_, n24_, n25_, n26_, n27_, n28_, n29_, n30_, n31_, n32_, n40_, n41_, n42_, n43_, n45_, n48_, n54_, n57_, n58_, n59_, n60_, n61_, n63_, n96_, n97_, n99_, n100_, n122_, n126_, n200_, n255_, n375_, n400_, n1000_, n2000_, n9999_, n5764801_, n1000000_, n3000_, m1, m2, le_t, le_f, lt_t, lt_f, eq_t, eq_f, no_lt, no_le, le_no, lt_no, eq_no, no_eq, add_no, wib_t, clamp, nI_add, pk_mul, pk_sub, nor_, nand_, ndif_, shl_, sh1_, shr_, tbn, tb0, tb1, les_t, les_f, pk_div, rem_, remv, and31, wu1, wuc, wui, wu2, ws1, wsc, ws2, wv1, n11_, n13_, n14_, n15_, n17_, n19_, n23_, n56_, n64_, fX11_judged_l41, fX11_judged_b74_41, fX11_judged_b90_41, y1, g1, e2, g3, rI, hz, Option.isSome_none, Option.isSome_some, Bool.false_eq_true]
      · show (gDo L (Y.2 j) S2).2.1 ≤ j + 1
        have := gDo_week L (Y.2 j) S2
        omega)
    (by
      rintro ⟨p, q, S2⟩ v ⟨g, rfl, xg, fg, -⟩
      have y1 := (YM_fr hM fg (fun c _ _ => by unfold s225; omega)).1
      refine ⟨_, ?_, g, rfl, xg, fg⟩
      simp (disch := omega) only [↓reduceIte, wlet, Option.bind_some, true_and, and_true, not_true_eq_false, not_false_eq_true, reduceCtorEq, n0_, n1_, n2_, n3_, n4_, n5_, n6_, n7_, n8_, n9_, n10_, n12_, n16_, n18_, n20_, n21_, n22_, n24_, n25_, n26_, n27_, n28_, n29_, n30_, n31_, n32_, n40_, n41_, n42_, n43_, n45_, n48_, n54_, n57_, n58_, n59_, n60_, n61_, n63_, n96_, n97_, n99_, n100_, n122_, n126_, n200_, n255_, n375_, n400_, n1000_, n2000_, n9999_, n5764801_, n1000000_, n3000_, m1, m2, le_t, le_f, lt_t, lt_f, eq_t, eq_f, no_lt, no_le, le_no, lt_no, eq_no, no_eq, add_no, wib_t, clamp, nI_add, pk_mul, pk_sub, nor_, nand_, ndif_, shl_, sh1_, shr_, tbn, tb0, tb1, les_t, les_f, pk_div, rem_, remv, and31, wu1, wuc, wui, wu2, ws1, wsc, ws2, wv1, n11_, n13_, n14_, n15_, n17_, n19_, n23_, n56_, n64_, fX11_judged_l41, y1])
    (N := 3000) (by omega) (a0 := (none, none, gBegin L)) (v0 := (wno, wno, nI 0, h)) ⟨h, rfl, hx, fr_rf, Nat.le_refl _, ⟨fun x hx => (by cases hx), fun x hx => (by cases hx)⟩⟩
  exact ⟨g, by rw [he, eg], xg, fg⟩
theorem op_judged (hI : Inv k h) (x0 : Int32) : ∃ r h1 h2, fX10_judged h x0 = some (r, h1) ∧ fX11_judged h1 x0 = some (r, h2) ∧ Inv k h2 := by
  obtain ⟨L, S, u, M, Y, N, T, W, C, R⟩ := hI
  have R0 := MI_0 R (nI 0)
  cases e : gRg 0 2 x0 with
  | none =>
    have a3 := r_within (wuI h 188 0 (nI 0)) x0 (a := 0) (b := 2) (by omega) (by omega)
    rw [e] at a3
    refine ⟨wno2, h, _, ?_, ?_, Inv_q0 W C R fr_rf⟩
    · rcases gRg_none e (by omega) (by omega) with q | ⟨q1, q2, q3⟩
      · simp (disch := omega) only [↓reduceIte, wlet, Option.bind_some, true_and, and_true, not_true_eq_false, not_false_eq_true, reduceCtorEq, n0_, n1_, n2_, n3_, n4_, n5_, n6_, n7_, n8_, n9_, n10_, n12_, n16_, n18_, n20_, n21_, n22_, n24_, n25_, n26_, n27_, n28_, n29_, n30_, n31_, n32_, n40_, n41_, n42_, n43_, n45_, n48_, n54_, n57_, n58_, n59_, n60_, n61_, n63_, n96_, n97_, n99_, n100_, n122_, n126_, n200_, n255_, n375_, n400_, n1000_, n2000_, n9999_, n5764801_, n1000000_, n3000_, m1, m2, le_t, le_f, lt_t, lt_f, eq_t, eq_f, no_lt, no_le, le_no, lt_no, eq_no, no_eq, add_no, wib_t, clamp, nI_add, pk_mul, pk_sub, nor_, nand_, ndif_, shl_, sh1_, shr_, tbn, tb0, tb1, les_t, les_f, pk_div, rem_, remv, and31, wu1, wuc, wui, wu2, ws1, wsc, ws2, wv1, n11_, n13_, n14_, n15_, n17_, n19_, n23_, n56_, n64_, fX10_judged, q]
      · simp (disch := omega) only [↓reduceIte, wlet, Option.bind_some, true_and, and_true, not_true_eq_false, not_false_eq_true, reduceCtorEq, n0_, n1_, n2_, n3_, n4_, n5_, n6_, n7_, n8_, n9_, n10_, n12_, n16_, n18_, n20_, n21_, n22_, n24_, n25_, n26_, n27_, n28_, n29_, n30_, n31_, n32_, n40_, n41_, n42_, n43_, n45_, n48_, n54_, n57_, n58_, n59_, n60_, n61_, n63_, n96_, n97_, n99_, n100_, n122_, n126_, n200_, n255_, n375_, n400_, n1000_, n2000_, n9999_, n5764801_, n1000000_, n3000_, m1, m2, le_t, le_f, lt_t, lt_f, eq_t, eq_f, no_lt, no_le, le_no, lt_no, eq_no, no_eq, add_no, wib_t, clamp, nI_add, pk_mul, pk_sub, nor_, nand_, ndif_, shl_, sh1_, shr_, tbn, tb0, tb1, les_t, les_f, pk_div, rem_, remv, and31, wu1, wuc, wui, wu2, ws1, wsc, ws2, wv1, n11_, n13_, n14_, n15_, n17_, n19_, n23_, n56_, n64_, fX10_judged, q1, q3]
    · simp (disch := omega) only [↓reduceIte, wlet, Option.bind_some, true_and, and_true, not_true_eq_false, not_false_eq_true, reduceCtorEq, n0_, n1_, n2_, n3_, n4_, n5_, n6_, n7_, n8_, n9_, n10_, n12_, n16_, n18_, n20_, n21_, n22_, n24_, n25_, n26_, n27_, n28_, n29_, n30_, n31_, n32_, n40_, n41_, n42_, n43_, n45_, n48_, n54_, n57_, n58_, n59_, n60_, n61_, n63_, n96_, n97_, n99_, n100_, n122_, n126_, n200_, n255_, n375_, n400_, n1000_, n2000_, n9999_, n5764801_, n1000000_, n3000_, m1, m2, le_t, le_f, lt_t, lt_f, eq_t, eq_f, no_lt, no_le, le_no, lt_no, eq_no, no_eq, add_no, wib_t, clamp, nI_add, pk_mul, pk_sub, nor_, nand_, ndif_, shl_, sh1_, shr_, tbn, tb0, tb1, les_t, les_f, pk_div, rem_, remv, and31, wu1, wuc, wui, wu2, ws1, wsc, ws2, wv1, n11_, n13_, n14_, n15_, n17_, n19_, n23_, n56_, n64_, fX11_judged, a3, Option.isSome_none, Option.isSome_some, Bool.false_eq_true]
  | some w =>
    obtain ⟨rfl, -, hw⟩ := gRg_some e
    have hY := W.2.2.2.2.2.1
    obtain ⟨g1, e1, x1, f1⟩ := c_begin W.1 C.1 (b := 34) (by omega)
    obtain ⟨g2, e2, x2, f2⟩ := c_judge x1 hY (YC_fr C.2.2.2.2.1 f1 (by unfold sk; omega) (by unfold sk; omega)) (nI w)
    have d2 := c_dampNow x2
    obtain ⟨g3, e3, f3⟩ := c_whole x2 (w := gDamp L (gF (gJ L Y) Y.1 (none, none, gBegin L)).2.2.1) (gDamp_le W.1 _)
    have hlt := gWhole_lt W.1 x2.2.2.1 (gDamp L (gF (gJ L Y) Y.1 (none, none, gBegin L)).2.2.1)
    have e4 := bits_6 g3 hlt
    have f12 : fr cs h g2 := fr_mono (fr_tr f1 f2) (fun c => sk34_cs)
    have f13 : fr cs h g3 := fr_tr f12 (fr_mono f3 (fun c => sq_cs))
    -- the other side, from any heap in which this side has left its own traces
    have key : ∀ g, fr cs h g → ∃ g6, fX11_judged g (nI w) = some ((if w = 0 then rI (gF (gJ L Y) Y.1 (none, none, gBegin L)).1 else if w = 1 then rI (gF (gJ L Y) Y.1 (none, none, gBegin L)).2.1 else nI (gBits (gWhole L (gF (gJ L Y) Y.1 (none, none, gBegin L)).2.2 (gDamp L (gF (gJ L Y) Y.1 (none, none, gBegin L)).2.2.1)))), g6) ∧ Inv k g6 := by
      intro g fg
      have R1 := MI_0 (MI_cls R (fr_mono fg (fun c => cs_cls))) (nI 0)
      have a3 := r_within (wuI g 188 0 (nI 0)) (nI w) (a := 0) (b := 2) (by omega) (by omega)
      rw [e] at a3
      obtain ⟨p1, q1, m1', y1, t1⟩ := r_trial6 (W_MX W R1)
      obtain ⟨p2, q2, m2', t2⟩ := r_fresh W.1 m1'.2.1
      obtain ⟨p3, q3, m3', t3⟩ := r_judge m2' hY (YM_fr (YM_fr R1.2.2.2.2.1 t1 (fun c _ _ => by omega)) t2 (fun c _ _ => by unfold s225; omega)) (nI w)
      obtain ⟨p4, q4, t4⟩ := r_wholeNow m3'
      have q5 := r_bits p4 (x := gWhole L (gF (gJ L Y) Y.1 (none, none, gBegin L)).2.2 (gDamp L (gF (gJ L Y) Y.1 (none, none, gBegin L)).2.2.1)) (by omega)
      obtain ⟨p6, q6, m6', t6⟩ := r_back6 (MX_sr m3' t4) W.2.1 (MS_fr (MS_fr (MS_fr y1 t2 (by unfold s225; omega)) t3 (by unfold s225; omega)) t4 (by unfold sr; omega))
      have ft : fr rt (wuI g 188 0 (nI 0)) p6 := fr_tr (fr_mono t1 (fun c q => by unfold rt; omega)) (fr_tr (fr_mono (fr_tr t2 t3) (fun c q => by unfold s225 at q; unfold rt; omega)) (fr_tr (fr_mono t4 (fun c q => Or.inl q)) (fr_mono t6 (fun c q => by unfold s225 at q; unfold rt; omega))))
      refine ⟨p6, ?_, Inv_qr W C R fg ft m6'.2.2.2⟩
      rcases (show w = 0 ∨ w = 1 ∨ w = 2 by omega) with rfl | rfl | rfl
      · rw [if_pos rfl]
        simp (disch := omega) only [↓reduceIte, wlet, Option.bind_some, true_and, and_true, not_true_eq_false, not_false_eq_true, reduceCtorEq, n0_, n1_, n2_, n3_, n4_, n5_, n6_, n7_, n8_, n9_, n10_, n12_, n16_, n18_, n20_, n21_, n22_, n24_, n25_, n26_, n27_, n28_, n29_, n30_, n31_, n32_, n40_, n41_, n42_, n43_, n45_, n48_, n54_, n57_, n58_, n59_, n60_, n61_, n63_, n96_, n97_, n99_, n100_, n122_, n126_, n200_, n255_, n375_, n400_, n1000_, n2000_, n9999_, n5764801_, n1000000_, n3000_, m1, m2, le_t, le_f, lt_t, lt_f, eq_t, eq_f, no_lt, no_le, le_no, lt_no, eq_no, no_eq, add_no, wib_t, clamp, nI_add, pk_mul, pk_sub, nor_, nand_, ndif_, shl_, sh1_, shr_, tbn, tb0, tb1, les_t, les_f, pk_div, rem_, remv, and31, wu1, wuc, wui, wu2, ws1, wsc, ws2, wv1, n11_, n13_, n14_, n15_, n17_, n19_, n23_, n56_, n64_, fX11_judged, a3, q1, q2, q3, q4, q5, q6, Option.isSome_none, Option.isSome_some, Bool.false_eq_true]
      · rw [if_neg (show ¬ (1 : Nat) = 0 by omega), if_pos rfl]
        simp (disch := omega) only [↓reduceIte, wlet, Option.bind_some, true_and, and_true, not_true_eq_false, not_false_eq_true, reduceCtorEq, n0_, n1_, n2_, n3_, n4_, n5_, n6_, n7_, n8_, n9_, n10_, n12_, n16_, n18_, n20_, n21_, n22_, n24_, n25_, n26_, n27_, n28_, n29_, n30_, n31_, n32_, n40_, n41_, n42_, n43_, n45_, n48_, n54_, n57_, n58_, n59_, n60_, n61_, n63_, n96_, n97_, n99_, n100_, n122_, n126_, n200_, n255_, n375_, n400_, n1000_, n2000_, n9999_, n5764801_, n1000000_, n3000_, m1, m2, le_t, le_f, lt_t, lt_f, eq_t, eq_f, no_lt, no_le, le_no, lt_no, eq_no, no_eq, add_no, wib_t, clamp, nI_add, pk_mul, pk_sub, nor_, nand_, ndif_, shl_, sh1_, shr_, tbn, tb0, tb1, les_t, les_f, pk_div, rem_, remv, and31, wu1, wuc, wui, wu2, ws1, wsc, ws2, wv1, n11_, n13_, n14_, n15_, n17_, n19_, n23_, n56_, n64_, fX11_judged, a3, q1, q2, q3, q4, q5, q6, Option.isSome_none, Option.isSome_some, Bool.false_eq_true]
      · rw [if_neg (show ¬ (2 : Nat) = 0 by omega), if_neg (show ¬ (2 : Nat) = 1 by omega)]
        simp (disch := omega) only [↓reduceIte, wlet, Option.bind_some, true_and, and_true, not_true_eq_false, not_false_eq_true, reduceCtorEq, n0_, n1_, n2_, n3_, n4_, n5_, n6_, n7_, n8_, n9_, n10_, n12_, n16_, n18_, n20_, n21_, n22_, n24_, n25_, n26_, n27_, n28_, n29_, n30_, n31_, n32_, n40_, n41_, n42_, n43_, n45_, n48_, n54_, n57_, n58_, n59_, n60_, n61_, n63_, n96_, n97_, n99_, n100_, n122_, n126_, n200_, n255_, n375_, n400_, n1000_, n2000_, n9999_, n5764801_, n1000000_, n3000_, m1, m2, le_t, le_f, lt_t, lt_f, eq_t, eq_f, no_lt, no_le, le_no, lt_no, eq_no, no_eq, add_no, wib_t, clamp, nI_add, pk_mul, pk_sub, nor_, nand_, ndif_, shl_, sh1_, shr_, tbn, tb0, tb1, les_t, les_f, pk_div, rem_, remv, and31, wu1, wuc, wui, wu2, ws1, wsc, ws2, wv1, n11_, n13_, n14_, n15_, n17_, n19_, n23_, n56_, n64_, fX11_judged, a3, q1, q2, q3, q4, q5, q6, Option.isSome_none, Option.isSome_some, Bool.false_eq_true]
    rcases (show w = 0 ∨ w = 1 ∨ w = 2 by omega) with rfl | rfl | rfl
    · obtain ⟨g6, k1, k2⟩ := key g2 f12
      refine ⟨_, g2, g6, ?_, k1, k2⟩
      rw [if_pos rfl]
      simp (disch := omega) only [↓reduceIte, wlet, Option.bind_some, true_and, and_true, not_true_eq_false, not_false_eq_true, reduceCtorEq, n0_, n1_, n2_, n3_, n4_, n5_, n6_, n7_, n8_, n9_, n10_, n12_, n16_, n18_, n20_, n21_, n22_, n24_, n25_, n26_, n27_, n28_, n29_, n30_, n31_, n32_, n40_, n41_, n42_, n43_, n45_, n48_, n54_, n57_, n58_, n59_, n60_, n61_, n63_, n96_, n97_, n99_, n100_, n122_, n126_, n200_, n255_, n375_, n400_, n1000_, n2000_, n9999_, n5764801_, n1000000_, n3000_, m1, m2, le_t, le_f, lt_t, lt_f, eq_t, eq_f, no_lt, no_le, le_no, lt_no, eq_no, no_eq, add_no, wib_t, clamp, nI_add, pk_mul, pk_sub, nor_, nand_, ndif_, shl_, sh1_, shr_, tbn, tb0, tb1, les_t, les_f, pk_div, rem_, remv, and31, wu1, wuc, wui, wu2, ws1, wsc, ws2, wv1, n11_, n13_, n14_, n15_, n17_, n19_, n23_, n56_, n64_, fX10_judged, e1, e2]
    · obtain ⟨g6, k1, k2⟩ := key g2 f12
      refine ⟨_, g2, g6, ?_, k1, k2⟩
      rw [if_neg (show ¬ (1 : Nat) = 0 by omega), if_pos rfl]
      simp (disch := omega) only [↓reduceIte, wlet, Option.bind_some, true_and, and_true, not_true_eq_false, not_false_eq_true, reduceCtorEq, n0_, n1_, n2_, n3_, n4_, n5_, n6_, n7_, n8_, n9_, n10_, n12_, n16_, n18_, n20_, n21_, n22_, n24_, n25_, n26_, n27_, n28_, n29_, n30_, n31_, n32_, n40_, n41_, n42_, n43_, n45_, n48_, n54_, n57_, n58_, n59_, n60_, n61_, n63_, n96_, n97_, n99_, n100_, n122_, n126_, n200_, n255_, n375_, n400_, n1000_, n2000_, n9999_, n5764801_, n1000000_, n3000_, m1, m2, le_t, le_f, lt_t, lt_f, eq_t, eq_f, no_lt, no_le, le_no, lt_no, eq_no, no_eq, add_no, wib_t, clamp, nI_add, pk_mul, pk_sub, nor_, nand_, ndif_, shl_, sh1_, shr_, tbn, tb0, tb1, les_t, les_f, pk_div, rem_, remv, and31, wu1, wuc, wui, wu2, ws1, wsc, ws2, wv1, n11_, n13_, n14_, n15_, n17_, n19_, n23_, n56_, n64_, fX10_judged, e1, e2]
    · obtain ⟨g6, k1, k2⟩ := key g3 f13
      refine ⟨_, g3, g6, ?_, k1, k2⟩
      rw [if_neg (show ¬ (2 : Nat) = 0 by omega), if_neg (show ¬ (2 : Nat) = 1 by omega)]
      simp (disch := omega) only [↓reduceIte, wlet, Option.bind_some, true_and, and_true, not_true_eq_false, not_false_eq_true, reduceCtorEq, n0_, n1_, n2_, n3_, n4_, n5_, n6_, n7_, n8_, n9_, n10_, n12_, n16_, n18_, n20_, n21_, n22_, n24_, n25_, n26_, n27_, n28_, n29_, n30_, n31_, n32_, n40_, n41_, n42_, n43_, n45_, n48_, n54_, n57_, n58_, n59_, n60_, n61_, n63_, n96_, n97_, n99_, n100_, n122_, n126_, n200_, n255_, n375_, n400_, n1000_, n2000_, n9999_, n5764801_, n1000000_, n3000_, m1, m2, le_t, le_f, lt_t, lt_f, eq_t, eq_f, no_lt, no_le, le_no, lt_no, eq_no, no_eq, add_no, wib_t, clamp, nI_add, pk_mul, pk_sub, nor_, nand_, ndif_, shl_, sh1_, shr_, tbn, tb0, tb1, les_t, les_f, pk_div, rem_, remv, and31, wu1, wuc, wui, wu2, ws1, wsc, ws2, wv1, n11_, n13_, n14_, n15_, n17_, n19_, n23_, n56_, n64_, fX10_judged, e1, e2, d2, e3, e4]
end G46

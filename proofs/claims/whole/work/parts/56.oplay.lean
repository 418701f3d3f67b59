/-! LAY: the call -/
section G56
variable {h : wSt} {k : Nat} {L : gLib} {S : gSh}
theorem c_freeLines {b : Nat} (hx : CX h L b S) : ∃ F, fX6_freeLines h b = some (nI F) ∧ FM L S F := by
  have n1 := hx.1.1
  have c1 := hx.2.1.1
  obtain ⟨e, he, F, eF, hF⟩ := wit_for (b := fun v : (Int32 × Int32) => fX6_freeLines_l4 h b v.1 v.2) (fun _ (u : Unit) => u) (gns L)
    (fun m _ v => ∃ F, v = (nI F, nI m) ∧ ∀ p, F.testBit p = (decide (p < 6 * m) && (decide (p % 6 < gln L (p / 6)) && gFr L S (p / 6) (p % 6))))
    (fun _ e => ∃ F, e = nI F ∧ FM L S F)
    (by
      rintro m _ v hm ⟨F, rfl, hF⟩
      obtain ⟨x, ex, hx6, hb⟩ := c_free hx hm
      have l2 := (hx.1.2.2.2.1 m hm).2.1
      have hs : x * 2 ^ (6 * m) < 4294967296 := by
        have q1 : 2 ^ (6 * m) ≤ 2 ^ 12 := Nat.pow_le_pow_right (by decide) (by omega)
        have := Nat.mul_le_mul (show x ≤ 64 by omega) q1
        omega
      refine ⟨(nI (F ||| x * 2 ^ (6 * m)), nI (m + 1)), ?_, _, rfl, fun p => ?_⟩
      · simp (disch := omega) only [↓reduceIte, wlet, Option.bind_some, true_and, and_true, not_true_eq_false, not_false_eq_true, reduceCtorEq, n0_, n1_, n2_, n3_, n4_, n5_, n6_, n7_, n8_, n9_, n10_, n12_, n16_, n18_, n20_, n21_, n22_, n24_, n25_, n26_, n27_, n28_, n29_, n30_, n31_, n32_, n40_, n41_, n42_, n43_, n45_, n48_, n54_, n57_, n58_, n59_, n60_, n61_, n63_, n96_, n97_, n99_, n100_, n122_, n126_, n200_, n255_, n375_, n400_, n1000_, n2000_, n9999_, n5764801_, n1000000_, n3000_, m1, m2, le_t, le_f, lt_t, lt_f, eq_t, eq_f, no_lt, no_le, le_no, lt_no, eq_no, no_eq, add_no, wib_t, clamp, nI_add, pk_mul, pk_sub, nor_, nand_, ndif_, shl_, sh1_, shr_, tbn, tb0, tb1, les_t, les_f, pk_div, rem_, remv, and31, wu1, wuc, wui, wu2, ws1, wsc, ws2, wv1, n11_, n13_, n14_, n15_, n17_, n19_, n23_, n56_, n64_, fX6_freeLines_l4, c1, ex]
      · rw [Nat.testBit_or, hF, Nat.testBit_mul_two_pow, hb]
        by_cases q1 : p < 6 * m
        · rw [decide_eq_true q1, decide_eq_false (show ¬ 6 * m ≤ p by omega), Bool.false_and, Bool.or_false, decide_eq_true (show p < 6 * (m + 1) by omega)]
        · rw [decide_eq_false q1, Bool.false_and, Bool.false_or, decide_eq_true (show 6 * m ≤ p by omega), Bool.true_and]
          by_cases q2 : p < 6 * (m + 1)
          · rw [decide_eq_true q2, Bool.true_and, show p / 6 = m by omega, show p % 6 = p - 6 * m by omega]
          · rw [decide_eq_false q2, Bool.false_and, decide_eq_false (by omega), Bool.false_and])
    (by
      rintro _ v ⟨F, rfl, hF⟩
      refine ⟨nI F, ?_, F, rfl, hF⟩
      simp (disch := omega) only [↓reduceIte, wlet, Option.bind_some, true_and, and_true, not_true_eq_false, not_false_eq_true, reduceCtorEq, n0_, n1_, n2_, n3_, n4_, n5_, n6_, n7_, n8_, n9_, n10_, n12_, n16_, n18_, n20_, n21_, n22_, n24_, n25_, n26_, n27_, n28_, n29_, n30_, n31_, n32_, n40_, n41_, n42_, n43_, n45_, n48_, n54_, n57_, n58_, n59_, n60_, n61_, n63_, n96_, n97_, n99_, n100_, n122_, n126_, n200_, n255_, n375_, n400_, n1000_, n2000_, n9999_, n5764801_, n1000000_, n3000_, m1, m2, le_t, le_f, lt_t, lt_f, eq_t, eq_f, no_lt, no_le, le_no, lt_no, eq_no, no_eq, add_no, wib_t, clamp, nI_add, pk_mul, pk_sub, nor_, nand_, ndif_, shl_, sh1_, shr_, tbn, tb0, tb1, les_t, les_f, pk_div, rem_, remv, and31, wu1, wuc, wui, wu2, ws1, wsc, ws2, wv1, n11_, n13_, n14_, n15_, n17_, n19_, n23_, n56_, n64_, fX6_freeLines_l4, c1])
    (N := 3000) (by omega) (a0 := ()) (v0 := (nI 0, nI 0)) ⟨0, rfl, fun p => by rw [Nat.zero_testBit, decide_eq_false (by omega), Bool.false_and]⟩
  refine ⟨F, ?_, hF⟩
  simp (disch := omega) only [↓reduceIte, wlet, Option.bind_some, true_and, and_true, not_true_eq_false, not_false_eq_true, reduceCtorEq, n0_, n1_, n2_, n3_, n4_, n5_, n6_, n7_, n8_, n9_, n10_, n12_, n16_, n18_, n20_, n21_, n22_, n24_, n25_, n26_, n27_, n28_, n29_, n30_, n31_, n32_, n40_, n41_, n42_, n43_, n45_, n48_, n54_, n57_, n58_, n59_, n60_, n61_, n63_, n96_, n97_, n99_, n100_, n122_, n126_, n200_, n255_, n375_, n400_, n1000_, n2000_, n9999_, n5764801_, n1000000_, n3000_, m1, m2, le_t, le_f, lt_t, lt_f, eq_t, eq_f, no_lt, no_le, le_no, lt_no, eq_no, no_eq, add_no, wib_t, clamp, nI_add, pk_mul, pk_sub, nor_, nand_, ndif_, shl_, sh1_, shr_, tbn, tb0, tb1, les_t, les_f, pk_div, rem_, remv, and31, wu1, wuc, wui, wu2, ws1, wsc, ws2, wv1, n11_, n13_, n14_, n15_, n17_, n19_, n23_, n56_, n64_, fX6_freeLines, he, eF]
theorem op_lay (hI : Inv k h) (x0 : Int32) : ∃ r h1 h2, fX10_lay h x0 = some (r, h1) ∧ fX11_lay h1 x0 = some (r, h2) ∧ Inv k h2 := by
  obtain ⟨L, S, u, M, Y, N, T, W, C, R⟩ := hI
  have n2 := W.1.2.1
  have hC := W_CX W C
  have a1 := c_hasText W.1 C.1 x0
  obtain ⟨F, eF, hF⟩ := c_freeLines hC
  obtain ⟨g1, e1, f1, b1, p1⟩ := c_find W.1 C.1 (FM_lt W.1 hF)
  have f1' : fr cs h g1 := fr_mono f1 (fun c q => by unfold sLa at q; unfold cs; omega)
  have R1 := MI_0 (MI_cls R (fr_mono f1' (fun c => cs_cls))) (nI 0)
  have hM := W_MX W R1
  have f2 : fr (fun c => c = 188) (wuI g1 188 0 (nI 0)) (wuI (wuI g1 188 0 (nI 0)) 188 57 wno) := fr_wuI rfl
  have hM2 : MX (wuI (wuI g1 188 0 (nI 0)) 188 57 wno) L S := ⟨W.1, ML_fr hM.2.1 f2 (fun c _ _ => by omega), W.2.1, MS_fr hM.2.2.2 f2 (by omega)⟩
  obtain ⟨g3, e3, hM3, f3, j3, r3, yes, -⟩ := r_wall W.1 64 (gnt L) (by omega) (Nat.le_refl _) _ S F 0 none hM2 hF wu1 (fun m hm => by cases hm) (by omega)
  obtain ⟨y1, y2⟩ := yes trivial
  rw [Nat.sub_self] at e3
  rw [Nat.zero_add] at y1
  have hfin : Inv k g3 := by
    refine Inv_q W C R f1' (fr_tr (fr_mono f2 (fun c q => Or.inl q)) (fr_mono f3 (fun c q => by unfold sW at q; unfold rs; omega))) ?_ ?_ hM3.2.2.2
    · rw [j3 1 (by omega), wui (by omega), wui (by omega)]
    · rw [j3 54 (by omega), wui (by omega), wui (by omega)]
  by_cases h0 : x0 = wno
  · subst h0
    refine ⟨nI (bst (tlr L (gnt L)) F), g1, g3, ?_, ?_, hfin⟩
    · simp (disch := omega) only [↓reduceIte, wlet, Option.bind_some, true_and, and_true, not_true_eq_false, not_false_eq_true, reduceCtorEq, n0_, n1_, n2_, n3_, n4_, n5_, n6_, n7_, n8_, n9_, n10_, n12_, n16_, n18_, n20_, n21_, n22_, n24_, n25_, n26_, n27_, n28_, n29_, n30_, n31_, n32_, n40_, n41_, n42_, n43_, n45_, n48_, n54_, n57_, n58_, n59_, n60_, n61_, n63_, n96_, n97_, n99_, n100_, n122_, n126_, n200_, n255_, n375_, n400_, n1000_, n2000_, n9999_, n5764801_, n1000000_, n3000_, m1, m2, le_t, le_f, lt_t, lt_f, eq_t, eq_f, no_lt, no_le, le_no, lt_no, eq_no, no_eq, add_no, wib_t, clamp, nI_add, pk_mul, pk_sub, nor_, nand_, ndif_, shl_, sh1_, shr_, tbn, tb0, tb1, les_t, les_f, pk_div, rem_, remv, and31, wu1, wuc, wui, wu2, ws1, wsc, ws2, wv1, n11_, n13_, n14_, n15_, n17_, n19_, n23_, n56_, n64_, fX10_lay, fX10_lay_b19, eF, e1, b1]
    · simp (disch := omega) only [↓reduceIte, wlet, Option.bind_some, true_and, and_true, not_true_eq_false, not_false_eq_true, reduceCtorEq, n0_, n1_, n2_, n3_, n4_, n5_, n6_, n7_, n8_, n9_, n10_, n12_, n16_, n18_, n20_, n21_, n22_, n24_, n25_, n26_, n27_, n28_, n29_, n30_, n31_, n32_, n40_, n41_, n42_, n43_, n45_, n48_, n54_, n57_, n58_, n59_, n60_, n61_, n63_, n96_, n97_, n99_, n100_, n122_, n126_, n200_, n255_, n375_, n400_, n1000_, n2000_, n9999_, n5764801_, n1000000_, n3000_, m1, m2, le_t, le_f, lt_t, lt_f, eq_t, eq_f, no_lt, no_le, le_no, lt_no, eq_no, no_eq, add_no, wib_t, clamp, nI_add, pk_mul, pk_sub, nor_, nand_, ndif_, shl_, sh1_, shr_, tbn, tb0, tb1, les_t, les_f, pk_div, rem_, remv, and31, wu1, wuc, wui, wu2, ws1, wsc, ws2, wv1, n11_, n13_, n14_, n15_, n17_, n19_, n23_, n56_, n64_, fX11_lay, fX11_lay_b21, e3, y1]
  · cases e : gIx (gnt L) x0 with
    | none =>
      have R0 := MI_0 R (nI 0)
      have a2 := r_isText W.1 R0.1 x0
      rw [e] at a1 a2
      refine ⟨wno2, h, _, ?_, ?_, Inv_q0 W C R fr_rf⟩
      · simp (disch := omega) only [↓reduceIte, wlet, Option.bind_some, true_and, and_true, not_true_eq_false, not_false_eq_true, reduceCtorEq, n0_, n1_, n2_, n3_, n4_, n5_, n6_, n7_, n8_, n9_, n10_, n12_, n16_, n18_, n20_, n21_, n22_, n24_, n25_, n26_, n27_, n28_, n29_, n30_, n31_, n32_, n40_, n41_, n42_, n43_, n45_, n48_, n54_, n57_, n58_, n59_, n60_, n61_, n63_, n96_, n97_, n99_, n100_, n122_, n126_, n200_, n255_, n375_, n400_, n1000_, n2000_, n9999_, n5764801_, n1000000_, n3000_, m1, m2, le_t, le_f, lt_t, lt_f, eq_t, eq_f, no_lt, no_le, le_no, lt_no, eq_no, no_eq, add_no, wib_t, clamp, nI_add, pk_mul, pk_sub, nor_, nand_, ndif_, shl_, sh1_, shr_, tbn, tb0, tb1, les_t, les_f, pk_div, rem_, remv, and31, wu1, wuc, wui, wu2, ws1, wsc, ws2, wv1, n11_, n13_, n14_, n15_, n17_, n19_, n23_, n56_, n64_, fX10_lay, h0, a1, Option.isSome_none, Option.isSome_some, Bool.false_eq_true]
      · simp (disch := omega) only [↓reduceIte, wlet, Option.bind_some, true_and, and_true, not_true_eq_false, not_false_eq_true, reduceCtorEq, n0_, n1_, n2_, n3_, n4_, n5_, n6_, n7_, n8_, n9_, n10_, n12_, n16_, n18_, n20_, n21_, n22_, n24_, n25_, n26_, n27_, n28_, n29_, n30_, n31_, n32_, n40_, n41_, n42_, n43_, n45_, n48_, n54_, n57_, n58_, n59_, n60_, n61_, n63_, n96_, n97_, n99_, n100_, n122_, n126_, n200_, n255_, n375_, n400_, n1000_, n2000_, n9999_, n5764801_, n1000000_, n3000_, m1, m2, le_t, le_f, lt_t, lt_f, eq_t, eq_f, no_lt, no_le, le_no, lt_no, eq_no, no_eq, add_no, wib_t, clamp, nI_add, pk_mul, pk_sub, nor_, nand_, ndif_, shl_, sh1_, shr_, tbn, tb0, tb1, les_t, les_f, pk_div, rem_, remv, and31, wu1, wuc, wui, wu2, ws1, wsc, ws2, wv1, n11_, n13_, n14_, n15_, n17_, n19_, n23_, n56_, n64_, fX11_lay, h0, a2, Option.isSome_none, Option.isSome_some, Bool.false_eq_true]
    | some t =>
      obtain ⟨rfl, ht⟩ := gIx_some e
      have a2 := r_isText W.1 R1.1 (nI t)
      rw [e] at a1 a2
      have p1 := p1 t ht
      have y2 := y2 t ht
      rw [Nat.sub_self, if_neg (Nat.not_lt_zero _), Nat.sub_zero] at y2
      refine ⟨rI ((grd (tlr L (gnt L)) F (bst (tlr L (gnt L)) F)).getD t none), g1, g3, ?_, ?_, hfin⟩
      · simp (disch := omega) only [↓reduceIte, wlet, Option.bind_some, true_and, and_true, not_true_eq_false, not_false_eq_true, reduceCtorEq, n0_, n1_, n2_, n3_, n4_, n5_, n6_, n7_, n8_, n9_, n10_, n12_, n16_, n18_, n20_, n21_, n22_, n24_, n25_, n26_, n27_, n28_, n29_, n30_, n31_, n32_, n40_, n41_, n42_, n43_, n45_, n48_, n54_, n57_, n58_, n59_, n60_, n61_, n63_, n96_, n97_, n99_, n100_, n122_, n126_, n200_, n255_, n375_, n400_, n1000_, n2000_, n9999_, n5764801_, n1000000_, n3000_, m1, m2, le_t, le_f, lt_t, lt_f, eq_t, eq_f, no_lt, no_le, le_no, lt_no, eq_no, no_eq, add_no, wib_t, clamp, nI_add, pk_mul, pk_sub, nor_, nand_, ndif_, shl_, sh1_, shr_, tbn, tb0, tb1, les_t, les_f, pk_div, rem_, remv, and31, wu1, wuc, wui, wu2, ws1, wsc, ws2, wv1, n11_, n13_, n14_, n15_, n17_, n19_, n23_, n56_, n64_, fX10_lay, fX10_lay_b19, a1, eF, e1, p1, Option.isSome_none, Option.isSome_some, Bool.false_eq_true]
      · simp (disch := omega) only [↓reduceIte, wlet, Option.bind_some, true_and, and_true, not_true_eq_false, not_false_eq_true, reduceCtorEq, n0_, n1_, n2_, n3_, n4_, n5_, n6_, n7_, n8_, n9_, n10_, n12_, n16_, n18_, n20_, n21_, n22_, n24_, n25_, n26_, n27_, n28_, n29_, n30_, n31_, n32_, n40_, n41_, n42_, n43_, n45_, n48_, n54_, n57_, n58_, n59_, n60_, n61_, n63_, n96_, n97_, n99_, n100_, n122_, n126_, n200_, n255_, n375_, n400_, n1000_, n2000_, n9999_, n5764801_, n1000000_, n3000_, m1, m2, le_t, le_f, lt_t, lt_f, eq_t, eq_f, no_lt, no_le, le_no, lt_no, eq_no, no_eq, add_no, wib_t, clamp, nI_add, pk_mul, pk_sub, nor_, nand_, ndif_, shl_, sh1_, shr_, tbn, tb0, tb1, les_t, les_f, pk_div, rem_, remv, and31, wu1, wuc, wui, wu2, ws1, wsc, ws2, wv1, n11_, n13_, n14_, n15_, n17_, n19_, n23_, n56_, n64_, fX11_lay, fX11_lay_b21, a2, e3, y2, Option.isSome_none, Option.isSome_some, Bool.false_eq_true]
end G56

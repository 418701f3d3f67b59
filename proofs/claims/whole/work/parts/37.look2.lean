/-! MORE QUESTIONS: alike, deepest, bare, lost, layers -/
section G37
variable {h g : wSt} {L : gLib} {k : Nat} {S : gSh}
theorem alike_iff (hW : WL L) (hV : WS L S) {p q : Nat} (hp : p < 18) (hq : q < 18) : (S.2.2.2 p).length = (S.2.2.2 q).length → e8 (S.2.2.2 p) = e8 (S.2.2.2 q) → S.2.2.2 p = S.2.2.2 q := by
  intro h1 h2
  exact e8_inj (fun t ht => by have := (pile_lt hW hV hp).2 t ht; omega) (fun t ht => by have := (pile_lt hW hV hq).2 t ht; omega) h1 h2
theorem same_in (hc : CX h L k S) (hm : MX g L S) {p : Nat} (hp : p < 18) (a : Nat) : ∃ x, wit (fun v : (Int32 × Int32) => fX6_pairsAlike_l12 h k (nI p) v.1 v.2) 3000 (nI a, nI 0) = some (nI x) ∧ wit (fun v : (Int32 × Int32) => fX11_same_l17 g (nI p) v.1 v.2) 3000 (nI a, nI 0) = some (nI x) := by
  obtain ⟨hW, hC, hV, hS, hk⟩ := id hc
  obtain ⟨s1, s2⟩ := hS.2.2 p hp
  have s3 := r_pile hm hp
  obtain ⟨p1, p2⟩ := pile_lt hW hV hp
  have p3 := e7_lt9 p1 p2
  have p4 := e8_lt9 p1 p2
  obtain ⟨e1, e2, h1, h2, x, rfl, rfl⟩ := wit2 (b1 := fun v : (Int32 × Int32) => fX6_pairsAlike_l12 h k (nI p) v.1 v.2) (b2 := fun v : (Int32 × Int32) => fX11_same_l17 g (nI p) v.1 v.2) p
    (fun i v1 v2 => ∃ a, v1 = (nI a, nI i) ∧ v2 = (nI a, nI i)) (fun e1 e2 => ∃ x, e1 = nI x ∧ e2 = nI x)
    (by
      rintro i _ _ hi ⟨a, rfl, rfl⟩
      obtain ⟨q1, q2⟩ := hS.2.2 i (by omega)
      have q3 := r_pile hm (p := i) (by omega)
      obtain ⟨u1, u2⟩ := pile_lt hW hV (p := i) (by omega)
      have u3 := e7_lt9 u1 u2
      have u4 := e8_lt9 u1 u2
      left
      by_cases h0 : S.2.2.2 p = []
      · have z1 : (S.2.2.2 p).length = 0 := by rw [h0]; rfl
        have z2 : e7 (S.2.2.2 p) = 0 := by rw [h0]; rfl
        refine ⟨(nI a, nI (i + 1)), (nI a, nI (i + 1)), ?_, ?_, a, rfl, rfl⟩
        · simp (disch := omega) only [↓reduceIte, wlet, Option.bind_some, true_and, and_true, not_true_eq_false, not_false_eq_true, reduceCtorEq, n0_, n1_, n2_, n3_, n4_, n5_, n6_, n7_, n8_, n9_, n10_, n12_, n16_, n18_, n20_, n21_, n22_, n24_, n25_, n26_, n27_, n28_, n29_, n30_, n31_, n32_, n40_, n41_, n42_, n43_, n45_, n48_, n54_, n57_, n58_, n59_, n60_, n61_, n63_, n96_, n97_, n99_, n100_, n122_, n126_, n200_, n255_, n375_, n400_, n1000_, n2000_, n9999_, n5764801_, n1000000_, n3000_, m1, m2, le_t, le_f, lt_t, lt_f, eq_t, eq_f, no_lt, no_le, le_no, lt_no, eq_no, no_eq, add_no, wib_t, clamp, nI_add, pk_mul, pk_sub, nor_, nand_, ndif_, shl_, sh1_, shr_, tbn, tb0, tb1, les_t, les_f, pk_div, rem_, remv, and31, wu1, wuc, wui, wu2, ws1, wsc, ws2, wv1, n11_, n13_, n14_, n15_, n17_, n19_, n23_, n56_, n64_, fX6_pairsAlike_l12, fX6_pairsAlike_b59_12, s1]
        · simp (disch := omega) only [↓reduceIte, wlet, Option.bind_some, true_and, and_true, not_true_eq_false, not_false_eq_true, reduceCtorEq, n0_, n1_, n2_, n3_, n4_, n5_, n6_, n7_, n8_, n9_, n10_, n12_, n16_, n18_, n20_, n21_, n22_, n24_, n25_, n26_, n27_, n28_, n29_, n30_, n31_, n32_, n40_, n41_, n42_, n43_, n45_, n48_, n54_, n57_, n58_, n59_, n60_, n61_, n63_, n96_, n97_, n99_, n100_, n122_, n126_, n200_, n255_, n375_, n400_, n1000_, n2000_, n9999_, n5764801_, n1000000_, n3000_, m1, m2, le_t, le_f, lt_t, lt_f, eq_t, eq_f, no_lt, no_le, le_no, lt_no, eq_no, no_eq, add_no, wib_t, clamp, nI_add, pk_mul, pk_sub, nor_, nand_, ndif_, shl_, sh1_, shr_, tbn, tb0, tb1, les_t, les_f, pk_div, rem_, remv, and31, wu1, wuc, wui, wu2, ws1, wsc, ws2, wv1, n11_, n13_, n14_, n15_, n17_, n19_, n23_, n56_, n64_, fX11_same_l17, fX11_same_b60_17, fX11_same_b61_17, s3, z2, Nat.add_zero]
      · have z1 : 0 < (S.2.2.2 p).length := List.length_pos_iff.mpr h0
        have z2 : 0 < e7 (S.2.2.2 p) := Nat.pos_of_ne_zero (fun e => h0 (e7_0.mp e))
        by_cases hq : S.2.2.2 p = S.2.2.2 i
        · rw [hq] at s1 s2 s3 z1 z2 p1 p3 p4
          refine ⟨(nI (a + 1), nI (i + 1)), (nI (a + 1), nI (i + 1)), ?_, ?_, a + 1, rfl, rfl⟩
          · simp (disch := omega) only [↓reduceIte, wlet, Option.bind_some, true_and, and_true, not_true_eq_false, not_false_eq_true, reduceCtorEq, n0_, n1_, n2_, n3_, n4_, n5_, n6_, n7_, n8_, n9_, n10_, n12_, n16_, n18_, n20_, n21_, n22_, n24_, n25_, n26_, n27_, n28_, n29_, n30_, n31_, n32_, n40_, n41_, n42_, n43_, n45_, n48_, n54_, n57_, n58_, n59_, n60_, n61_, n63_, n96_, n97_, n99_, n100_, n122_, n126_, n200_, n255_, n375_, n400_, n1000_, n2000_, n9999_, n5764801_, n1000000_, n3000_, m1, m2, le_t, le_f, lt_t, lt_f, eq_t, eq_f, no_lt, no_le, le_no, lt_no, eq_no, no_eq, add_no, wib_t, clamp, nI_add, pk_mul, pk_sub, nor_, nand_, ndif_, shl_, sh1_, shr_, tbn, tb0, tb1, les_t, les_f, pk_div, rem_, remv, and31, wu1, wuc, wui, wu2, ws1, wsc, ws2, wv1, n11_, n13_, n14_, n15_, n17_, n19_, n23_, n56_, n64_, fX6_pairsAlike_l12, fX6_pairsAlike_b59_12, s1, s2, q1, q2]
          · simp (disch := omega) only [↓reduceIte, wlet, Option.bind_some, true_and, and_true, not_true_eq_false, not_false_eq_true, reduceCtorEq, n0_, n1_, n2_, n3_, n4_, n5_, n6_, n7_, n8_, n9_, n10_, n12_, n16_, n18_, n20_, n21_, n22_, n24_, n25_, n26_, n27_, n28_, n29_, n30_, n31_, n32_, n40_, n41_, n42_, n43_, n45_, n48_, n54_, n57_, n58_, n59_, n60_, n61_, n63_, n96_, n97_, n99_, n100_, n122_, n126_, n200_, n255_, n375_, n400_, n1000_, n2000_, n9999_, n5764801_, n1000000_, n3000_, m1, m2, le_t, le_f, lt_t, lt_f, eq_t, eq_f, no_lt, no_le, le_no, lt_no, eq_no, no_eq, add_no, wib_t, clamp, nI_add, pk_mul, pk_sub, nor_, nand_, ndif_, shl_, sh1_, shr_, tbn, tb0, tb1, les_t, les_f, pk_div, rem_, remv, and31, wu1, wuc, wui, wu2, ws1, wsc, ws2, wv1, n11_, n13_, n14_, n15_, n17_, n19_, n23_, n56_, n64_, fX11_same_l17, fX11_same_b60_17, fX11_same_b61_17, s3, q3]
        · have z3 : ¬ e7 (S.2.2.2 p) = e7 (S.2.2.2 i) := fun e => hq (e7_inj p2 u2 e)
          refine ⟨(nI a, nI (i + 1)), (nI a, nI (i + 1)), ?_, ?_, a, rfl, rfl⟩
          · by_cases z4 : (S.2.2.2 p).length = (S.2.2.2 i).length
            · have z5 : ¬ e8 (S.2.2.2 p) = e8 (S.2.2.2 i) := fun e => hq (alike_iff hW hV hp (by omega) z4 e)
              simp (disch := omega) only [↓reduceIte, wlet, Option.bind_some, true_and, and_true, not_true_eq_false, not_false_eq_true, reduceCtorEq, n0_, n1_, n2_, n3_, n4_, n5_, n6_, n7_, n8_, n9_, n10_, n12_, n16_, n18_, n20_, n21_, n22_, n24_, n25_, n26_, n27_, n28_, n29_, n30_, n31_, n32_, n40_, n41_, n42_, n43_, n45_, n48_, n54_, n57_, n58_, n59_, n60_, n61_, n63_, n96_, n97_, n99_, n100_, n122_, n126_, n200_, n255_, n375_, n400_, n1000_, n2000_, n9999_, n5764801_, n1000000_, n3000_, m1, m2, le_t, le_f, lt_t, lt_f, eq_t, eq_f, no_lt, no_le, le_no, lt_no, eq_no, no_eq, add_no, wib_t, clamp, nI_add, pk_mul, pk_sub, nor_, nand_, ndif_, shl_, sh1_, shr_, tbn, tb0, tb1, les_t, les_f, pk_div, rem_, remv, and31, wu1, wuc, wui, wu2, ws1, wsc, ws2, wv1, n11_, n13_, n14_, n15_, n17_, n19_, n23_, n56_, n64_, fX6_pairsAlike_l12, fX6_pairsAlike_b59_12, s1, s2, q1, q2]
            · simp (disch := omega) only [↓reduceIte, wlet, Option.bind_some, true_and, and_true, not_true_eq_false, not_false_eq_true, reduceCtorEq, n0_, n1_, n2_, n3_, n4_, n5_, n6_, n7_, n8_, n9_, n10_, n12_, n16_, n18_, n20_, n21_, n22_, n24_, n25_, n26_, n27_, n28_, n29_, n30_, n31_, n32_, n40_, n41_, n42_, n43_, n45_, n48_, n54_, n57_, n58_, n59_, n60_, n61_, n63_, n96_, n97_, n99_, n100_, n122_, n126_, n200_, n255_, n375_, n400_, n1000_, n2000_, n9999_, n5764801_, n1000000_, n3000_, m1, m2, le_t, le_f, lt_t, lt_f, eq_t, eq_f, no_lt, no_le, le_no, lt_no, eq_no, no_eq, add_no, wib_t, clamp, nI_add, pk_mul, pk_sub, nor_, nand_, ndif_, shl_, sh1_, shr_, tbn, tb0, tb1, les_t, les_f, pk_div, rem_, remv, and31, wu1, wuc, wui, wu2, ws1, wsc, ws2, wv1, n11_, n13_, n14_, n15_, n17_, n19_, n23_, n56_, n64_, fX6_pairsAlike_l12, fX6_pairsAlike_b59_12, s1, s2, q1, q2]
          · simp (disch := omega) only [↓reduceIte, wlet, Option.bind_some, true_and, and_true, not_true_eq_false, not_false_eq_true, reduceCtorEq, n0_, n1_, n2_, n3_, n4_, n5_, n6_, n7_, n8_, n9_, n10_, n12_, n16_, n18_, n20_, n21_, n22_, n24_, n25_, n26_, n27_, n28_, n29_, n30_, n31_, n32_, n40_, n41_, n42_, n43_, n45_, n48_, n54_, n57_, n58_, n59_, n60_, n61_, n63_, n96_, n97_, n99_, n100_, n122_, n126_, n200_, n255_, n375_, n400_, n1000_, n2000_, n9999_, n5764801_, n1000000_, n3000_, m1, m2, le_t, le_f, lt_t, lt_f, eq_t, eq_f, no_lt, no_le, le_no, lt_no, eq_no, no_eq, add_no, wib_t, clamp, nI_add, pk_mul, pk_sub, nor_, nand_, ndif_, shl_, sh1_, shr_, tbn, tb0, tb1, les_t, les_f, pk_div, rem_, remv, and31, wu1, wuc, wui, wu2, ws1, wsc, ws2, wv1, n11_, n13_, n14_, n15_, n17_, n19_, n23_, n56_, n64_, fX11_same_l17, fX11_same_b60_17, fX11_same_b61_17, s3, q3, Nat.add_zero])
    (by
      rintro _ _ ⟨a, rfl, rfl⟩
      refine ⟨nI a, nI a, ?_, ?_, a, rfl, rfl⟩
      · simp (disch := omega) only [↓reduceIte, wlet, Option.bind_some, true_and, and_true, not_true_eq_false, not_false_eq_true, reduceCtorEq, n0_, n1_, n2_, n3_, n4_, n5_, n6_, n7_, n8_, n9_, n10_, n12_, n16_, n18_, n20_, n21_, n22_, n24_, n25_, n26_, n27_, n28_, n29_, n30_, n31_, n32_, n40_, n41_, n42_, n43_, n45_, n48_, n54_, n57_, n58_, n59_, n60_, n61_, n63_, n96_, n97_, n99_, n100_, n122_, n126_, n200_, n255_, n375_, n400_, n1000_, n2000_, n9999_, n5764801_, n1000000_, n3000_, m1, m2, le_t, le_f, lt_t, lt_f, eq_t, eq_f, no_lt, no_le, le_no, lt_no, eq_no, no_eq, add_no, wib_t, clamp, nI_add, pk_mul, pk_sub, nor_, nand_, ndif_, shl_, sh1_, shr_, tbn, tb0, tb1, les_t, les_f, pk_div, rem_, remv, and31, wu1, wuc, wui, wu2, ws1, wsc, ws2, wv1, n11_, n13_, n14_, n15_, n17_, n19_, n23_, n56_, n64_, fX6_pairsAlike_l12]
      · simp (disch := omega) only [↓reduceIte, wlet, Option.bind_some, true_and, and_true, not_true_eq_false, not_false_eq_true, reduceCtorEq, n0_, n1_, n2_, n3_, n4_, n5_, n6_, n7_, n8_, n9_, n10_, n12_, n16_, n18_, n20_, n21_, n22_, n24_, n25_, n26_, n27_, n28_, n29_, n30_, n31_, n32_, n40_, n41_, n42_, n43_, n45_, n48_, n54_, n57_, n58_, n59_, n60_, n61_, n63_, n96_, n97_, n99_, n100_, n122_, n126_, n200_, n255_, n375_, n400_, n1000_, n2000_, n9999_, n5764801_, n1000000_, n3000_, m1, m2, le_t, le_f, lt_t, lt_f, eq_t, eq_f, no_lt, no_le, le_no, lt_no, eq_no, no_eq, add_no, wib_t, clamp, nI_add, pk_mul, pk_sub, nor_, nand_, ndif_, shl_, sh1_, shr_, tbn, tb0, tb1, les_t, les_f, pk_div, rem_, remv, and31, wu1, wuc, wui, wu2, ws1, wsc, ws2, wv1, n11_, n13_, n14_, n15_, n17_, n19_, n23_, n56_, n64_, fX11_same_l17])
    (N := 3000) (by omega) (v1 := (nI a, nI 0)) (v2 := (nI a, nI 0)) ⟨a, rfl, rfl⟩
  exact ⟨x, h1, h2⟩
theorem same_eq (hc : CX h L k S) (hm : MX g L S) : ∃ x, fX6_pairsAlike h k = some x ∧ wit (fun v : (Int32 × Int32) => fX11_same_l9 g v.1 v.2) 3000 (nI 0, nI 0) = some x := by
  obtain ⟨e1, e2, h1, h2, x, rfl, rfl⟩ := wit2 (b1 := fun v : (Int32 × Int32) => fX6_pairsAlike_l4 h k v.1 v.2) (b2 := fun v : (Int32 × Int32) => fX11_same_l9 g v.1 v.2) 18
    (fun i v1 v2 => ∃ a, v1 = (nI a, nI i) ∧ v2 = (nI a, nI i)) (fun e1 e2 => ∃ x, e1 = nI x ∧ e2 = nI x)
    (by
      rintro i _ _ hi ⟨a, rfl, rfl⟩
      obtain ⟨x, x1, x2⟩ := same_in hc hm hi a
      left
      refine ⟨(nI x, nI (i + 1)), (nI x, nI (i + 1)), ?_, ?_, x, rfl, rfl⟩
      · simp (disch := omega) only [↓reduceIte, wlet, Option.bind_some, true_and, and_true, not_true_eq_false, not_false_eq_true, reduceCtorEq, n0_, n1_, n2_, n3_, n4_, n5_, n6_, n7_, n8_, n9_, n10_, n12_, n16_, n18_, n20_, n21_, n22_, n24_, n25_, n26_, n27_, n28_, n29_, n30_, n31_, n32_, n40_, n41_, n42_, n43_, n45_, n48_, n54_, n57_, n58_, n59_, n60_, n61_, n63_, n96_, n97_, n99_, n100_, n122_, n126_, n200_, n255_, n375_, n400_, n1000_, n2000_, n9999_, n5764801_, n1000000_, n3000_, m1, m2, le_t, le_f, lt_t, lt_f, eq_t, eq_f, no_lt, no_le, le_no, lt_no, eq_no, no_eq, add_no, wib_t, clamp, nI_add, pk_mul, pk_sub, nor_, nand_, ndif_, shl_, sh1_, shr_, tbn, tb0, tb1, les_t, les_f, pk_div, rem_, remv, and31, wu1, wuc, wui, wu2, ws1, wsc, ws2, wv1, n11_, n13_, n14_, n15_, n17_, n19_, n23_, n56_, n64_, fX6_pairsAlike_l4, x1]
      · simp (disch := omega) only [↓reduceIte, wlet, Option.bind_some, true_and, and_true, not_true_eq_false, not_false_eq_true, reduceCtorEq, n0_, n1_, n2_, n3_, n4_, n5_, n6_, n7_, n8_, n9_, n10_, n12_, n16_, n18_, n20_, n21_, n22_, n24_, n25_, n26_, n27_, n28_, n29_, n30_, n31_, n32_, n40_, n41_, n42_, n43_, n45_, n48_, n54_, n57_, n58_, n59_, n60_, n61_, n63_, n96_, n97_, n99_, n100_, n122_, n126_, n200_, n255_, n375_, n400_, n1000_, n2000_, n9999_, n5764801_, n1000000_, n3000_, m1, m2, le_t, le_f, lt_t, lt_f, eq_t, eq_f, no_lt, no_le, le_no, lt_no, eq_no, no_eq, add_no, wib_t, clamp, nI_add, pk_mul, pk_sub, nor_, nand_, ndif_, shl_, sh1_, shr_, tbn, tb0, tb1, les_t, les_f, pk_div, rem_, remv, and31, wu1, wuc, wui, wu2, ws1, wsc, ws2, wv1, n11_, n13_, n14_, n15_, n17_, n19_, n23_, n56_, n64_, fX11_same_l9, x2])
    (by
      rintro _ _ ⟨a, rfl, rfl⟩
      refine ⟨nI a, nI a, ?_, ?_, a, rfl, rfl⟩
      · simp (disch := omega) only [↓reduceIte, wlet, Option.bind_some, true_and, and_true, not_true_eq_false, not_false_eq_true, reduceCtorEq, n0_, n1_, n2_, n3_, n4_, n5_, n6_, n7_, n8_, n9_, n10_, n12_, n16_, n18_, n20_, n21_, n22_, n24_, n25_, n26_, n27_, n28_, n29_, n30_, n31_, n32_, n40_, n41_, n42_, n43_, n45_, n48_, n54_, n57_, n58_, n59_, n60_, n61_, n63_, n96_, n97_, n99_, n100_, n122_, n126_, n200_, n255_, n375_, n400_, n1000_, n2000_, n9999_, n5764801_, n1000000_, n3000_, m1, m2, le_t, le_f, lt_t, lt_f, eq_t, eq_f, no_lt, no_le, le_no, lt_no, eq_no, no_eq, add_no, wib_t, clamp, nI_add, pk_mul, pk_sub, nor_, nand_, ndif_, shl_, sh1_, shr_, tbn, tb0, tb1, les_t, les_f, pk_div, rem_, remv, and31, wu1, wuc, wui, wu2, ws1, wsc, ws2, wv1, n11_, n13_, n14_, n15_, n17_, n19_, n23_, n56_, n64_, fX6_pairsAlike_l4]
      · simp (disch := omega) only [↓reduceIte, wlet, Option.bind_some, true_and, and_true, not_true_eq_false, not_false_eq_true, reduceCtorEq, n0_, n1_, n2_, n3_, n4_, n5_, n6_, n7_, n8_, n9_, n10_, n12_, n16_, n18_, n20_, n21_, n22_, n24_, n25_, n26_, n27_, n28_, n29_, n30_, n31_, n32_, n40_, n41_, n42_, n43_, n45_, n48_, n54_, n57_, n58_, n59_, n60_, n61_, n63_, n96_, n97_, n99_, n100_, n122_, n126_, n200_, n255_, n375_, n400_, n1000_, n2000_, n9999_, n5764801_, n1000000_, n3000_, m1, m2, le_t, le_f, lt_t, lt_f, eq_t, eq_f, no_lt, no_le, le_no, lt_no, eq_no, no_eq, add_no, wib_t, clamp, nI_add, pk_mul, pk_sub, nor_, nand_, ndif_, shl_, sh1_, shr_, tbn, tb0, tb1, les_t, les_f, pk_div, rem_, remv, and31, wu1, wuc, wui, wu2, ws1, wsc, ws2, wv1, n11_, n13_, n14_, n15_, n17_, n19_, n23_, n56_, n64_, fX11_same_l9])
    (N := 3000) (by omega) (v1 := (nI 0, nI 0)) (v2 := (nI 0, nI 0)) ⟨0, rfl, rfl⟩
  refine ⟨nI x, ?_, h2⟩
  simp (disch := omega) only [↓reduceIte, wlet, Option.bind_some, true_and, and_true, not_true_eq_false, not_false_eq_true, reduceCtorEq, n0_, n1_, n2_, n3_, n4_, n5_, n6_, n7_, n8_, n9_, n10_, n12_, n16_, n18_, n20_, n21_, n22_, n24_, n25_, n26_, n27_, n28_, n29_, n30_, n31_, n32_, n40_, n41_, n42_, n43_, n45_, n48_, n54_, n57_, n58_, n59_, n60_, n61_, n63_, n96_, n97_, n99_, n100_, n122_, n126_, n200_, n255_, n375_, n400_, n1000_, n2000_, n9999_, n5764801_, n1000000_, n3000_, m1, m2, le_t, le_f, lt_t, lt_f, eq_t, eq_f, no_lt, no_le, le_no, lt_no, eq_no, no_eq, add_no, wib_t, clamp, nI_add, pk_mul, pk_sub, nor_, nand_, ndif_, shl_, sh1_, shr_, tbn, tb0, tb1, les_t, les_f, pk_div, rem_, remv, and31, wu1, wuc, wui, wu2, ws1, wsc, ws2, wv1, n11_, n13_, n14_, n15_, n17_, n19_, n23_, n56_, n64_, fX6_pairsAlike, h1]
theorem deepest_eq (hc : CX h L 29 S) (hm : MX g L S) {i : Nat} (hi : i < gns L) : ∃ x, wit (fun v : (Int32 × Int32) => fX10_deepest_l17 h (nI i) v.1 v.2) 3000 (nI 0, nI 1) = some x ∧ wit (fun v : (Int32 × Int32) => fX11_deepest_l19 g (nI i) v.1 v.2) 3000 (nI 0, nI 1) = some x := by
  obtain ⟨hW, hC, hV, hS, hk⟩ := id hc
  have n1 := hW.1
  obtain ⟨l1, l2, -⟩ := hW.2.2.2.1 i hi
  have c1 := (hC.2.2.2.1 i hi).1
  have c2 := (hm.2.1.2.2.2.1 i hi).1
  obtain ⟨e1, e2, h1, h2, x, rfl, rfl⟩ := wit2 (b1 := fun v : (Int32 × Int32) => fX10_deepest_l17 h (nI i) v.1 v.2) (b2 := fun v : (Int32 × Int32) => fX11_deepest_l19 g (nI i) v.1 v.2) (gln L i - 1)
    (fun j v1 v2 => ∃ a, a < gln L i ∧ v1 = (nI a, nI (j + 1)) ∧ v2 = (nI a, nI (j + 1))) (fun e1 e2 => ∃ x, e1 = nI x ∧ e2 = nI x)
    (by
      rintro j _ _ hj ⟨a, ha, rfl, rfl⟩
      have s1 := (hS.2.2 (6 * i + (j + 1)) (by omega)).1
      have s2 := (hS.2.2 (6 * i + a) (by omega)).1
      have q1 := r_pile hm (p := 6 * i + (j + 1)) (by omega)
      have q2 := r_pile hm (p := 6 * i + a) (by omega)
      obtain ⟨u1, u2⟩ := pile_lt hW hV (p := 6 * i + (j + 1)) (by omega)
      obtain ⟨w1, w2⟩ := pile_lt hW hV (p := 6 * i + a) (by omega)
      have u3 := r_deepOf g u1 u2
      have w3 := r_deepOf g w1 w2
      rw [← Nat.add_assoc] at q1 q2
      left
      by_cases hq : (S.2.2.2 (6 * i + (j + 1))).length ≤ (S.2.2.2 (6 * i + a)).length
      · refine ⟨(nI a, nI (j + 1 + 1)), (nI a, nI (j + 1 + 1)), ?_, ?_, a, ha, rfl, rfl⟩
        · simp (disch := omega) only [↓reduceIte, wlet, Option.bind_some, true_and, and_true, not_true_eq_false, not_false_eq_true, reduceCtorEq, n0_, n1_, n2_, n3_, n4_, n5_, n6_, n7_, n8_, n9_, n10_, n12_, n16_, n18_, n20_, n21_, n22_, n24_, n25_, n26_, n27_, n28_, n29_, n30_, n31_, n32_, n40_, n41_, n42_, n43_, n45_, n48_, n54_, n57_, n58_, n59_, n60_, n61_, n63_, n96_, n97_, n99_, n100_, n122_, n126_, n200_, n255_, n375_, n400_, n1000_, n2000_, n9999_, n5764801_, n1000000_, n3000_, m1, m2, le_t, le_f, lt_t, lt_f, eq_t, eq_f, no_lt, no_le, le_no, lt_no, eq_no, no_eq, add_no, wib_t, clamp, nI_add, pk_mul, pk_sub, nor_, nand_, ndif_, shl_, sh1_, shr_, tbn, tb0, tb1, les_t, les_f, pk_div, rem_, remv, and31, wu1, wuc, wui, wu2, ws1, wsc, ws2, wv1, n11_, n13_, n14_, n15_, n17_, n19_, n23_, n56_, n64_, fX10_deepest_l17, fX10_deepest_b63_17, c1, s1, s2]
        · simp (disch := omega) only [↓reduceIte, wlet, Option.bind_some, true_and, and_true, not_true_eq_false, not_false_eq_true, reduceCtorEq, n0_, n1_, n2_, n3_, n4_, n5_, n6_, n7_, n8_, n9_, n10_, n12_, n16_, n18_, n20_, n21_, n22_, n24_, n25_, n26_, n27_, n28_, n29_, n30_, n31_, n32_, n40_, n41_, n42_, n43_, n45_, n48_, n54_, n57_, n58_, n59_, n60_, n61_, n63_, n96_, n97_, n99_, n100_, n122_, n126_, n200_, n255_, n375_, n400_, n1000_, n2000_, n9999_, n5764801_, n1000000_, n3000_, m1, m2, le_t, le_f, lt_t, lt_f, eq_t, eq_f, no_lt, no_le, le_no, lt_no, eq_no, no_eq, add_no, wib_t, clamp, nI_add, pk_mul, pk_sub, nor_, nand_, ndif_, shl_, sh1_, shr_, tbn, tb0, tb1, les_t, les_f, pk_div, rem_, remv, and31, wu1, wuc, wui, wu2, ws1, wsc, ws2, wv1, n11_, n13_, n14_, n15_, n17_, n19_, n23_, n56_, n64_, fX11_deepest_l19, fX11_deepest_b68_19, c2, q1, q2, u3, w3]
      · refine ⟨(nI (j + 1), nI (j + 1 + 1)), (nI (j + 1), nI (j + 1 + 1)), ?_, ?_, j + 1, by omega, rfl, rfl⟩
        · simp (disch := omega) only [↓reduceIte, wlet, Option.bind_some, true_and, and_true, not_true_eq_false, not_false_eq_true, reduceCtorEq, n0_, n1_, n2_, n3_, n4_, n5_, n6_, n7_, n8_, n9_, n10_, n12_, n16_, n18_, n20_, n21_, n22_, n24_, n25_, n26_, n27_, n28_, n29_, n30_, n31_, n32_, n40_, n41_, n42_, n43_, n45_, n48_, n54_, n57_, n58_, n59_, n60_, n61_, n63_, n96_, n97_, n99_, n100_, n122_, n126_, n200_, n255_, n375_, n400_, n1000_, n2000_, n9999_, n5764801_, n1000000_, n3000_, m1, m2, le_t, le_f, lt_t, lt_f, eq_t, eq_f, no_lt, no_le, le_no, lt_no, eq_no, no_eq, add_no, wib_t, clamp, nI_add, pk_mul, pk_sub, nor_, nand_, ndif_, shl_, sh1_, shr_, tbn, tb0, tb1, les_t, les_f, pk_div, rem_, remv, and31, wu1, wuc, wui, wu2, ws1, wsc, ws2, wv1, n11_, n13_, n14_, n15_, n17_, n19_, n23_, n56_, n64_, fX10_deepest_l17, fX10_deepest_b63_17, c1, s1, s2]
        · simp (disch := omega) only [↓reduceIte, wlet, Option.bind_some, true_and, and_true, not_true_eq_false, not_false_eq_true, reduceCtorEq, n0_, n1_, n2_, n3_, n4_, n5_, n6_, n7_, n8_, n9_, n10_, n12_, n16_, n18_, n20_, n21_, n22_, n24_, n25_, n26_, n27_, n28_, n29_, n30_, n31_, n32_, n40_, n41_, n42_, n43_, n45_, n48_, n54_, n57_, n58_, n59_, n60_, n61_, n63_, n96_, n97_, n99_, n100_, n122_, n126_, n200_, n255_, n375_, n400_, n1000_, n2000_, n9999_, n5764801_, n1000000_, n3000_, m1, m2, le_t, le_f, lt_t, lt_f, eq_t, eq_f, no_lt, no_le, le_no, lt_no, eq_no, no_eq, add_no, wib_t, clamp, nI_add, pk_mul, pk_sub, nor_, nand_, ndif_, shl_, sh1_, shr_, tbn, tb0, tb1, les_t, les_f, pk_div, rem_, remv, and31, wu1, wuc, wui, wu2, ws1, wsc, ws2, wv1, n11_, n13_, n14_, n15_, n17_, n19_, n23_, n56_, n64_, fX11_deepest_l19, fX11_deepest_b68_19, c2, q1, q2, u3, w3])
    (by
      rintro _ _ ⟨a, ha, rfl, rfl⟩
      refine ⟨nI a, nI a, ?_, ?_, a, rfl, rfl⟩
      · simp (disch := omega) only [↓reduceIte, wlet, Option.bind_some, true_and, and_true, not_true_eq_false, not_false_eq_true, reduceCtorEq, n0_, n1_, n2_, n3_, n4_, n5_, n6_, n7_, n8_, n9_, n10_, n12_, n16_, n18_, n20_, n21_, n22_, n24_, n25_, n26_, n27_, n28_, n29_, n30_, n31_, n32_, n40_, n41_, n42_, n43_, n45_, n48_, n54_, n57_, n58_, n59_, n60_, n61_, n63_, n96_, n97_, n99_, n100_, n122_, n126_, n200_, n255_, n375_, n400_, n1000_, n2000_, n9999_, n5764801_, n1000000_, n3000_, m1, m2, le_t, le_f, lt_t, lt_f, eq_t, eq_f, no_lt, no_le, le_no, lt_no, eq_no, no_eq, add_no, wib_t, clamp, nI_add, pk_mul, pk_sub, nor_, nand_, ndif_, shl_, sh1_, shr_, tbn, tb0, tb1, les_t, les_f, pk_div, rem_, remv, and31, wu1, wuc, wui, wu2, ws1, wsc, ws2, wv1, n11_, n13_, n14_, n15_, n17_, n19_, n23_, n56_, n64_, fX10_deepest_l17, c1]
      · simp (disch := omega) only [↓reduceIte, wlet, Option.bind_some, true_and, and_true, not_true_eq_false, not_false_eq_true, reduceCtorEq, n0_, n1_, n2_, n3_, n4_, n5_, n6_, n7_, n8_, n9_, n10_, n12_, n16_, n18_, n20_, n21_, n22_, n24_, n25_, n26_, n27_, n28_, n29_, n30_, n31_, n32_, n40_, n41_, n42_, n43_, n45_, n48_, n54_, n57_, n58_, n59_, n60_, n61_, n63_, n96_, n97_, n99_, n100_, n122_, n126_, n200_, n255_, n375_, n400_, n1000_, n2000_, n9999_, n5764801_, n1000000_, n3000_, m1, m2, le_t, le_f, lt_t, lt_f, eq_t, eq_f, no_lt, no_le, le_no, lt_no, eq_no, no_eq, add_no, wib_t, clamp, nI_add, pk_mul, pk_sub, nor_, nand_, ndif_, shl_, sh1_, shr_, tbn, tb0, tb1, les_t, les_f, pk_div, rem_, remv, and31, wu1, wuc, wui, wu2, ws1, wsc, ws2, wv1, n11_, n13_, n14_, n15_, n17_, n19_, n23_, n56_, n64_, fX11_deepest_l19, c2])
    (N := 3000) (by omega) (v1 := (nI 0, nI 1)) (v2 := (nI 0, nI 1)) ⟨0, by omega, rfl, rfl⟩
  exact ⟨_, h1, h2⟩
theorem bare_eq (hc : CX h L 29 S) (hm : MX g L S) {i : Nat} (hi : i < gns L) : ∃ x, wit (fun v : (Int32 × Int32) => fX10_bare_l17 h (nI i) v.1 v.2) 3000 (nI 0, nI 0) = some x ∧ wit (fun v : (Int32 × Int32) => fX11_bare_l19 g (nI i) v.1 v.2) 3000 (nI 0, nI 0) = some x := by
  obtain ⟨hW, hC, hV, hS, hk⟩ := id hc
  have n1 := hW.1
  obtain ⟨l1, l2, -⟩ := hW.2.2.2.1 i hi
  have c1 := (hC.2.2.2.1 i hi).1
  have c2 := (hm.2.1.2.2.2.1 i hi).1
  obtain ⟨e1, e2, h1, h2, x, rfl, rfl⟩ := wit2 (b1 := fun v : (Int32 × Int32) => fX10_bare_l17 h (nI i) v.1 v.2) (b2 := fun v : (Int32 × Int32) => fX11_bare_l19 g (nI i) v.1 v.2) (gln L i)
    (fun j v1 v2 => ∃ a, v1 = (nI a, nI j) ∧ v2 = (nI a, nI j)) (fun e1 e2 => ∃ x, e1 = nI x ∧ e2 = nI x)
    (by
      rintro j _ _ hj ⟨a, rfl, rfl⟩
      have s1 := (hS.2.2 (6 * i + j) (by omega)).1
      have q1 := r_pile hm (p := 6 * i + j) (by omega)
      obtain ⟨u1, u2⟩ := pile_lt hW hV (p := 6 * i + j) (by omega)
      have u3 := e7_lt9 u1 u2
      rw [← Nat.add_assoc] at q1
      left
      by_cases hq : S.2.2.2 (6 * i + j) = []
      · rw [hq] at s1 q1
        refine ⟨(nI (a ||| 2 ^ j), nI (j + 1)), (nI (a ||| 2 ^ j), nI (j + 1)), ?_, ?_, _, rfl, rfl⟩
        · simp (disch := omega) only [↓reduceIte, wlet, Option.bind_some, true_and, and_true, not_true_eq_false, not_false_eq_true, reduceCtorEq, n0_, n1_, n2_, n3_, n4_, n5_, n6_, n7_, n8_, n9_, n10_, n12_, n16_, n18_, n20_, n21_, n22_, n24_, n25_, n26_, n27_, n28_, n29_, n30_, n31_, n32_, n40_, n41_, n42_, n43_, n45_, n48_, n54_, n57_, n58_, n59_, n60_, n61_, n63_, n96_, n97_, n99_, n100_, n122_, n126_, n200_, n255_, n375_, n400_, n1000_, n2000_, n9999_, n5764801_, n1000000_, n3000_, m1, m2, le_t, le_f, lt_t, lt_f, eq_t, eq_f, no_lt, no_le, le_no, lt_no, eq_no, no_eq, add_no, wib_t, clamp, nI_add, pk_mul, pk_sub, nor_, nand_, ndif_, shl_, sh1_, shr_, tbn, tb0, tb1, les_t, les_f, pk_div, rem_, remv, and31, wu1, wuc, wui, wu2, ws1, wsc, ws2, wv1, n11_, n13_, n14_, n15_, n17_, n19_, n23_, n56_, n64_, fX10_bare_l17, fX10_bare_b53_17, c1, s1, List.length_nil]
        · simp (disch := omega) only [↓reduceIte, wlet, Option.bind_some, true_and, and_true, not_true_eq_false, not_false_eq_true, reduceCtorEq, n0_, n1_, n2_, n3_, n4_, n5_, n6_, n7_, n8_, n9_, n10_, n12_, n16_, n18_, n20_, n21_, n22_, n24_, n25_, n26_, n27_, n28_, n29_, n30_, n31_, n32_, n40_, n41_, n42_, n43_, n45_, n48_, n54_, n57_, n58_, n59_, n60_, n61_, n63_, n96_, n97_, n99_, n100_, n122_, n126_, n200_, n255_, n375_, n400_, n1000_, n2000_, n9999_, n5764801_, n1000000_, n3000_, m1, m2, le_t, le_f, lt_t, lt_f, eq_t, eq_f, no_lt, no_le, le_no, lt_no, eq_no, no_eq, add_no, wib_t, clamp, nI_add, pk_mul, pk_sub, nor_, nand_, ndif_, shl_, sh1_, shr_, tbn, tb0, tb1, les_t, les_f, pk_div, rem_, remv, and31, wu1, wuc, wui, wu2, ws1, wsc, ws2, wv1, n11_, n13_, n14_, n15_, n17_, n19_, n23_, n56_, n64_, fX11_bare_l19, fX11_bare_b54_19, c2, q1, e7]
      · have z1 : 0 < (S.2.2.2 (6 * i + j)).length := List.length_pos_iff.mpr hq
        have z2 : 0 < e7 (S.2.2.2 (6 * i + j)) := Nat.pos_of_ne_zero (fun e => hq (e7_0.mp e))
        refine ⟨(nI a, nI (j + 1)), (nI a, nI (j + 1)), ?_, ?_, _, rfl, rfl⟩
        · simp (disch := omega) only [↓reduceIte, wlet, Option.bind_some, true_and, and_true, not_true_eq_false, not_false_eq_true, reduceCtorEq, n0_, n1_, n2_, n3_, n4_, n5_, n6_, n7_, n8_, n9_, n10_, n12_, n16_, n18_, n20_, n21_, n22_, n24_, n25_, n26_, n27_, n28_, n29_, n30_, n31_, n32_, n40_, n41_, n42_, n43_, n45_, n48_, n54_, n57_, n58_, n59_, n60_, n61_, n63_, n96_, n97_, n99_, n100_, n122_, n126_, n200_, n255_, n375_, n400_, n1000_, n2000_, n9999_, n5764801_, n1000000_, n3000_, m1, m2, le_t, le_f, lt_t, lt_f, eq_t, eq_f, no_lt, no_le, le_no, lt_no, eq_no, no_eq, add_no, wib_t, clamp, nI_add, pk_mul, pk_sub, nor_, nand_, ndif_, shl_, sh1_, shr_, tbn, tb0, tb1, les_t, les_f, pk_div, rem_, remv, and31, wu1, wuc, wui, wu2, ws1, wsc, ws2, wv1, n11_, n13_, n14_, n15_, n17_, n19_, n23_, n56_, n64_, fX10_bare_l17, fX10_bare_b53_17, c1, s1]
        · simp (disch := omega) only [↓reduceIte, wlet, Option.bind_some, true_and, and_true, not_true_eq_false, not_false_eq_true, reduceCtorEq, n0_, n1_, n2_, n3_, n4_, n5_, n6_, n7_, n8_, n9_, n10_, n12_, n16_, n18_, n20_, n21_, n22_, n24_, n25_, n26_, n27_, n28_, n29_, n30_, n31_, n32_, n40_, n41_, n42_, n43_, n45_, n48_, n54_, n57_, n58_, n59_, n60_, n61_, n63_, n96_, n97_, n99_, n100_, n122_, n126_, n200_, n255_, n375_, n400_, n1000_, n2000_, n9999_, n5764801_, n1000000_, n3000_, m1, m2, le_t, le_f, lt_t, lt_f, eq_t, eq_f, no_lt, no_le, le_no, lt_no, eq_no, no_eq, add_no, wib_t, clamp, nI_add, pk_mul, pk_sub, nor_, nand_, ndif_, shl_, sh1_, shr_, tbn, tb0, tb1, les_t, les_f, pk_div, rem_, remv, and31, wu1, wuc, wui, wu2, ws1, wsc, ws2, wv1, n11_, n13_, n14_, n15_, n17_, n19_, n23_, n56_, n64_, fX11_bare_l19, fX11_bare_b54_19, c2, q1, Nat.or_zero])
    (by
      rintro _ _ ⟨a, rfl, rfl⟩
      refine ⟨nI a, nI a, ?_, ?_, a, rfl, rfl⟩
      · simp (disch := omega) only [↓reduceIte, wlet, Option.bind_some, true_and, and_true, not_true_eq_false, not_false_eq_true, reduceCtorEq, n0_, n1_, n2_, n3_, n4_, n5_, n6_, n7_, n8_, n9_, n10_, n12_, n16_, n18_, n20_, n21_, n22_, n24_, n25_, n26_, n27_, n28_, n29_, n30_, n31_, n32_, n40_, n41_, n42_, n43_, n45_, n48_, n54_, n57_, n58_, n59_, n60_, n61_, n63_, n96_, n97_, n99_, n100_, n122_, n126_, n200_, n255_, n375_, n400_, n1000_, n2000_, n9999_, n5764801_, n1000000_, n3000_, m1, m2, le_t, le_f, lt_t, lt_f, eq_t, eq_f, no_lt, no_le, le_no, lt_no, eq_no, no_eq, add_no, wib_t, clamp, nI_add, pk_mul, pk_sub, nor_, nand_, ndif_, shl_, sh1_, shr_, tbn, tb0, tb1, les_t, les_f, pk_div, rem_, remv, and31, wu1, wuc, wui, wu2, ws1, wsc, ws2, wv1, n11_, n13_, n14_, n15_, n17_, n19_, n23_, n56_, n64_, fX10_bare_l17, c1]
      · simp (disch := omega) only [↓reduceIte, wlet, Option.bind_some, true_and, and_true, not_true_eq_false, not_false_eq_true, reduceCtorEq, n0_, n1_, n2_, n3_, n4_, n5_, n6_, n7_, n8_, n9_, n10_, n12_, n16_, n18_, n20_, n21_, n22_, n24_, n25_, n26_, n27_, n28_, n29_, n30_, n31_, n32_, n40_, n41_, n42_, n43_, n45_, n48_, n54_, n57_, n58_, n59_, n60_, n61_, n63_, n96_, n97_, n99_, n100_, n122_, n126_, n200_, n255_, n375_, n400_, n1000_, n2000_, n9999_, n5764801_, n1000000_, n3000_, m1, m2, le_t, le_f, lt_t, lt_f, eq_t, eq_f, no_lt, no_le, le_no, lt_no, eq_no, no_eq, add_no, wib_t, clamp, nI_add, pk_mul, pk_sub, nor_, nand_, ndif_, shl_, sh1_, shr_, tbn, tb0, tb1, les_t, les_f, pk_div, rem_, remv, and31, wu1, wuc, wui, wu2, ws1, wsc, ws2, wv1, n11_, n13_, n14_, n15_, n17_, n19_, n23_, n56_, n64_, fX11_bare_l19, c2])
    (N := 3000) (by omega) (v1 := (nI 0, nI 0)) (v2 := (nI 0, nI 0)) ⟨0, rfl, rfl⟩
  exact ⟨_, h1, h2⟩
/-- which texts lie anywhere -/
theorem c_laid1 (hx : CX h L k S) {p : Nat} (hp : p < 18) (a : Nat) : wit (fun v : (Int32 × Int32) => fX6_textsLaid_l12 h k (nI p) v.1 v.2) 3000 (nI a, nI 0) = some (nI (a ||| lB (S.2.2.2 p))) := by
  obtain ⟨hW, hC, hV, hS, hk⟩ := id hx
  have n2 := hW.2.1
  have s1 := (hS.2.2 p hp).1
  obtain ⟨p1, p2⟩ := hV.2.2.1 p hp
  obtain ⟨e, he, eg⟩ := wit_for (b := fun v : (Int32 × Int32) => fX6_textsLaid_l12 h k (nI p) v.1 v.2) (fun _ (u : Unit) => u) (S.2.2.2 p).length
    (fun i _ v => ∃ l0 r, S.2.2.2 p = l0 ++ r ∧ r.length = i ∧ v = (nI (a ||| lB r), nI i)) (fun _ e => e = nI (a ||| lB (S.2.2.2 p)))
    (by
      rintro i _ v hi ⟨l0, r, hl, hr, rfl⟩
      obtain ⟨l1, u, hl2⟩ := last_split hl (by omega)
      have hu := p2 u (by rw [hl2]; simp)
      have a1 := c_layerAt hx hp hl2
      rw [hr] at a1
      refine ⟨(nI (a ||| lB (u :: r)), nI (i + 1)), ?_, l1, u :: r, hl2, by rw [List.length_cons, hr], rfl⟩
      rw [lB, Nat.or_comm (2 ^ u), ← Nat.or_assoc]
      simp (disch := omega) only [↓reduceIte, wlet, Option.bind_some, true_and, and_true, not_true_eq_false, not_false_eq_true, reduceCtorEq, n0_, n1_, n2_, n3_, n4_, n5_, n6_, n7_, n8_, n9_, n10_, n12_, n16_, n18_, n20_, n21_, n22_, n24_, n25_, n26_, n27_, n28_, n29_, n30_, n31_, n32_, n40_, n41_, n42_, n43_, n45_, n48_, n54_, n57_, n58_, n59_, n60_, n61_, n63_, n96_, n97_, n99_, n100_, n122_, n126_, n200_, n255_, n375_, n400_, n1000_, n2000_, n9999_, n5764801_, n1000000_, n3000_, m1, m2, le_t, le_f, lt_t, lt_f, eq_t, eq_f, no_lt, no_le, le_no, lt_no, eq_no, no_eq, add_no, wib_t, clamp, nI_add, pk_mul, pk_sub, nor_, nand_, ndif_, shl_, sh1_, shr_, tbn, tb0, tb1, les_t, les_f, pk_div, rem_, remv, and31, wu1, wuc, wui, wu2, ws1, wsc, ws2, wv1, n11_, n13_, n14_, n15_, n17_, n19_, n23_, n56_, n64_, fX6_textsLaid_l12, s1, a1])
    (by
      rintro _ v ⟨l0, r, hl, hr, rfl⟩
      have : l0 = [] := by
        have := congrArg List.length hl
        rw [List.length_append] at this
        exact List.length_eq_zero_iff.mp (by omega)
      rw [this, List.nil_append] at hl
      refine ⟨_, ?_, rfl⟩
      rw [← hl]
      simp (disch := omega) only [↓reduceIte, wlet, Option.bind_some, true_and, and_true, not_true_eq_false, not_false_eq_true, reduceCtorEq, n0_, n1_, n2_, n3_, n4_, n5_, n6_, n7_, n8_, n9_, n10_, n12_, n16_, n18_, n20_, n21_, n22_, n24_, n25_, n26_, n27_, n28_, n29_, n30_, n31_, n32_, n40_, n41_, n42_, n43_, n45_, n48_, n54_, n57_, n58_, n59_, n60_, n61_, n63_, n96_, n97_, n99_, n100_, n122_, n126_, n200_, n255_, n375_, n400_, n1000_, n2000_, n9999_, n5764801_, n1000000_, n3000_, m1, m2, le_t, le_f, lt_t, lt_f, eq_t, eq_f, no_lt, no_le, le_no, lt_no, eq_no, no_eq, add_no, wib_t, clamp, nI_add, pk_mul, pk_sub, nor_, nand_, ndif_, shl_, sh1_, shr_, tbn, tb0, tb1, les_t, les_f, pk_div, rem_, remv, and31, wu1, wuc, wui, wu2, ws1, wsc, ws2, wv1, n11_, n13_, n14_, n15_, n17_, n19_, n23_, n56_, n64_, fX6_textsLaid_l12, s1])
    (N := 3000) (by omega) (a0 := ()) (v0 := (nI a, nI 0)) ⟨S.2.2.2 p, [], by simp, rfl, by simp [lB]⟩
  rw [he, eg]
theorem c_laid (hx : CX h L k S) : fX6_textsLaid h k = some (nI (gOr (fun p => lB (S.2.2.2 p)) 18 0)) := by
  obtain ⟨e, he, eg⟩ := wit_for (b := fun v : (Int32 × Int32) => fX6_textsLaid_l4 h k v.1 v.2) (fun p a => a ||| lB (S.2.2.2 p)) 18
    (fun i a v => v = (nI a, nI i)) (fun a e => e = nI a)
    (by
      rintro i a v hi rfl
      have e1 := c_laid1 hx hi a
      refine ⟨_, ?_, rfl⟩
      simp (disch := omega) only [↓reduceIte, wlet, Option.bind_some, true_and, and_true, not_true_eq_false, not_false_eq_true, reduceCtorEq, n0_, n1_, n2_, n3_, n4_, n5_, n6_, n7_, n8_, n9_, n10_, n12_, n16_, n18_, n20_, n21_, n22_, n24_, n25_, n26_, n27_, n28_, n29_, n30_, n31_, n32_, n40_, n41_, n42_, n43_, n45_, n48_, n54_, n57_, n58_, n59_, n60_, n61_, n63_, n96_, n97_, n99_, n100_, n122_, n126_, n200_, n255_, n375_, n400_, n1000_, n2000_, n9999_, n5764801_, n1000000_, n3000_, m1, m2, le_t, le_f, lt_t, lt_f, eq_t, eq_f, no_lt, no_le, le_no, lt_no, eq_no, no_eq, add_no, wib_t, clamp, nI_add, pk_mul, pk_sub, nor_, nand_, ndif_, shl_, sh1_, shr_, tbn, tb0, tb1, les_t, les_f, pk_div, rem_, remv, and31, wu1, wuc, wui, wu2, ws1, wsc, ws2, wv1, n11_, n13_, n14_, n15_, n17_, n19_, n23_, n56_, n64_, fX6_textsLaid_l4, e1])
    (by
      rintro a v rfl
      refine ⟨_, ?_, rfl⟩
      simp (disch := omega) only [↓reduceIte, wlet, Option.bind_some, true_and, and_true, not_true_eq_false, not_false_eq_true, reduceCtorEq, n0_, n1_, n2_, n3_, n4_, n5_, n6_, n7_, n8_, n9_, n10_, n12_, n16_, n18_, n20_, n21_, n22_, n24_, n25_, n26_, n27_, n28_, n29_, n30_, n31_, n32_, n40_, n41_, n42_, n43_, n45_, n48_, n54_, n57_, n58_, n59_, n60_, n61_, n63_, n96_, n97_, n99_, n100_, n122_, n126_, n200_, n255_, n375_, n400_, n1000_, n2000_, n9999_, n5764801_, n1000000_, n3000_, m1, m2, le_t, le_f, lt_t, lt_f, eq_t, eq_f, no_lt, no_le, le_no, lt_no, eq_no, no_eq, add_no, wib_t, clamp, nI_add, pk_mul, pk_sub, nor_, nand_, ndif_, shl_, sh1_, shr_, tbn, tb0, tb1, les_t, les_f, pk_div, rem_, remv, and31, wu1, wuc, wui, wu2, ws1, wsc, ws2, wv1, n11_, n13_, n14_, n15_, n17_, n19_, n23_, n56_, n64_, fX6_textsLaid_l4])
    (N := 3000) (by omega) (a0 := 0) (v0 := (nI 0, nI 0)) rfl
  simp (disch := omega) only [↓reduceIte, wlet, Option.bind_some, true_and, and_true, not_true_eq_false, not_false_eq_true, reduceCtorEq, n0_, n1_, n2_, n3_, n4_, n5_, n6_, n7_, n8_, n9_, n10_, n12_, n16_, n18_, n20_, n21_, n22_, n24_, n25_, n26_, n27_, n28_, n29_, n30_, n31_, n32_, n40_, n41_, n42_, n43_, n45_, n48_, n54_, n57_, n58_, n59_, n60_, n61_, n63_, n96_, n97_, n99_, n100_, n122_, n126_, n200_, n255_, n375_, n400_, n1000_, n2000_, n9999_, n5764801_, n1000000_, n3000_, m1, m2, le_t, le_f, lt_t, lt_f, eq_t, eq_f, no_lt, no_le, le_no, lt_no, eq_no, no_eq, add_no, wib_t, clamp, nI_add, pk_mul, pk_sub, nor_, nand_, ndif_, shl_, sh1_, shr_, tbn, tb0, tb1, les_t, les_f, pk_div, rem_, remv, and31, wu1, wuc, wui, wu2, ws1, wsc, ws2, wv1, n11_, n13_, n14_, n15_, n17_, n19_, n23_, n56_, n64_, fX6_textsLaid, he, eg]
  rfl
def gShT (L : gLib) (S : gSh) (w : Nat) : Nat := gF (fun i a => gOr (fun j => tB (gRead L S i j w)) (gln L i) a) (gns L) 0
theorem gOr2_bit {x : Nat → Nat → Nat} {m : Nat → Nat} (a b : Nat) : ∀ n, (gF (fun i a => gOr (x i) (m i) a) n a).testBit b = true ↔ a.testBit b = true ∨ ∃ i j, i < n ∧ j < m i ∧ (x i j).testBit b = true
  | 0 => by
    constructor
    · exact fun q => Or.inl q
    · rintro (q | ⟨i, j, q, -⟩)
      · exact q
      · omega
  | n + 1 => by
    rw [gF, gOr_bit, gOr2_bit a b n]
    constructor
    · rintro ((q | ⟨i, j, q1, q2, q3⟩) | ⟨j, q1, q2⟩)
      · exact Or.inl q
      · exact Or.inr ⟨i, j, by omega, q2, q3⟩
      · exact Or.inr ⟨n, j, by omega, q1, q2⟩
    · rintro (q | ⟨i, j, q1, q2, q3⟩)
      · exact Or.inl (Or.inl q)
      · by_cases e : i = n
        · subst e
          exact Or.inr ⟨j, q2, q3⟩
        · exact Or.inl (Or.inr ⟨i, j, by omega, q2, q3⟩)
theorem c_shT (hx : CX h L k S) {w : Nat} (hw : w ≤ 9) : ∃ g, fX6_shownTexts h k (nI w) = some (nI (gShT L S w), g) ∧ fr sq h g := by
  have n1 := hx.1.1
  have n2 := hx.1.2.1
  obtain ⟨e, he, g, eg, fg⟩ := wit_for (b := fun v : (Int32 × Int32 × wSt) => fX6_shownTexts_l4 v.2.2 k (nI w) v.1 v.2.1) (fun i a => gOr (fun j => tB (gRead L S i j w)) (gln L i) a) (gns L)
    (fun i a v => ∃ g, v = (nI a, nI i, g) ∧ fr sq h g)
    (fun a e => ∃ g, e = (nI a, g) ∧ fr sq h g)
    (by
      rintro i a v hi ⟨g, rfl, fg⟩
      obtain ⟨l1, l2, -⟩ := hx.1.2.2.2.1 i hi
      obtain ⟨e, he, g2, eg, f2⟩ := wit_for (b := fun v : (Int32 × Int32 × wSt) => fX6_shownTexts_l18 v.2.2 k (nI w) (nI i) v.1 v.2.1) (fun j a => a ||| tB (gRead L S i j w)) (gln L i)
        (fun j a v => ∃ g, v = (nI a, nI j, g) ∧ fr sq h g)
        (fun a e => ∃ g, e = (nI a, g) ∧ fr sq h g)
        (by
          rintro j a v hj ⟨g, rfl, fg⟩
          have hx2 := CX_fr hx fg
          obtain ⟨g2, e2, f2⟩ := c_shown hx2 hi (j := j) (w := w) (by omega) hw
          have hlt : ∀ t, gRead L S i j w = some t → t < gnt L := fun t ht => gRead_lt hx.1 hx.2.2.1 hi (by omega) ht
          have c1 := (hx2.2.1.2.2.2.1 i hi).1
          refine ⟨_, ?_, g2, rfl, fr_tr fg f2⟩
          revert e2 hlt
          generalize gRead L S i j w = x
          intro e2 hlt
          rcases x with _ | t
          · simp (disch := omega) only [↓reduceIte, wlet, Option.bind_some, true_and, and_true, not_true_eq_false, not_false_eq_true, reduceCtorEq, n0_, n1_, n2_, n3_, n4_, n5_, n6_, n7_, n8_, n9_, n10_, n12_, n16_, n18_, n20_, n21_, n22_, n24_, n25_, n26_, n27_, n28_, n29_, n30_, n31_, n32_, n40_, n41_, n42_, n43_, n45_, n48_, n54_, n57_, n58_, n59_, n60_, n61_, n63_, n96_, n97_, n99_, n100_, n122_, n126_, n200_, n255_, n375_, n400_, n1000_, n2000_, n9999_, n5764801_, n1000000_, n3000_, m1, m2, le_t, le_f, lt_t, lt_f, eq_t, eq_f, no_lt, no_le, le_no, lt_no, eq_no, no_eq, add_no, wib_t, clamp, nI_add, pk_mul, pk_sub, nor_, nand_, ndif_, shl_, sh1_, shr_, tbn, tb0, tb1, les_t, les_f, pk_div, rem_, remv, and31, wu1, wuc, wui, wu2, ws1, wsc, ws2, wv1, n11_, n13_, n14_, n15_, n17_, n19_, n23_, n56_, n64_, fX6_shownTexts_l18, fX6_shownTexts_b57_18, c1, e2, rI, tB]
          · have ht := hlt t rfl
            simp (disch := omega) only [↓reduceIte, wlet, Option.bind_some, true_and, and_true, not_true_eq_false, not_false_eq_true, reduceCtorEq, n0_, n1_, n2_, n3_, n4_, n5_, n6_, n7_, n8_, n9_, n10_, n12_, n16_, n18_, n20_, n21_, n22_, n24_, n25_, n26_, n27_, n28_, n29_, n30_, n31_, n32_, n40_, n41_, n42_, n43_, n45_, n48_, n54_, n57_, n58_, n59_, n60_, n61_, n63_, n96_, n97_, n99_, n100_, n122_, n126_, n200_, n255_, n375_, n400_, n1000_, n2000_, n9999_, n5764801_, n1000000_, n3000_, m1, m2, le_t, le_f, lt_t, lt_f, eq_t, eq_f, no_lt, no_le, le_no, lt_no, eq_no, no_eq, add_no, wib_t, clamp, nI_add, pk_mul, pk_sub, nor_, nand_, ndif_, shl_, sh1_, shr_, tbn, tb0, tb1, les_t, les_f, pk_div, rem_, remv, and31, wu1, wuc, wui, wu2, ws1, wsc, ws2, wv1, n11_, n13_, n14_, n15_, n17_, n19_, n23_, n56_, n64_, fX6_shownTexts_l18, fX6_shownTexts_b57_18, c1, e2, rI, tB])
        (by
          rintro a v ⟨g, rfl, fg⟩
          have c1 := ((CX_fr hx fg).2.1.2.2.2.1 i hi).1
          refine ⟨_, ?_, g, rfl, fg⟩
          simp (disch := omega) only [↓reduceIte, wlet, Option.bind_some, true_and, and_true, not_true_eq_false, not_false_eq_true, reduceCtorEq, n0_, n1_, n2_, n3_, n4_, n5_, n6_, n7_, n8_, n9_, n10_, n12_, n16_, n18_, n20_, n21_, n22_, n24_, n25_, n26_, n27_, n28_, n29_, n30_, n31_, n32_, n40_, n41_, n42_, n43_, n45_, n48_, n54_, n57_, n58_, n59_, n60_, n61_, n63_, n96_, n97_, n99_, n100_, n122_, n126_, n200_, n255_, n375_, n400_, n1000_, n2000_, n9999_, n5764801_, n1000000_, n3000_, m1, m2, le_t, le_f, lt_t, lt_f, eq_t, eq_f, no_lt, no_le, le_no, lt_no, eq_no, no_eq, add_no, wib_t, clamp, nI_add, pk_mul, pk_sub, nor_, nand_, ndif_, shl_, sh1_, shr_, tbn, tb0, tb1, les_t, les_f, pk_div, rem_, remv, and31, wu1, wuc, wui, wu2, ws1, wsc, ws2, wv1, n11_, n13_, n14_, n15_, n17_, n19_, n23_, n56_, n64_, fX6_shownTexts_l18, c1])
        (N := 3000) (by omega) (a0 := a) (v0 := (nI a, nI 0, g)) ⟨g, rfl, fg⟩
      have c1 := (CX_fr hx fg).2.1.1
      refine ⟨_, ?_, g2, rfl, f2⟩
      simp (disch := omega) only [↓reduceIte, wlet, Option.bind_some, true_and, and_true, not_true_eq_false, not_false_eq_true, reduceCtorEq, n0_, n1_, n2_, n3_, n4_, n5_, n6_, n7_, n8_, n9_, n10_, n12_, n16_, n18_, n20_, n21_, n22_, n24_, n25_, n26_, n27_, n28_, n29_, n30_, n31_, n32_, n40_, n41_, n42_, n43_, n45_, n48_, n54_, n57_, n58_, n59_, n60_, n61_, n63_, n96_, n97_, n99_, n100_, n122_, n126_, n200_, n255_, n375_, n400_, n1000_, n2000_, n9999_, n5764801_, n1000000_, n3000_, m1, m2, le_t, le_f, lt_t, lt_f, eq_t, eq_f, no_lt, no_le, le_no, lt_no, eq_no, no_eq, add_no, wib_t, clamp, nI_add, pk_mul, pk_sub, nor_, nand_, ndif_, shl_, sh1_, shr_, tbn, tb0, tb1, les_t, les_f, pk_div, rem_, remv, and31, wu1, wuc, wui, wu2, ws1, wsc, ws2, wv1, n11_, n13_, n14_, n15_, n17_, n19_, n23_, n56_, n64_, fX6_shownTexts_l4, c1, he, eg]
      rfl)
    (by
      rintro a v ⟨g, rfl, fg⟩
      have c1 := (CX_fr hx fg).2.1.1
      refine ⟨_, ?_, g, rfl, fg⟩
      simp (disch := omega) only [↓reduceIte, wlet, Option.bind_some, true_and, and_true, not_true_eq_false, not_false_eq_true, reduceCtorEq, n0_, n1_, n2_, n3_, n4_, n5_, n6_, n7_, n8_, n9_, n10_, n12_, n16_, n18_, n20_, n21_, n22_, n24_, n25_, n26_, n27_, n28_, n29_, n30_, n31_, n32_, n40_, n41_, n42_, n43_, n45_, n48_, n54_, n57_, n58_, n59_, n60_, n61_, n63_, n96_, n97_, n99_, n100_, n122_, n126_, n200_, n255_, n375_, n400_, n1000_, n2000_, n9999_, n5764801_, n1000000_, n3000_, m1, m2, le_t, le_f, lt_t, lt_f, eq_t, eq_f, no_lt, no_le, le_no, lt_no, eq_no, no_eq, add_no, wib_t, clamp, nI_add, pk_mul, pk_sub, nor_, nand_, ndif_, shl_, sh1_, shr_, tbn, tb0, tb1, les_t, les_f, pk_div, rem_, remv, and31, wu1, wuc, wui, wu2, ws1, wsc, ws2, wv1, n11_, n13_, n14_, n15_, n17_, n19_, n23_, n56_, n64_, fX6_shownTexts_l4, c1])
    (N := 3000) (by omega) (a0 := 0) (v0 := (nI 0, nI 0, h)) ⟨h, rfl, fr_rf⟩
  refine ⟨g, ?_, fg⟩
  simp (disch := omega) only [↓reduceIte, wlet, Option.bind_some, true_and, and_true, not_true_eq_false, not_false_eq_true, reduceCtorEq, n0_, n1_, n2_, n3_, n4_, n5_, n6_, n7_, n8_, n9_, n10_, n12_, n16_, n18_, n20_, n21_, n22_, n24_, n25_, n26_, n27_, n28_, n29_, n30_, n31_, n32_, n40_, n41_, n42_, n43_, n45_, n48_, n54_, n57_, n58_, n59_, n60_, n61_, n63_, n96_, n97_, n99_, n100_, n122_, n126_, n200_, n255_, n375_, n400_, n1000_, n2000_, n9999_, n5764801_, n1000000_, n3000_, m1, m2, le_t, le_f, lt_t, lt_f, eq_t, eq_f, no_lt, no_le, le_no, lt_no, eq_no, no_eq, add_no, wib_t, clamp, nI_add, pk_mul, pk_sub, nor_, nand_, ndif_, shl_, sh1_, shr_, tbn, tb0, tb1, les_t, les_f, pk_div, rem_, remv, and31, wu1, wuc, wui, wu2, ws1, wsc, ws2, wv1, n11_, n13_, n14_, n15_, n17_, n19_, n23_, n56_, n64_, fX6_shownTexts, he, eg]
  rfl
theorem gShT_bit (w b : Nat) : (gShT L S w).testBit b = true ↔ ∃ i j, i < gns L ∧ j < gln L i ∧ gRead L S i j w = some b := by
  unfold gShT
  rw [gOr2_bit, Nat.zero_testBit]
  simp only [tB_bit, Bool.false_eq_true, false_or]
/-- what is hidden -/
theorem c_lost (hx : CX h L 29 S) : ∃ x g, fX10_lost h = some (nI x, g) ∧ fr sq h g ∧ ∀ b, x.testBit b = true ↔ (∃ p, p < 18 ∧ b ∈ S.2.2.2 p) ∧ ¬ ∃ w i j, w ≤ 9 ∧ i < gns L ∧ j < gln L i ∧ gRead L S i j w = some b := by
  have n2 := hx.1.2.1
  have hl := c_laid hx
  have hlt : ∀ (x : Nat), (∀ b, x.testBit b = true → (∃ p, p < 18 ∧ b ∈ S.2.2.2 p)) → x < 64 := by
    intro x hb
    have := lt_pow_bits (x := x) (m := 6) (fun b hb2 => by
      cases hq : x.testBit b
      · rfl
      · obtain ⟨p, hp, hm⟩ := hb b hq
        have := (hx.2.2.1.2.2.1 p hp).2 b hm
        omega)
    omega
  obtain ⟨e, he, x, g, rfl, fg, hb⟩ := wit_ind (b := fun v : (Int32 × Int32 × wSt) => fX10_lost_l10 v.2.2 v.1 v.2.1)
    (fun v => ∃ x w g, v = (nI x, nI w, g) ∧ w ≤ 10 ∧ fr sq h g ∧ ∀ b, x.testBit b = true ↔ (∃ p, p < 18 ∧ b ∈ S.2.2.2 p) ∧ ¬ ∃ v i j, v < w ∧ i < gns L ∧ j < gln L i ∧ gRead L S i j v = some b)
    (fun e => ∃ x g, e = (nI x, g) ∧ fr sq h g ∧ ∀ b, x.testBit b = true ↔ (∃ p, p < 18 ∧ b ∈ S.2.2.2 p) ∧ ¬ ∃ w i j, w ≤ 9 ∧ i < gns L ∧ j < gln L i ∧ gRead L S i j w = some b)
    (fun v => 10 - v.2.1.toNatClampNeg)
    (by
      rintro v ⟨x, w, g, rfl, hw, fg, hb⟩
      by_cases h1 : w = 10
      · right
        refine ⟨(nI x, g), ?_, x, g, rfl, fg, ?_⟩
        · simp (disch := omega) only [↓reduceIte, wlet, Option.bind_some, true_and, and_true, not_true_eq_false, not_false_eq_true, reduceCtorEq, n0_, n1_, n2_, n3_, n4_, n5_, n6_, n7_, n8_, n9_, n10_, n12_, n16_, n18_, n20_, n21_, n22_, n24_, n25_, n26_, n27_, n28_, n29_, n30_, n31_, n32_, n40_, n41_, n42_, n43_, n45_, n48_, n54_, n57_, n58_, n59_, n60_, n61_, n63_, n96_, n97_, n99_, n100_, n122_, n126_, n200_, n255_, n375_, n400_, n1000_, n2000_, n9999_, n5764801_, n1000000_, n3000_, m1, m2, le_t, le_f, lt_t, lt_f, eq_t, eq_f, no_lt, no_le, le_no, lt_no, eq_no, no_eq, add_no, wib_t, clamp, nI_add, pk_mul, pk_sub, nor_, nand_, ndif_, shl_, sh1_, shr_, tbn, tb0, tb1, les_t, les_f, pk_div, rem_, remv, and31, wu1, wuc, wui, wu2, ws1, wsc, ws2, wv1, n11_, n13_, n14_, n15_, n17_, n19_, n23_, n56_, n64_, fX10_lost_l10, h1]
        · intro b
          rw [hb]
          constructor
          · rintro ⟨q1, q2⟩
            exact ⟨q1, fun ⟨v, i, j, a1, a2⟩ => q2 ⟨v, i, j, by omega, a2⟩⟩
          · rintro ⟨q1, q2⟩
            exact ⟨q1, fun ⟨v, i, j, a1, a2⟩ => q2 ⟨v, i, j, by omega, a2⟩⟩
      · have hx64 := hlt x (fun b q => ((hb b).mp q).1)
        by_cases h2 : x = 0
        · right
          refine ⟨(nI x, g), ?_, x, g, rfl, fg, ?_⟩
          · simp (disch := omega) only [↓reduceIte, wlet, Option.bind_some, true_and, and_true, not_true_eq_false, not_false_eq_true, reduceCtorEq, n0_, n1_, n2_, n3_, n4_, n5_, n6_, n7_, n8_, n9_, n10_, n12_, n16_, n18_, n20_, n21_, n22_, n24_, n25_, n26_, n27_, n28_, n29_, n30_, n31_, n32_, n40_, n41_, n42_, n43_, n45_, n48_, n54_, n57_, n58_, n59_, n60_, n61_, n63_, n96_, n97_, n99_, n100_, n122_, n126_, n200_, n255_, n375_, n400_, n1000_, n2000_, n9999_, n5764801_, n1000000_, n3000_, m1, m2, le_t, le_f, lt_t, lt_f, eq_t, eq_f, no_lt, no_le, le_no, lt_no, eq_no, no_eq, add_no, wib_t, clamp, nI_add, pk_mul, pk_sub, nor_, nand_, ndif_, shl_, sh1_, shr_, tbn, tb0, tb1, les_t, les_f, pk_div, rem_, remv, and31, wu1, wuc, wui, wu2, ws1, wsc, ws2, wv1, n11_, n13_, n14_, n15_, n17_, n19_, n23_, n56_, n64_, fX10_lost_l10, h2]
          · intro b
            constructor
            · intro q
              rw [h2, Nat.zero_testBit] at q
              cases q
            · rintro ⟨q1, q2⟩
              rw [hb]
              exact ⟨q1, fun ⟨v, i, j, a1, a2⟩ => q2 ⟨v, i, j, by omega, a2⟩⟩
        · left
          obtain ⟨g2, e2, f2⟩ := c_shT (CX_fr hx fg) (w := w) (by omega)
          refine ⟨(nI (bdf x (gShT L S w)), nI (w + 1), g2), ?_, ⟨_, _, g2, rfl, by omega, fr_tr fg f2, ?_⟩, ?_⟩
          · simp (disch := omega) only [↓reduceIte, wlet, Option.bind_some, true_and, and_true, not_true_eq_false, not_false_eq_true, reduceCtorEq, n0_, n1_, n2_, n3_, n4_, n5_, n6_, n7_, n8_, n9_, n10_, n12_, n16_, n18_, n20_, n21_, n22_, n24_, n25_, n26_, n27_, n28_, n29_, n30_, n31_, n32_, n40_, n41_, n42_, n43_, n45_, n48_, n54_, n57_, n58_, n59_, n60_, n61_, n63_, n96_, n97_, n99_, n100_, n122_, n126_, n200_, n255_, n375_, n400_, n1000_, n2000_, n9999_, n5764801_, n1000000_, n3000_, m1, m2, le_t, le_f, lt_t, lt_f, eq_t, eq_f, no_lt, no_le, le_no, lt_no, eq_no, no_eq, add_no, wib_t, clamp, nI_add, pk_mul, pk_sub, nor_, nand_, ndif_, shl_, sh1_, shr_, tbn, tb0, tb1, les_t, les_f, pk_div, rem_, remv, and31, wu1, wuc, wui, wu2, ws1, wsc, ws2, wv1, n11_, n13_, n14_, n15_, n17_, n19_, n23_, n56_, n64_, fX10_lost_l10, e2]
          · intro b
            rw [bdf_bit, Bool.and_eq_true, hb]
            have hs := gShT_bit (L := L) (S := S) w b
            constructor
            · rintro ⟨⟨q1, q2⟩, q3⟩
              refine ⟨q1, ?_⟩
              rintro ⟨v, i, j, a1, a2, a3, a4⟩
              by_cases e : v = w
              · rw [e] at a4
                rw [hs.mpr ⟨i, j, a2, a3, a4⟩] at q3
                cases q3
              · exact q2 ⟨v, i, j, by omega, a2, a3, a4⟩
            · rintro ⟨q1, q2⟩
              refine ⟨⟨q1, fun ⟨v, i, j, a1, a2⟩ => q2 ⟨v, i, j, by omega, a2⟩⟩, ?_⟩
              cases hq : (gShT L S w).testBit b
              · rfl
              · obtain ⟨i, j, a2, a3, a4⟩ := hs.mp hq
                exact absurd ⟨w, i, j, by omega, a2, a3, a4⟩ q2
          · show 10 - (nI (w + 1)).toNatClampNeg < 10 - (nI w).toNatClampNeg
            rw [clamp (by omega), clamp (by omega)]
            omega)
    3000 (nI (gOr (fun p => lB (S.2.2.2 p)) 18 0), nI 0, h) ⟨_, 0, h, rfl, by omega, fr_rf, fun b => by
      rw [gOr_bit, Nat.zero_testBit]
      simp only [lB_bit, Bool.false_eq_true, false_or, Nat.not_lt_zero, false_and, exists_false, not_false_eq_true, and_true]⟩ (by
      show 10 - (nI 0).toNatClampNeg < 3000
      omega)
  refine ⟨x, g, ?_, fg, hb⟩
  simp (disch := omega) only [↓reduceIte, wlet, Option.bind_some, true_and, and_true, not_true_eq_false, not_false_eq_true, reduceCtorEq, n0_, n1_, n2_, n3_, n4_, n5_, n6_, n7_, n8_, n9_, n10_, n12_, n16_, n18_, n20_, n21_, n22_, n24_, n25_, n26_, n27_, n28_, n29_, n30_, n31_, n32_, n40_, n41_, n42_, n43_, n45_, n48_, n54_, n57_, n58_, n59_, n60_, n61_, n63_, n96_, n97_, n99_, n100_, n122_, n126_, n200_, n255_, n375_, n400_, n1000_, n2000_, n9999_, n5764801_, n1000000_, n3000_, m1, m2, le_t, le_f, lt_t, lt_f, eq_t, eq_f, no_lt, no_le, le_no, lt_no, eq_no, no_eq, add_no, wib_t, clamp, nI_add, pk_mul, pk_sub, nor_, nand_, ndif_, shl_, sh1_, shr_, tbn, tb0, tb1, les_t, les_f, pk_div, rem_, remv, and31, wu1, wuc, wui, wu2, ws1, wsc, ws2, wv1, n11_, n13_, n14_, n15_, n17_, n19_, n23_, n56_, n64_, fX10_lost, hl, he]
theorem r_lost1 (h : wSt) {v2 v3 v4 : Int32} : ∀ (l : List Nat) (a : Nat) (N : Nat), l.length < N → (l.length ≤ 9 ∧ ∀ u ∈ l, u < 6) → wit (fun v : (Int32 × Int32) => fX11_lost_l52 h v2 v3 v4 v.1 v.2) N (nI a, nI (e7 l)) = some (nI (a ||| lB l)) := by
  intro l
  induction l with
  | nil =>
    intro a N hN hl
    obtain ⟨N, rfl⟩ : ∃ m, N = m + 1 := ⟨N - 1, by omega⟩
    have : fX11_lost_l52 h v2 v3 v4 (nI a) (nI (e7 [])) = some (.inr (nI a)) := by simp (disch := omega) only [↓reduceIte, wlet, Option.bind_some, true_and, and_true, not_true_eq_false, not_false_eq_true, reduceCtorEq, n0_, n1_, n2_, n3_, n4_, n5_, n6_, n7_, n8_, n9_, n10_, n12_, n16_, n18_, n20_, n21_, n22_, n24_, n25_, n26_, n27_, n28_, n29_, n30_, n31_, n32_, n40_, n41_, n42_, n43_, n45_, n48_, n54_, n57_, n58_, n59_, n60_, n61_, n63_, n96_, n97_, n99_, n100_, n122_, n126_, n200_, n255_, n375_, n400_, n1000_, n2000_, n9999_, n5764801_, n1000000_, n3000_, m1, m2, le_t, le_f, lt_t, lt_f, eq_t, eq_f, no_lt, no_le, le_no, lt_no, eq_no, no_eq, add_no, wib_t, clamp, nI_add, pk_mul, pk_sub, nor_, nand_, ndif_, shl_, sh1_, shr_, tbn, tb0, tb1, les_t, les_f, pk_div, rem_, remv, and31, wu1, wuc, wui, wu2, ws1, wsc, ws2, wv1, n11_, n13_, n14_, n15_, n17_, n19_, n23_, n56_, n64_, fX11_lost_l52, e7]
    rw [wit, this, lB, Nat.or_zero]
  | cons u l ih =>
    intro a N hN hl
    rw [List.length_cons] at hN
    obtain ⟨N, rfl⟩ : ∃ m, N = m + 1 := ⟨N - 1, by omega⟩
    have hu := hl.2 u (by simp)
    obtain ⟨q1, q2, q3, q5⟩ := e7_step (l := l) hu
    have q4 := e7_lt9 hl.1 hl.2
    have hl1 := hl.1
    rw [List.length_cons] at hl1
    have hl2 : l.length ≤ 9 ∧ ∀ u ∈ l, u < 6 := ⟨by omega, fun v hv => hl.2 v (List.mem_cons_of_mem _ hv)⟩
    have : fX11_lost_l52 h v2 v3 v4 (nI a) (nI (e7 (u :: l))) = some (.inl (nI (a ||| 2 ^ u), nI (e7 l))) := by simp (disch := omega) only [↓reduceIte, wlet, Option.bind_some, true_and, and_true, not_true_eq_false, not_false_eq_true, reduceCtorEq, n0_, n1_, n2_, n3_, n4_, n5_, n6_, n7_, n8_, n9_, n10_, n12_, n16_, n18_, n20_, n21_, n22_, n24_, n25_, n26_, n27_, n28_, n29_, n30_, n31_, n32_, n40_, n41_, n42_, n43_, n45_, n48_, n54_, n57_, n58_, n59_, n60_, n61_, n63_, n96_, n97_, n99_, n100_, n122_, n126_, n200_, n255_, n375_, n400_, n1000_, n2000_, n9999_, n5764801_, n1000000_, n3000_, m1, m2, le_t, le_f, lt_t, lt_f, eq_t, eq_f, no_lt, no_le, le_no, lt_no, eq_no, no_eq, add_no, wib_t, clamp, nI_add, pk_mul, pk_sub, nor_, nand_, ndif_, shl_, sh1_, shr_, tbn, tb0, tb1, les_t, les_f, pk_div, rem_, remv, and31, wu1, wuc, wui, wu2, ws1, wsc, ws2, wv1, n11_, n13_, n14_, n15_, n17_, n19_, n23_, n56_, n64_, fX11_lost_l52, q2, q5]
    rw [wit, this, lB, ← Nat.or_assoc]
    exact ih _ N (by omega) hl2
theorem r_lost (hx : MX h L S) : ∃ (x : Nat × Nat) (g : wSt), wit (fun v : (Int32 × Int32 × Int32 × wSt) => fX11_lost_l11 v.2.2.2 v.1 v.2.1 v.2.2.1) 3000 (nI 0, nI 0, nI 0, h) = some (nI x.1, nI x.2, g) ∧ fr sr h g ∧ (∀ b, x.1.testBit b = true ↔ ∃ i j, i < gns L ∧ j < gln L i ∧ b ∈ S.2.2.2 (6 * i + j)) ∧ ∀ b, x.2.testBit b = true ↔ ∃ w i j, w ≤ 9 ∧ i < gns L ∧ j < gln L i ∧ gRead L S i j w = some b := by
  have n1 := hx.1.1
  have n2 := hx.1.2.1
  obtain ⟨e, he, g, eg, fg⟩ := wit_for (b := fun v : (Int32 × Int32 × Int32 × wSt) => fX11_lost_l11 v.2.2.2 v.1 v.2.1 v.2.2.1)
    (fun i (a : Nat × Nat) => (gOr (fun j => lB (S.2.2.2 (6 * i + j))) (gln L i) a.1, gF (fun j a => gOr (fun w => tB (gRead L S i j w)) 10 a) (gln L i) a.2)) (gns L)
    (fun i a v => ∃ g, v = (nI a.1, nI a.2, nI i, g) ∧ fr sr h g)
    (fun a e => ∃ g, e = (nI a.1, nI a.2, g) ∧ fr sr h g)
    (by
      rintro i ⟨a, c⟩ v hi ⟨g, rfl, fg⟩
      obtain ⟨l1, l2, -⟩ := hx.1.2.2.2.1 i hi
      have key : ∀ n (a : Nat × Nat), gF (fun j (a : Nat × Nat) => (a.1 ||| lB (S.2.2.2 (6 * i + j)), gOr (fun w => tB (gRead L S i j w)) 10 a.2)) n a = (gOr (fun j => lB (S.2.2.2 (6 * i + j))) n a.1, gF (fun j a => gOr (fun w => tB (gRead L S i j w)) 10 a) n a.2) := by
        intro n a
        induction n with
        | zero => rfl
        | succ n ih => rw [gF, ih]; rfl
      obtain ⟨e, he, g2, eg, f2⟩ := wit_for (b := fun v : (Int32 × Int32 × Int32 × wSt) => fX11_lost_l24 v.2.2.2 (nI i) v.1 v.2.1 v.2.2.1)
        (fun j (a : Nat × Nat) => (a.1 ||| lB (S.2.2.2 (6 * i + j)), gOr (fun w => tB (gRead L S i j w)) 10 a.2)) (gln L i)
        (fun j a v => ∃ g, v = (nI a.1, nI a.2, nI j, g) ∧ fr sr h g)
        (fun a e => ∃ g, e = (nI a.1, nI a.2, g) ∧ fr sr h g)
        (by
          rintro j ⟨a, c⟩ v hj ⟨g, rfl, fg⟩
          have hx2 := MX_sr hx fg
          have c1 := (hx2.2.1.2.2.2.1 i hi).1
          have q1 := r_pile hx2 (p := 6 * i + j) (by omega)
          rw [← Nat.add_assoc] at q1
          have pl := pile_lt hx.1 hx.2.2.1 (p := 6 * i + j) (by omega)
          have pl1 := pl.1
          have e1 := r_lost1 g (v2 := nI c) (v3 := nI i) (v4 := nI j) (S.2.2.2 (6 * i + j)) a 3000 (by omega) pl
          obtain ⟨e, he, g2, eg, f2⟩ := wit_for (b := fun v : (Int32 × Int32 × wSt) => fX11_lost_l82 v.2.2 (nI (a ||| lB (S.2.2.2 (6 * i + j)))) (nI i) (nI j) v.1 v.2.1)
            (fun w c => c ||| tB (gRead L S i j w)) 10
            (fun w c v => ∃ g, v = (nI c, nI w, g) ∧ fr sr h g)
            (fun c e => ∃ g, e = (nI c, g) ∧ fr sr h g)
            (by
              rintro w c v hw ⟨g, rfl, fg⟩
              have hx2 := MX_sr hx fg
              obtain ⟨g2, e2, f2⟩ := r_shown hx2 hi (j := j) (w := w) (by omega) (by omega)
              have hlt : ∀ t, gRead L S i j w = some t → t < gnt L := fun t ht => gRead_lt hx.1 hx.2.2.1 hi (by omega) ht
              refine ⟨_, ?_, g2, rfl, fr_tr fg f2⟩
              revert e2 hlt
              generalize gRead L S i j w = x
              intro e2 hlt
              rcases x with _ | t
              · simp (disch := omega) only [↓reduceIte, wlet, Option.bind_some, true_and, and_true, not_true_eq_false, not_false_eq_true, reduceCtorEq, n0_, n1_, n2_, n3_, n4_, n5_, n6_, n7_, n8_, n9_, n10_, n12_, n16_, n18_, n20_, n21_, n22_, n24_, n25_, n26_, n27_, n28_, n29_, n30_, n31_, n32_, n40_, n41_, n42_, n43_, n45_, n48_, n54_, n57_, n58_, n59_, n60_, n61_, n63_, n96_, n97_, n99_, n100_, n122_, n126_, n200_, n255_, n375_, n400_, n1000_, n2000_, n9999_, n5764801_, n1000000_, n3000_, m1, m2, le_t, le_f, lt_t, lt_f, eq_t, eq_f, no_lt, no_le, le_no, lt_no, eq_no, no_eq, add_no, wib_t, clamp, nI_add, pk_mul, pk_sub, nor_, nand_, ndif_, shl_, sh1_, shr_, tbn, tb0, tb1, les_t, les_f, pk_div, rem_, remv, and31, wu1, wuc, wui, wu2, ws1, wsc, ws2, wv1, n11_, n13_, n14_, n15_, n17_, n19_, n23_, n56_, n64_, fX11_lost_l82, fX11_lost_b114_82, e2, rI, tB]
              · have ht := hlt t rfl
                simp (disch := omega) only [↓reduceIte, wlet, Option.bind_some, true_and, and_true, not_true_eq_false, not_false_eq_true, reduceCtorEq, n0_, n1_, n2_, n3_, n4_, n5_, n6_, n7_, n8_, n9_, n10_, n12_, n16_, n18_, n20_, n21_, n22_, n24_, n25_, n26_, n27_, n28_, n29_, n30_, n31_, n32_, n40_, n41_, n42_, n43_, n45_, n48_, n54_, n57_, n58_, n59_, n60_, n61_, n63_, n96_, n97_, n99_, n100_, n122_, n126_, n200_, n255_, n375_, n400_, n1000_, n2000_, n9999_, n5764801_, n1000000_, n3000_, m1, m2, le_t, le_f, lt_t, lt_f, eq_t, eq_f, no_lt, no_le, le_no, lt_no, eq_no, no_eq, add_no, wib_t, clamp, nI_add, pk_mul, pk_sub, nor_, nand_, ndif_, shl_, sh1_, shr_, tbn, tb0, tb1, les_t, les_f, pk_div, rem_, remv, and31, wu1, wuc, wui, wu2, ws1, wsc, ws2, wv1, n11_, n13_, n14_, n15_, n17_, n19_, n23_, n56_, n64_, fX11_lost_l82, fX11_lost_b114_82, e2, rI, tB])
            (by
              rintro c v ⟨g, rfl, fg⟩
              refine ⟨_, ?_, g, rfl, fg⟩
              simp (disch := omega) only [↓reduceIte, wlet, Option.bind_some, true_and, and_true, not_true_eq_false, not_false_eq_true, reduceCtorEq, n0_, n1_, n2_, n3_, n4_, n5_, n6_, n7_, n8_, n9_, n10_, n12_, n16_, n18_, n20_, n21_, n22_, n24_, n25_, n26_, n27_, n28_, n29_, n30_, n31_, n32_, n40_, n41_, n42_, n43_, n45_, n48_, n54_, n57_, n58_, n59_, n60_, n61_, n63_, n96_, n97_, n99_, n100_, n122_, n126_, n200_, n255_, n375_, n400_, n1000_, n2000_, n9999_, n5764801_, n1000000_, n3000_, m1, m2, le_t, le_f, lt_t, lt_f, eq_t, eq_f, no_lt, no_le, le_no, lt_no, eq_no, no_eq, add_no, wib_t, clamp, nI_add, pk_mul, pk_sub, nor_, nand_, ndif_, shl_, sh1_, shr_, tbn, tb0, tb1, les_t, les_f, pk_div, rem_, remv, and31, wu1, wuc, wui, wu2, ws1, wsc, ws2, wv1, n11_, n13_, n14_, n15_, n17_, n19_, n23_, n56_, n64_, fX11_lost_l82])
            (N := 3000) (by omega) (a0 := c) (v0 := (nI c, nI 0, g)) ⟨g, rfl, fg⟩
          refine ⟨_, ?_, g2, rfl, f2⟩
          simp (disch := omega) only [↓reduceIte, wlet, Option.bind_some, true_and, and_true, not_true_eq_false, not_false_eq_true, reduceCtorEq, n0_, n1_, n2_, n3_, n4_, n5_, n6_, n7_, n8_, n9_, n10_, n12_, n16_, n18_, n20_, n21_, n22_, n24_, n25_, n26_, n27_, n28_, n29_, n30_, n31_, n32_, n40_, n41_, n42_, n43_, n45_, n48_, n54_, n57_, n58_, n59_, n60_, n61_, n63_, n96_, n97_, n99_, n100_, n122_, n126_, n200_, n255_, n375_, n400_, n1000_, n2000_, n9999_, n5764801_, n1000000_, n3000_, m1, m2, le_t, le_f, lt_t, lt_f, eq_t, eq_f, no_lt, no_le, le_no, lt_no, eq_no, no_eq, add_no, wib_t, clamp, nI_add, pk_mul, pk_sub, nor_, nand_, ndif_, shl_, sh1_, shr_, tbn, tb0, tb1, les_t, les_f, pk_div, rem_, remv, and31, wu1, wuc, wui, wu2, ws1, wsc, ws2, wv1, n11_, n13_, n14_, n15_, n17_, n19_, n23_, n56_, n64_, fX11_lost_l24, c1, q1, e1, he, eg]
          rfl)
        (by
          rintro ⟨a, c⟩ v ⟨g, rfl, fg⟩
          have c1 := ((MX_sr hx fg).2.1.2.2.2.1 i hi).1
          refine ⟨_, ?_, g, rfl, fg⟩
          simp (disch := omega) only [↓reduceIte, wlet, Option.bind_some, true_and, and_true, not_true_eq_false, not_false_eq_true, reduceCtorEq, n0_, n1_, n2_, n3_, n4_, n5_, n6_, n7_, n8_, n9_, n10_, n12_, n16_, n18_, n20_, n21_, n22_, n24_, n25_, n26_, n27_, n28_, n29_, n30_, n31_, n32_, n40_, n41_, n42_, n43_, n45_, n48_, n54_, n57_, n58_, n59_, n60_, n61_, n63_, n96_, n97_, n99_, n100_, n122_, n126_, n200_, n255_, n375_, n400_, n1000_, n2000_, n9999_, n5764801_, n1000000_, n3000_, m1, m2, le_t, le_f, lt_t, lt_f, eq_t, eq_f, no_lt, no_le, le_no, lt_no, eq_no, no_eq, add_no, wib_t, clamp, nI_add, pk_mul, pk_sub, nor_, nand_, ndif_, shl_, sh1_, shr_, tbn, tb0, tb1, les_t, les_f, pk_div, rem_, remv, and31, wu1, wuc, wui, wu2, ws1, wsc, ws2, wv1, n11_, n13_, n14_, n15_, n17_, n19_, n23_, n56_, n64_, fX11_lost_l24, c1])
        (N := 3000) (by omega) (a0 := (a, c)) (v0 := (nI a, nI c, nI 0, g)) ⟨g, rfl, fg⟩
      rw [key] at eg
      have c1 := (MX_sr hx fg).2.1.1
      refine ⟨_, ?_, g2, rfl, f2⟩
      simp (disch := omega) only [↓reduceIte, wlet, Option.bind_some, true_and, and_true, not_true_eq_false, not_false_eq_true, reduceCtorEq, n0_, n1_, n2_, n3_, n4_, n5_, n6_, n7_, n8_, n9_, n10_, n12_, n16_, n18_, n20_, n21_, n22_, n24_, n25_, n26_, n27_, n28_, n29_, n30_, n31_, n32_, n40_, n41_, n42_, n43_, n45_, n48_, n54_, n57_, n58_, n59_, n60_, n61_, n63_, n96_, n97_, n99_, n100_, n122_, n126_, n200_, n255_, n375_, n400_, n1000_, n2000_, n9999_, n5764801_, n1000000_, n3000_, m1, m2, le_t, le_f, lt_t, lt_f, eq_t, eq_f, no_lt, no_le, le_no, lt_no, eq_no, no_eq, add_no, wib_t, clamp, nI_add, pk_mul, pk_sub, nor_, nand_, ndif_, shl_, sh1_, shr_, tbn, tb0, tb1, les_t, les_f, pk_div, rem_, remv, and31, wu1, wuc, wui, wu2, ws1, wsc, ws2, wv1, n11_, n13_, n14_, n15_, n17_, n19_, n23_, n56_, n64_, fX11_lost_l11, c1, he, eg])
    (by
      rintro ⟨a, c⟩ v ⟨g, rfl, fg⟩
      have c1 := (MX_sr hx fg).2.1.1
      refine ⟨_, ?_, g, rfl, fg⟩
      simp (disch := omega) only [↓reduceIte, wlet, Option.bind_some, true_and, and_true, not_true_eq_false, not_false_eq_true, reduceCtorEq, n0_, n1_, n2_, n3_, n4_, n5_, n6_, n7_, n8_, n9_, n10_, n12_, n16_, n18_, n20_, n21_, n22_, n24_, n25_, n26_, n27_, n28_, n29_, n30_, n31_, n32_, n40_, n41_, n42_, n43_, n45_, n48_, n54_, n57_, n58_, n59_, n60_, n61_, n63_, n96_, n97_, n99_, n100_, n122_, n126_, n200_, n255_, n375_, n400_, n1000_, n2000_, n9999_, n5764801_, n1000000_, n3000_, m1, m2, le_t, le_f, lt_t, lt_f, eq_t, eq_f, no_lt, no_le, le_no, lt_no, eq_no, no_eq, add_no, wib_t, clamp, nI_add, pk_mul, pk_sub, nor_, nand_, ndif_, shl_, sh1_, shr_, tbn, tb0, tb1, les_t, les_f, pk_div, rem_, remv, and31, wu1, wuc, wui, wu2, ws1, wsc, ws2, wv1, n11_, n13_, n14_, n15_, n17_, n19_, n23_, n56_, n64_, fX11_lost_l11, c1])
    (N := 3000) (by omega) (a0 := (0, 0)) (v0 := (nI 0, nI 0, nI 0, h)) ⟨h, rfl, fr_rf⟩
  have key : ∀ n, gF (fun i (a : Nat × Nat) => (gOr (fun j => lB (S.2.2.2 (6 * i + j))) (gln L i) a.1, gF (fun j a => gOr (fun w => tB (gRead L S i j w)) 10 a) (gln L i) a.2)) n (0, 0) = (gF (fun i a => gOr (fun j => lB (S.2.2.2 (6 * i + j))) (gln L i) a) n 0, gF (fun i a => gF (fun j a => gOr (fun w => tB (gRead L S i j w)) 10 a) (gln L i) a) n 0) := by
    intro n
    induction n with
    | zero => rfl
    | succ n ih => rw [gF, ih]; rfl
  refine ⟨_, g, by rw [he, eg], fg, ?_, ?_⟩
  · intro b
    rw [key, gOr2_bit, Nat.zero_testBit]
    simp only [lB_bit, Bool.false_eq_true, false_or]
  · intro b
    rw [key]
    show (gF (fun i a => gF (fun j a => gOr (fun w => tB (gRead L S i j w)) 10 a) (gln L i) a) (gns L) 0).testBit b = true ↔ _
    have k3 : ∀ n a, (gF (fun i a => gF (fun j a => gOr (fun w => tB (gRead L S i j w)) 10 a) (gln L i) a) n a).testBit b = true ↔ a.testBit b = true ∨ ∃ i, i < n ∧ ∃ j w, j < gln L i ∧ w < 10 ∧ (tB (gRead L S i j w)).testBit b = true := by
      intro n a
      induction n with
      | zero => simp [gF]
      | succ n ih =>
        rw [gF, gOr2_bit, ih]
        constructor
        · rintro ((q | ⟨i, q1, q2⟩) | ⟨j, w, q1, q2, q3⟩)
          · exact Or.inl q
          · exact Or.inr ⟨i, by omega, q2⟩
          · exact Or.inr ⟨n, by omega, j, w, q1, q2, q3⟩
        · rintro (q | ⟨i, q1, j, w, q2, q3, q4⟩)
          · exact Or.inl (Or.inl q)
          · by_cases e : i = n
            · subst e
              exact Or.inr ⟨j, w, q2, q3, q4⟩
            · exact Or.inl (Or.inr ⟨i, by omega, j, w, q2, q3, q4⟩)
    rw [k3, Nat.zero_testBit]
    constructor
    · rintro (q | ⟨i, q1, j, w, q2, q3, q4⟩)
      · cases q
      · exact ⟨w, i, j, by omega, q1, q2, (tB_bit _ _).mp q4⟩
    · rintro ⟨w, i, j, q1, q2, q3, q4⟩
      exact Or.inr ⟨i, q2, j, w, q3, by omega, (tB_bit _ _).mpr q4⟩
end G37

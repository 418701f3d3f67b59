/-! TOKENS: the other side -/
def RJ (h g : wSt) : Prop := fr s188 h g ∧ (∀ j, j ≠ 4 → j ≠ 5 → j ≠ 6 → j ≠ 8 → g.1 188 j = h.1 188 j) ∧ ∀ j, j ≠ 7 → g.2 188 j = h.2 188 j
theorem RJ_rf {h : wSt} : RJ h h := ⟨fr_rf, fun _ _ _ _ _ => rfl, fun _ _ => rfl⟩
theorem RJ_tr {h g f : wSt} (a : RJ h g) (b : RJ g f) : RJ h f := ⟨fr_tr a.1 b.1, fun j h1 h2 h3 h4 => (b.2.1 j h1 h2 h3 h4).trans (a.2.1 j h1 h2 h3 h4), fun j hj => (b.2.2 j hj).trans (a.2.2 j hj)⟩
theorem RJ_I {h : wSt} {i : Nat} {x : Int32} (hi : i = 4 ∨ i = 5 ∨ i = 6 ∨ i = 8) : RJ h (wuI h 188 i x) := ⟨fr_wuI rfl, fun j h1 h2 h3 h4 => wui (by omega), fun _ _ => rfl⟩
theorem RJ_J {h : wSt} {x : Int64} : RJ h (wuJ h 188 7 x) := ⟨fr_wuJ rfl, fun j _ _ _ _ => rfl, fun j hj => wvi hj⟩
section G58
variable {h : wSt} {T : gTp} {b : Nat}
def SZm (h : wSt) (T : gTp) : Prop := h.1 188 3 = nI T.1 ∧ ∀ i, i < T.1 → h.1 189 i = nI (T.2 i)
theorem SZm_RJ {h g : wSt} (a : SZm h T) (f : RJ h g) : SZm g T := ⟨by rw [f.2.1 3 (by omega) (by omega) (by omega) (by omega)]; exact a.1, fun i hi => by rw [fr_at f.1 (by unfold s188; omega)]; exact a.2 i hi⟩
theorem r_signAt (hT : SZm h T) (hW : WT T) {i : Nat} (hi : i ≤ T.1) : fX11_signAt h (nI i) = some (nI (if i < T.1 then T.2 i else 0)) := by
  obtain ⟨t0, t1⟩ := hT
  have w0 := hW.1
  by_cases hq : i < T.1
  · have t2 := t1 i hq
    rw [if_pos hq]
    simp (disch := omega) only [↓reduceIte, wlet, Option.bind_some, true_and, and_true, not_true_eq_false, not_false_eq_true, reduceCtorEq, n0_, n1_, n2_, n3_, n4_, n5_, n6_, n7_, n8_, n9_, n10_, n12_, n16_, n18_, n20_, n21_, n22_, n24_, n25_, n26_, n27_, n28_, n29_, n30_, n31_, n32_, n40_, n41_, n42_, n43_, n45_, n48_, n54_, n57_, n58_, n59_, n60_, n61_, n63_, n96_, n97_, n99_, n100_, n122_, n126_, n200_, n255_, n375_, n400_, n1000_, n2000_, n9999_, n5764801_, n1000000_, n3000_, m1, m2, le_t, le_f, lt_t, lt_f, eq_t, eq_f, no_lt, no_le, le_no, lt_no, eq_no, no_eq, add_no, wib_t, clamp, nI_add, pk_mul, pk_sub, nor_, nand_, ndif_, shl_, sh1_, shr_, tbn, tb0, tb1, les_t, les_f, pk_div, rem_, remv, and31, wu1, wuc, wui, wu2, ws1, wsc, ws2, wv1, n11_, n13_, n14_, n15_, n17_, n19_, n23_, n56_, n64_, fX11_signAt, t0, t2]
  · rw [if_neg hq]
    simp (disch := omega) only [↓reduceIte, wlet, Option.bind_some, true_and, and_true, not_true_eq_false, not_false_eq_true, reduceCtorEq, n0_, n1_, n2_, n3_, n4_, n5_, n6_, n7_, n8_, n9_, n10_, n12_, n16_, n18_, n20_, n21_, n22_, n24_, n25_, n26_, n27_, n28_, n29_, n30_, n31_, n32_, n40_, n41_, n42_, n43_, n45_, n48_, n54_, n57_, n58_, n59_, n60_, n61_, n63_, n96_, n97_, n99_, n100_, n122_, n126_, n200_, n255_, n375_, n400_, n1000_, n2000_, n9999_, n5764801_, n1000000_, n3000_, m1, m2, le_t, le_f, lt_t, lt_f, eq_t, eq_f, no_lt, no_le, le_no, lt_no, eq_no, no_eq, add_no, wib_t, clamp, nI_add, pk_mul, pk_sub, nor_, nand_, ndif_, shl_, sh1_, shr_, tbn, tb0, tb1, les_t, les_f, pk_div, rem_, remv, and31, wu1, wuc, wui, wu2, ws1, wsc, ws2, wv1, n11_, n13_, n14_, n15_, n17_, n19_, n23_, n56_, n64_, fX11_signAt, t0]
theorem r_skip (hT : SZm h T) (hW : WT T) (hb : b ≤ T.1) (h4 : h.1 188 4 = nI b) : ∃ g, wit (fun v : wSt => fX11_nextToken_l0 v) 3000 h = some g ∧ RJ h g ∧ g.1 188 4 = nI (gPl T b) := by
  obtain ⟨w0, w1⟩ := hW
  obtain ⟨p1, p2, p3, p4⟩ := gE_b gSp (T := T) hb
  have p1 : b ≤ gPl T b := p1
  have p2 : gPl T b ≤ T.1 := p2
  obtain ⟨e, he, e1, e2⟩ := wit_for (b := fun v : wSt => fX11_nextToken_l0 v) (fun _ (u : Unit) => u) (gPl T b - b)
    (fun m _ v => RJ h v ∧ v.1 188 4 = nI (b + m)) (fun _ v => RJ h v ∧ v.1 188 4 = nI (gPl T b))
    (by
      rintro m _ v hm ⟨fv, v4⟩
      have hs := p3 (b + m) (by omega) (by show b + m < gPl T b; omega)
      have hlt : b + m < T.1 := by omega
      have hv := w1 _ hlt
      obtain ⟨t0, t1⟩ := SZm_RJ hT fv
      have t2 := t1 _ hlt
      refine ⟨wuI v 188 4 (nI (b + (m + 1))), ?_, RJ_tr fv (RJ_I (by omega)), wu1⟩
      unfold gSp at hs
      simp only [Bool.or_eq_true, decide_eq_true_eq] at hs
      rcases hs with hs | hs
      · simp (disch := omega) only [↓reduceIte, wlet, Option.bind_some, true_and, and_true, not_true_eq_false, not_false_eq_true, reduceCtorEq, n0_, n1_, n2_, n3_, n4_, n5_, n6_, n7_, n8_, n9_, n10_, n12_, n16_, n18_, n20_, n21_, n22_, n24_, n25_, n26_, n27_, n28_, n29_, n30_, n31_, n32_, n40_, n41_, n42_, n43_, n45_, n48_, n54_, n57_, n58_, n59_, n60_, n61_, n63_, n96_, n97_, n99_, n100_, n122_, n126_, n200_, n255_, n375_, n400_, n1000_, n2000_, n9999_, n5764801_, n1000000_, n3000_, m1, m2, le_t, le_f, lt_t, lt_f, eq_t, eq_f, no_lt, no_le, le_no, lt_no, eq_no, no_eq, add_no, wib_t, clamp, nI_add, pk_mul, pk_sub, nor_, nand_, ndif_, shl_, sh1_, shr_, tbn, tb0, tb1, les_t, les_f, pk_div, rem_, remv, and31, wu1, wuc, wui, wu2, ws1, wsc, ws2, wv1, n11_, n13_, n14_, n15_, n17_, n19_, n23_, n56_, n64_, fX11_nextToken_l0, fX11_nextToken_b39_0, t0, v4, t2, hs]
        rfl
      · simp (disch := omega) only [↓reduceIte, wlet, Option.bind_some, true_and, and_true, not_true_eq_false, not_false_eq_true, reduceCtorEq, n0_, n1_, n2_, n3_, n4_, n5_, n6_, n7_, n8_, n9_, n10_, n12_, n16_, n18_, n20_, n21_, n22_, n24_, n25_, n26_, n27_, n28_, n29_, n30_, n31_, n32_, n40_, n41_, n42_, n43_, n45_, n48_, n54_, n57_, n58_, n59_, n60_, n61_, n63_, n96_, n97_, n99_, n100_, n122_, n126_, n200_, n255_, n375_, n400_, n1000_, n2000_, n9999_, n5764801_, n1000000_, n3000_, m1, m2, le_t, le_f, lt_t, lt_f, eq_t, eq_f, no_lt, no_le, le_no, lt_no, eq_no, no_eq, add_no, wib_t, clamp, nI_add, pk_mul, pk_sub, nor_, nand_, ndif_, shl_, sh1_, shr_, tbn, tb0, tb1, les_t, les_f, pk_div, rem_, remv, and31, wu1, wuc, wui, wu2, ws1, wsc, ws2, wv1, n11_, n13_, n14_, n15_, n17_, n19_, n23_, n56_, n64_, fX11_nextToken_l0, fX11_nextToken_b39_0, t0, v4, t2, hs]
        rfl)
    (by
      rintro _ v ⟨fv, v4⟩
      rw [show b + (gPl T b - b) = gPl T b by omega] at v4
      obtain ⟨t0, t1⟩ := SZm_RJ hT fv
      refine ⟨v, ?_, fv, v4⟩
      by_cases hq : gPl T b = T.1
      · simp (disch := omega) only [↓reduceIte, wlet, Option.bind_some, true_and, and_true, not_true_eq_false, not_false_eq_true, reduceCtorEq, n0_, n1_, n2_, n3_, n4_, n5_, n6_, n7_, n8_, n9_, n10_, n12_, n16_, n18_, n20_, n21_, n22_, n24_, n25_, n26_, n27_, n28_, n29_, n30_, n31_, n32_, n40_, n41_, n42_, n43_, n45_, n48_, n54_, n57_, n58_, n59_, n60_, n61_, n63_, n96_, n97_, n99_, n100_, n122_, n126_, n200_, n255_, n375_, n400_, n1000_, n2000_, n9999_, n5764801_, n1000000_, n3000_, m1, m2, le_t, le_f, lt_t, lt_f, eq_t, eq_f, no_lt, no_le, le_no, lt_no, eq_no, no_eq, add_no, wib_t, clamp, nI_add, pk_mul, pk_sub, nor_, nand_, ndif_, shl_, sh1_, shr_, tbn, tb0, tb1, les_t, les_f, pk_div, rem_, remv, and31, wu1, wuc, wui, wu2, ws1, wsc, ws2, wv1, n11_, n13_, n14_, n15_, n17_, n19_, n23_, n56_, n64_, fX11_nextToken_l0, t0, v4]
      · have hlt : gPl T b < T.1 := by omega
        have hs : gSp (T.2 (gPl T b)) = false := p4 hlt
        have hv := w1 _ hlt
        have t2 := t1 _ hlt
        unfold gSp at hs
        simp only [Bool.or_eq_false_iff, decide_eq_false_iff_not] at hs
        obtain ⟨hs1, hs2⟩ := hs
        simp (disch := omega) only [↓reduceIte, wlet, Option.bind_some, true_and, and_true, not_true_eq_false, not_false_eq_true, reduceCtorEq, n0_, n1_, n2_, n3_, n4_, n5_, n6_, n7_, n8_, n9_, n10_, n12_, n16_, n18_, n20_, n21_, n22_, n24_, n25_, n26_, n27_, n28_, n29_, n30_, n31_, n32_, n40_, n41_, n42_, n43_, n45_, n48_, n54_, n57_, n58_, n59_, n60_, n61_, n63_, n96_, n97_, n99_, n100_, n122_, n126_, n200_, n255_, n375_, n400_, n1000_, n2000_, n9999_, n5764801_, n1000000_, n3000_, m1, m2, le_t, le_f, lt_t, lt_f, eq_t, eq_f, no_lt, no_le, le_no, lt_no, eq_no, no_eq, add_no, wib_t, clamp, nI_add, pk_mul, pk_sub, nor_, nand_, ndif_, shl_, sh1_, shr_, tbn, tb0, tb1, les_t, les_f, pk_div, rem_, remv, and31, wu1, wuc, wui, wu2, ws1, wsc, ws2, wv1, n11_, n13_, n14_, n15_, n17_, n19_, n23_, n56_, n64_, fX11_nextToken_l0, t0, v4, t2])
    (N := 3000) (by omega) (a0 := ()) (v0 := h) ⟨RJ_rf, by rw [Nat.add_zero]; exact h4⟩
  exact ⟨e, he, e1, e2⟩
theorem r_letters (hT : SZm h T) (hW : WT T) {p : Nat} (hp : p < T.1) (h5 : h.1 188 5 = nI p) (h4 : h.1 188 4 = nI p) (h7 : h.2 188 7 = lN 0) : ∃ g, wit (fun v : wSt => fX11_nextToken_l109 v) 3000 h = some g ∧ RJ h g ∧ g.1 188 5 = nI p ∧ g.1 188 4 = nI (gE gLe T p) ∧ (gE gLe T p - p ≤ 8 → g.2 188 7 = lN (eN 27 (gWd T p (gE gLe T p - p)))) := by
  have w0 := hW.1
  have w1 := hW.2
  obtain ⟨p1, p2, p3, p4⟩ := gE_b gLe (T := T) (i := p) (by omega)
  have hlet : ∀ j, p ≤ j → j < gE gLe T p → 97 ≤ T.2 j ∧ T.2 j ≤ 122 := fun j q1 q2 => by
    have := p3 j q1 q2
    unfold gLe at this
    simp only [Bool.and_eq_true, decide_eq_true_eq] at this
    exact this
  obtain ⟨e, he, e1, e2, e3, e4⟩ := wit_for (b := fun v : wSt => fX11_nextToken_l109 v) (fun _ (u : Unit) => u) (gE gLe T p - p)
    (fun m _ v => RJ h v ∧ v.1 188 5 = nI p ∧ v.1 188 4 = nI (p + m) ∧ (m ≤ 8 → v.2 188 7 = lN (eN 27 (gWd T p m))))
    (fun _ v => RJ h v ∧ v.1 188 5 = nI p ∧ v.1 188 4 = nI (gE gLe T p) ∧ (gE gLe T p - p ≤ 8 → v.2 188 7 = lN (eN 27 (gWd T p (gE gLe T p - p)))))
    (by
      rintro m _ v hm ⟨fv, v5, v4, v7⟩
      have hlt : p + m < T.1 := by omega
      obtain ⟨q1, q2⟩ := hlet (p + m) (by omega) (by omega)
      have sg := r_signAt (SZm_RJ hT fv) hW (i := p + m) (by omega)
      rw [if_pos hlt] at sg
      by_cases h8 : m < 8
      · have e6 : (nI (T.2 (p + m))).toInt64 = lN (T.2 (p + m)) := nI_l (by omega)
        have e7 : v.2 188 7 * 27 + lN (T.2 (p + m)) - 96 = lN (eN 27 (gWd T p (m + 1))) := by
          rw [v7 (by omega), show (27 : Int64) = lN 27 from rfl, show (96 : Int64) = lN 96 from rfl, lN_mul, lN_add, lN_sub (by omega), gWd, eN_app]
          congr 1
          omega
        refine ⟨wuI (wuJ v 188 7 (lN (eN 27 (gWd T p (m + 1))))) 188 4 (nI (p + (m + 1))), ?_, RJ_tr fv (RJ_tr RJ_J (RJ_I (by omega))), by rw [wui (by omega)]; exact v5, wu1, fun _ => by rw [wu2, wv2]⟩
        simp (disch := omega) only [↓reduceIte, wlet, Option.bind_some, true_and, and_true, not_true_eq_false, not_false_eq_true, reduceCtorEq, n0_, n1_, n2_, n3_, n4_, n5_, n6_, n7_, n8_, n9_, n10_, n12_, n16_, n18_, n20_, n21_, n22_, n24_, n25_, n26_, n27_, n28_, n29_, n30_, n31_, n32_, n40_, n41_, n42_, n43_, n45_, n48_, n54_, n57_, n58_, n59_, n60_, n61_, n63_, n96_, n97_, n99_, n100_, n122_, n126_, n200_, n255_, n375_, n400_, n1000_, n2000_, n9999_, n5764801_, n1000000_, n3000_, m1, m2, le_t, le_f, lt_t, lt_f, eq_t, eq_f, no_lt, no_le, le_no, lt_no, eq_no, no_eq, add_no, wib_t, clamp, nI_add, pk_mul, pk_sub, nor_, nand_, ndif_, shl_, sh1_, shr_, tbn, tb0, tb1, les_t, les_f, pk_div, rem_, remv, and31, wu1, wuc, wui, wu2, ws1, wsc, ws2, wv1, n11_, n13_, n14_, n15_, n17_, n19_, n23_, n56_, n64_, fX11_nextToken_l109, fX11_nextToken_b175_109, v4, v5, sg, e6, e7]
        rfl
      · refine ⟨wuI v 188 4 (nI (p + (m + 1))), ?_, RJ_tr fv (RJ_I (by omega)), by rw [wui (by omega)]; exact v5, wu1, fun q => by omega⟩
        simp (disch := omega) only [↓reduceIte, wlet, Option.bind_some, true_and, and_true, not_true_eq_false, not_false_eq_true, reduceCtorEq, n0_, n1_, n2_, n3_, n4_, n5_, n6_, n7_, n8_, n9_, n10_, n12_, n16_, n18_, n20_, n21_, n22_, n24_, n25_, n26_, n27_, n28_, n29_, n30_, n31_, n32_, n40_, n41_, n42_, n43_, n45_, n48_, n54_, n57_, n58_, n59_, n60_, n61_, n63_, n96_, n97_, n99_, n100_, n122_, n126_, n200_, n255_, n375_, n400_, n1000_, n2000_, n9999_, n5764801_, n1000000_, n3000_, m1, m2, le_t, le_f, lt_t, lt_f, eq_t, eq_f, no_lt, no_le, le_no, lt_no, eq_no, no_eq, add_no, wib_t, clamp, nI_add, pk_mul, pk_sub, nor_, nand_, ndif_, shl_, sh1_, shr_, tbn, tb0, tb1, les_t, les_f, pk_div, rem_, remv, and31, wu1, wuc, wui, wu2, ws1, wsc, ws2, wv1, n11_, n13_, n14_, n15_, n17_, n19_, n23_, n56_, n64_, fX11_nextToken_l109, fX11_nextToken_b175_109, v4, v5, sg]
        rfl)
    (by
      rintro _ v ⟨fv, v5, v4, v7⟩
      rw [show p + (gE gLe T p - p) = gE gLe T p by omega] at v4
      refine ⟨v, ?_, fv, v5, v4, v7⟩
      have sg := r_signAt (SZm_RJ hT fv) hW (i := gE gLe T p) (by omega)
      by_cases hq : gE gLe T p = T.1
      · rw [if_neg (by omega)] at sg
        simp (disch := omega) only [↓reduceIte, wlet, Option.bind_some, true_and, and_true, not_true_eq_false, not_false_eq_true, reduceCtorEq, n0_, n1_, n2_, n3_, n4_, n5_, n6_, n7_, n8_, n9_, n10_, n12_, n16_, n18_, n20_, n21_, n22_, n24_, n25_, n26_, n27_, n28_, n29_, n30_, n31_, n32_, n40_, n41_, n42_, n43_, n45_, n48_, n54_, n57_, n58_, n59_, n60_, n61_, n63_, n96_, n97_, n99_, n100_, n122_, n126_, n200_, n255_, n375_, n400_, n1000_, n2000_, n9999_, n5764801_, n1000000_, n3000_, m1, m2, le_t, le_f, lt_t, lt_f, eq_t, eq_f, no_lt, no_le, le_no, lt_no, eq_no, no_eq, add_no, wib_t, clamp, nI_add, pk_mul, pk_sub, nor_, nand_, ndif_, shl_, sh1_, shr_, tbn, tb0, tb1, les_t, les_f, pk_div, rem_, remv, and31, wu1, wuc, wui, wu2, ws1, wsc, ws2, wv1, n11_, n13_, n14_, n15_, n17_, n19_, n23_, n56_, n64_, fX11_nextToken_l109, v4, sg]
      · have hlt : gE gLe T p < T.1 := by omega
        rw [if_pos hlt] at sg
        have hv := w1 _ hlt
        have hs := p4 hlt
        unfold gLe at hs
        simp only [Bool.and_eq_false_iff, decide_eq_false_iff_not] at hs
        by_cases hq2 : 97 ≤ T.2 (gE gLe T p)
        · have hq3 : ¬ T.2 (gE gLe T p) ≤ 122 := by rcases hs with q | q; exact absurd hq2 q; exact q
          simp (disch := omega) only [↓reduceIte, wlet, Option.bind_some, true_and, and_true, not_true_eq_false, not_false_eq_true, reduceCtorEq, n0_, n1_, n2_, n3_, n4_, n5_, n6_, n7_, n8_, n9_, n10_, n12_, n16_, n18_, n20_, n21_, n22_, n24_, n25_, n26_, n27_, n28_, n29_, n30_, n31_, n32_, n40_, n41_, n42_, n43_, n45_, n48_, n54_, n57_, n58_, n59_, n60_, n61_, n63_, n96_, n97_, n99_, n100_, n122_, n126_, n200_, n255_, n375_, n400_, n1000_, n2000_, n9999_, n5764801_, n1000000_, n3000_, m1, m2, le_t, le_f, lt_t, lt_f, eq_t, eq_f, no_lt, no_le, le_no, lt_no, eq_no, no_eq, add_no, wib_t, clamp, nI_add, pk_mul, pk_sub, nor_, nand_, ndif_, shl_, sh1_, shr_, tbn, tb0, tb1, les_t, les_f, pk_div, rem_, remv, and31, wu1, wuc, wui, wu2, ws1, wsc, ws2, wv1, n11_, n13_, n14_, n15_, n17_, n19_, n23_, n56_, n64_, fX11_nextToken_l109, v4, sg]
        · simp (disch := omega) only [↓reduceIte, wlet, Option.bind_some, true_and, and_true, not_true_eq_false, not_false_eq_true, reduceCtorEq, n0_, n1_, n2_, n3_, n4_, n5_, n6_, n7_, n8_, n9_, n10_, n12_, n16_, n18_, n20_, n21_, n22_, n24_, n25_, n26_, n27_, n28_, n29_, n30_, n31_, n32_, n40_, n41_, n42_, n43_, n45_, n48_, n54_, n57_, n58_, n59_, n60_, n61_, n63_, n96_, n97_, n99_, n100_, n122_, n126_, n200_, n255_, n375_, n400_, n1000_, n2000_, n9999_, n5764801_, n1000000_, n3000_, m1, m2, le_t, le_f, lt_t, lt_f, eq_t, eq_f, no_lt, no_le, le_no, lt_no, eq_no, no_eq, add_no, wib_t, clamp, nI_add, pk_mul, pk_sub, nor_, nand_, ndif_, shl_, sh1_, shr_, tbn, tb0, tb1, les_t, les_f, pk_div, rem_, remv, and31, wu1, wuc, wui, wu2, ws1, wsc, ws2, wv1, n11_, n13_, n14_, n15_, n17_, n19_, n23_, n56_, n64_, fX11_nextToken_l109, v4, sg])
    (N := 3000) (by omega) (a0 := ()) (v0 := h) ⟨RJ_rf, h5, by rw [Nat.add_zero]; exact h4, fun _ => h7⟩
  exact ⟨e, he, e1, e2, e3, e4⟩
theorem r_digits (hT : SZm h T) (hW : WT T) {p : Nat} (hp : p < T.1) (h5 : h.1 188 5 = nI p) (h4 : h.1 188 4 = nI p) (h8 : h.1 188 8 = nI 0) : ∃ g, wit (fun v : wSt => fX11_nextToken_l224 v) 3000 h = some g ∧ RJ h g ∧ g.1 188 5 = nI p ∧ g.1 188 4 = nI (gE gDi T p) ∧ (gE gDi T p - p ≤ 4 → g.1 188 8 = nI (gNm T p (gE gDi T p - p))) := by
  have w0 := hW.1
  have w1 := hW.2
  obtain ⟨p1, p2, p3, p4⟩ := gE_b gDi (T := T) (i := p) (by omega)
  have hlet : ∀ j, p ≤ j → j < gE gDi T p → 48 ≤ T.2 j ∧ T.2 j ≤ 57 := fun j q1 q2 => by
    have := p3 j q1 q2
    unfold gDi at this
    simp only [Bool.and_eq_true, decide_eq_true_eq] at this
    exact this
  obtain ⟨e, he, e1, e2, e3, e4⟩ := wit_for (b := fun v : wSt => fX11_nextToken_l224 v) (fun _ (u : Unit) => u) (gE gDi T p - p)
    (fun m _ v => RJ h v ∧ v.1 188 5 = nI p ∧ v.1 188 4 = nI (p + m) ∧ (m ≤ 4 → v.1 188 8 = nI (gNm T p m)))
    (fun _ v => RJ h v ∧ v.1 188 5 = nI p ∧ v.1 188 4 = nI (gE gDi T p) ∧ (gE gDi T p - p ≤ 4 → v.1 188 8 = nI (gNm T p (gE gDi T p - p))))
    (by
      rintro m _ v hm ⟨fv, v5, v4, v8⟩
      have hlt : p + m < T.1 := by omega
      obtain ⟨q1, q2⟩ := hlet (p + m) (by omega) (by omega)
      have sg := r_signAt (SZm_RJ hT fv) hW (i := p + m) (by omega)
      rw [if_pos hlt] at sg
      by_cases h4' : m < 4
      · have v8 := v8 (by omega)
        have e7 : gNm T p m * 10 + T.2 (p + m) - 48 = gNm T p (m + 1) := by rw [gNm]; omega
        refine ⟨wuI (wuI v 188 8 (nI (gNm T p (m + 1)))) 188 4 (nI (p + (m + 1))), ?_, RJ_tr fv (RJ_tr (RJ_I (by omega)) (RJ_I (by omega))), by rw [wui (by omega), wui (by omega)]; exact v5, wu1, fun _ => by rw [wui (by omega), wu1]⟩
        simp (disch := omega) only [↓reduceIte, wlet, Option.bind_some, true_and, and_true, not_true_eq_false, not_false_eq_true, reduceCtorEq, n0_, n1_, n2_, n3_, n4_, n5_, n6_, n7_, n8_, n9_, n10_, n12_, n16_, n18_, n20_, n21_, n22_, n24_, n25_, n26_, n27_, n28_, n29_, n30_, n31_, n32_, n40_, n41_, n42_, n43_, n45_, n48_, n54_, n57_, n58_, n59_, n60_, n61_, n63_, n96_, n97_, n99_, n100_, n122_, n126_, n200_, n255_, n375_, n400_, n1000_, n2000_, n9999_, n5764801_, n1000000_, n3000_, m1, m2, le_t, le_f, lt_t, lt_f, eq_t, eq_f, no_lt, no_le, le_no, lt_no, eq_no, no_eq, add_no, wib_t, clamp, nI_add, pk_mul, pk_sub, nor_, nand_, ndif_, shl_, sh1_, shr_, tbn, tb0, tb1, les_t, les_f, pk_div, rem_, remv, and31, wu1, wuc, wui, wu2, ws1, wsc, ws2, wv1, n11_, n13_, n14_, n15_, n17_, n19_, n23_, n56_, n64_, fX11_nextToken_l224, fX11_nextToken_b286_224, v4, v5, v8, sg, e7]
        rfl
      · refine ⟨wuI v 188 4 (nI (p + (m + 1))), ?_, RJ_tr fv (RJ_I (by omega)), by rw [wui (by omega)]; exact v5, wu1, fun q => by omega⟩
        simp (disch := omega) only [↓reduceIte, wlet, Option.bind_some, true_and, and_true, not_true_eq_false, not_false_eq_true, reduceCtorEq, n0_, n1_, n2_, n3_, n4_, n5_, n6_, n7_, n8_, n9_, n10_, n12_, n16_, n18_, n20_, n21_, n22_, n24_, n25_, n26_, n27_, n28_, n29_, n30_, n31_, n32_, n40_, n41_, n42_, n43_, n45_, n48_, n54_, n57_, n58_, n59_, n60_, n61_, n63_, n96_, n97_, n99_, n100_, n122_, n126_, n200_, n255_, n375_, n400_, n1000_, n2000_, n9999_, n5764801_, n1000000_, n3000_, m1, m2, le_t, le_f, lt_t, lt_f, eq_t, eq_f, no_lt, no_le, le_no, lt_no, eq_no, no_eq, add_no, wib_t, clamp, nI_add, pk_mul, pk_sub, nor_, nand_, ndif_, shl_, sh1_, shr_, tbn, tb0, tb1, les_t, les_f, pk_div, rem_, remv, and31, wu1, wuc, wui, wu2, ws1, wsc, ws2, wv1, n11_, n13_, n14_, n15_, n17_, n19_, n23_, n56_, n64_, fX11_nextToken_l224, fX11_nextToken_b286_224, v4, v5, sg]
        rfl)
    (by
      rintro _ v ⟨fv, v5, v4, v8⟩
      rw [show p + (gE gDi T p - p) = gE gDi T p by omega] at v4
      refine ⟨v, ?_, fv, v5, v4, v8⟩
      have sg := r_signAt (SZm_RJ hT fv) hW (i := gE gDi T p) (by omega)
      by_cases hq : gE gDi T p = T.1
      · rw [if_neg (by omega)] at sg
        simp (disch := omega) only [↓reduceIte, wlet, Option.bind_some, true_and, and_true, not_true_eq_false, not_false_eq_true, reduceCtorEq, n0_, n1_, n2_, n3_, n4_, n5_, n6_, n7_, n8_, n9_, n10_, n12_, n16_, n18_, n20_, n21_, n22_, n24_, n25_, n26_, n27_, n28_, n29_, n30_, n31_, n32_, n40_, n41_, n42_, n43_, n45_, n48_, n54_, n57_, n58_, n59_, n60_, n61_, n63_, n96_, n97_, n99_, n100_, n122_, n126_, n200_, n255_, n375_, n400_, n1000_, n2000_, n9999_, n5764801_, n1000000_, n3000_, m1, m2, le_t, le_f, lt_t, lt_f, eq_t, eq_f, no_lt, no_le, le_no, lt_no, eq_no, no_eq, add_no, wib_t, clamp, nI_add, pk_mul, pk_sub, nor_, nand_, ndif_, shl_, sh1_, shr_, tbn, tb0, tb1, les_t, les_f, pk_div, rem_, remv, and31, wu1, wuc, wui, wu2, ws1, wsc, ws2, wv1, n11_, n13_, n14_, n15_, n17_, n19_, n23_, n56_, n64_, fX11_nextToken_l224, v4, sg]
      · have hlt : gE gDi T p < T.1 := by omega
        rw [if_pos hlt] at sg
        have hv := w1 _ hlt
        have hs := p4 hlt
        unfold gDi at hs
        simp only [Bool.and_eq_false_iff, decide_eq_false_iff_not] at hs
        by_cases hq2 : 48 ≤ T.2 (gE gDi T p)
        · have hq3 : ¬ T.2 (gE gDi T p) ≤ 57 := by rcases hs with q | q; exact absurd hq2 q; exact q
          simp (disch := omega) only [↓reduceIte, wlet, Option.bind_some, true_and, and_true, not_true_eq_false, not_false_eq_true, reduceCtorEq, n0_, n1_, n2_, n3_, n4_, n5_, n6_, n7_, n8_, n9_, n10_, n12_, n16_, n18_, n20_, n21_, n22_, n24_, n25_, n26_, n27_, n28_, n29_, n30_, n31_, n32_, n40_, n41_, n42_, n43_, n45_, n48_, n54_, n57_, n58_, n59_, n60_, n61_, n63_, n96_, n97_, n99_, n100_, n122_, n126_, n200_, n255_, n375_, n400_, n1000_, n2000_, n9999_, n5764801_, n1000000_, n3000_, m1, m2, le_t, le_f, lt_t, lt_f, eq_t, eq_f, no_lt, no_le, le_no, lt_no, eq_no, no_eq, add_no, wib_t, clamp, nI_add, pk_mul, pk_sub, nor_, nand_, ndif_, shl_, sh1_, shr_, tbn, tb0, tb1, les_t, les_f, pk_div, rem_, remv, and31, wu1, wuc, wui, wu2, ws1, wsc, ws2, wv1, n11_, n13_, n14_, n15_, n17_, n19_, n23_, n56_, n64_, fX11_nextToken_l224, v4, sg]
        · simp (disch := omega) only [↓reduceIte, wlet, Option.bind_some, true_and, and_true, not_true_eq_false, not_false_eq_true, reduceCtorEq, n0_, n1_, n2_, n3_, n4_, n5_, n6_, n7_, n8_, n9_, n10_, n12_, n16_, n18_, n20_, n21_, n22_, n24_, n25_, n26_, n27_, n28_, n29_, n30_, n31_, n32_, n40_, n41_, n42_, n43_, n45_, n48_, n54_, n57_, n58_, n59_, n60_, n61_, n63_, n96_, n97_, n99_, n100_, n122_, n126_, n200_, n255_, n375_, n400_, n1000_, n2000_, n9999_, n5764801_, n1000000_, n3000_, m1, m2, le_t, le_f, lt_t, lt_f, eq_t, eq_f, no_lt, no_le, le_no, lt_no, eq_no, no_eq, add_no, wib_t, clamp, nI_add, pk_mul, pk_sub, nor_, nand_, ndif_, shl_, sh1_, shr_, tbn, tb0, tb1, les_t, les_f, pk_div, rem_, remv, and31, wu1, wuc, wui, wu2, ws1, wsc, ws2, wv1, n11_, n13_, n14_, n15_, n17_, n19_, n23_, n56_, n64_, fX11_nextToken_l224, v4, sg])
    (N := 3000) (by omega) (a0 := ()) (v0 := h) ⟨RJ_rf, h5, by rw [Nat.add_zero]; exact h4, fun _ => h8⟩
  exact ⟨e, he, e1, e2, e3, e4⟩
theorem r_nextAt (hT : SZm h T) (hW : WT T) (hb : b ≤ T.1) (h4 : h.1 188 4 = nI b) : ∃ g, fX11_nextToken h = some g ∧ SM g T b ∧ RJ h g := by
  have w0 := hW.1
  have w1 := hW.2
  obtain ⟨p1, p2⟩ := gPl_b hb
  obtain ⟨g1, e1, f1, g14⟩ := r_skip hT hW hb h4
  have f2 : RJ h (wuI (wuJ (wuI g1 188 5 (nI (gPl T b))) 188 7 (lN 0)) 188 8 (nI 0)) := RJ_tr f1 (RJ_tr (RJ_I (by omega)) (RJ_tr RJ_J (RJ_I (by omega))))
  have hT2 := SZm_RJ hT f2
  obtain ⟨t0, t1⟩ := id hT2
  have a4 : (wuI (wuJ (wuI g1 188 5 (nI (gPl T b))) 188 7 (lN 0)) 188 8 (nI 0)).1 188 4 = nI (gPl T b) := by rw [wui (by omega)]; show (wuI g1 188 5 (nI (gPl T b))).1 188 4 = _; rw [wui (by omega)]; exact g14
  have a5 : (wuI (wuJ (wuI g1 188 5 (nI (gPl T b))) 188 7 (lN 0)) 188 8 (nI 0)).1 188 5 = nI (gPl T b) := by rw [wui (by omega)]; show (wuI g1 188 5 (nI (gPl T b))).1 188 5 = _; rw [wu1]
  have a7 : (wuI (wuJ (wuI g1 188 5 (nI (gPl T b))) 188 7 (lN 0)) 188 8 (nI 0)).2 188 7 = lN 0 := by rw [wu2, wv2]
  have a8 : (wuI (wuJ (wuI g1 188 5 (nI (gPl T b))) 188 7 (lN 0)) 188 8 (nI 0)).1 188 8 = nI 0 := wu1
  have unf : ∀ g, (if (wuI (wuJ (wuI g1 188 5 (nI (gPl T b))) 188 7 (lN 0)) 188 8 (nI 0)).1 188 4 = (wuI (wuJ (wuI g1 188 5 (nI (gPl T b))) 188 7 (lN 0)) 188 8 (nI 0)).1 188 3 then some (wuI (wuI (wuJ (wuI g1 188 5 (nI (gPl T b))) 188 7 (lN 0)) 188 8 (nI 0)) 188 6 (nI 0)) else if wib ((wuI (wuJ (wuI g1 188 5 (nI (gPl T b))) 188 7 (lN 0)) 188 8 (nI 0)).1 188 4) 1000 then (if (wuI (wuJ (wuI g1 188 5 (nI (gPl T b))) 188 7 (lN 0)) 188 8 (nI 0)).1 189 ((wuI (wuJ (wuI g1 188 5 (nI (gPl T b))) 188 7 (lN 0)) 188 8 (nI 0)).1 188 4).toNatClampNeg < 97 then fX11_nextToken_b212 (wuI (wuJ (wuI g1 188 5 (nI (gPl T b))) 188 7 (lN 0)) 188 8 (nI 0)) ((wuI (wuJ (wuI g1 188 5 (nI (gPl T b))) 188 7 (lN 0)) 188 8 (nI 0)).1 189 ((wuI (wuJ (wuI g1 188 5 (nI (gPl T b))) 188 7 (lN 0)) 188 8 (nI 0)).1 188 4).toNatClampNeg) else if 122 < (wuI (wuJ (wuI g1 188 5 (nI (gPl T b))) 188 7 (lN 0)) 188 8 (nI 0)).1 189 ((wuI (wuJ (wuI g1 188 5 (nI (gPl T b))) 188 7 (lN 0)) 188 8 (nI 0)).1 188 4).toNatClampNeg then fX11_nextToken_b212 (wuI (wuJ (wuI g1 188 5 (nI (gPl T b))) 188 7 (lN 0)) 188 8 (nI 0)) ((wuI (wuJ (wuI g1 188 5 (nI (gPl T b))) 188 7 (lN 0)) 188 8 (nI 0)).1 189 ((wuI (wuJ (wuI g1 188 5 (nI (gPl T b))) 188 7 (lN 0)) 188 8 (nI 0)).1 188 4).toNatClampNeg) else (wit (fun v : (wSt) => fX11_nextToken_l109 v) 3000 (wuI (wuJ (wuI g1 188 5 (nI (gPl T b))) 188 7 (lN 0)) 188 8 (nI 0))).bind (fun ye45 => if ((ye45.1 188 4) - (ye45.1 188 5)) ≤ 8 then fX11_nextToken_b208 ye45 (1 : Int32) else fX11_nextToken_b208 ye45 (4 : Int32))) else none) = some g → fX11_nextToken h = some g := by
    intro g hg
    unfold fX11_nextToken
    rw [e1, Option.bind_some, g14]
    exact hg
  revert unf
  generalize wuI (wuJ (wuI g1 188 5 (nI (gPl T b))) 188 7 (lN 0)) 188 8 (nI 0) = x at *
  intro unf
  by_cases hE : gPl T b = T.1
  · have k0 : gTk T b = 0 := by unfold gTk; rw [if_pos hE]
    have k1 : gTe T b = gPl T b := by unfold gTe; rw [if_pos hE, hE]
    refine ⟨wuI x 188 6 (nI 0), unf _ ?_, ⟨⟨by rw [wui (by omega)]; exact t0, fun i hi => by rw [wuc (by omega)]; exact t1 i hi⟩, hW, hb, by rw [wu1, k0], by rw [wui (by omega)]; exact a5, by rw [wui (by omega), k1]; exact a4, fun q => by omega, fun q => by omega⟩, RJ_tr f2 (RJ_I (by omega))⟩
    simp (disch := omega) only [↓reduceIte, wlet, Option.bind_some, true_and, and_true, not_true_eq_false, not_false_eq_true, reduceCtorEq, n0_, n1_, n2_, n3_, n4_, n5_, n6_, n7_, n8_, n9_, n10_, n12_, n16_, n18_, n20_, n21_, n22_, n24_, n25_, n26_, n27_, n28_, n29_, n30_, n31_, n32_, n40_, n41_, n42_, n43_, n45_, n48_, n54_, n57_, n58_, n59_, n60_, n61_, n63_, n96_, n97_, n99_, n100_, n122_, n126_, n200_, n255_, n375_, n400_, n1000_, n2000_, n9999_, n5764801_, n1000000_, n3000_, m1, m2, le_t, le_f, lt_t, lt_f, eq_t, eq_f, no_lt, no_le, le_no, lt_no, eq_no, no_eq, add_no, wib_t, clamp, nI_add, pk_mul, pk_sub, nor_, nand_, ndif_, shl_, sh1_, shr_, tbn, tb0, tb1, les_t, les_f, pk_div, rem_, remv, and31, wu1, wuc, wui, wu2, ws1, wsc, ws2, wv1, n11_, n13_, n14_, n15_, n17_, n19_, n23_, n56_, n64_, a4, t0, hE]
  · have hlt : gPl T b < T.1 := by omega
    have hv := w1 _ hlt
    have t2 := t1 _ hlt
    cases hL : gLe (T.2 (gPl T b)) with
    | true =>
      have hL2 := hL
      unfold gLe at hL2
      simp only [Bool.and_eq_true, decide_eq_true_eq] at hL2
      obtain ⟨g, eg, fg, g5, g4, g7⟩ := r_letters hT2 hW hlt a5 a4 a7
      have k1 : gTe T b = gE gLe T (gPl T b) := by unfold gTe; rw [if_neg hE, if_pos hL]
      have k0 : gTk T b = if gE gLe T (gPl T b) - gPl T b ≤ 8 then 1 else 4 := by unfold gTk; rw [if_neg hE, if_pos hL, k1]
      obtain ⟨b1, b2, -, -⟩ := gE_b gLe (T := T) (i := gPl T b) p2
      have hT3 := SZm_RJ hT2 fg
      refine ⟨wuI g 188 6 (nI (gTk T b)), unf _ ?_, ⟨⟨by rw [wui (by omega)]; exact hT3.1, fun i hi => by rw [wuc (by omega)]; exact hT3.2 i hi⟩, hW, hb, wu1, by rw [wui (by omega)]; exact g5, by rw [wui (by omega), k1]; exact g4, fun q => ?_, fun q => ?_⟩, RJ_tr f2 (RJ_tr fg (RJ_I (by omega)))⟩
      · rw [k0]
        by_cases hq : gE gLe T (gPl T b) - gPl T b ≤ 8
        · rw [if_pos hq]
          simp (disch := omega) only [↓reduceIte, wlet, Option.bind_some, true_and, and_true, not_true_eq_false, not_false_eq_true, reduceCtorEq, n0_, n1_, n2_, n3_, n4_, n5_, n6_, n7_, n8_, n9_, n10_, n12_, n16_, n18_, n20_, n21_, n22_, n24_, n25_, n26_, n27_, n28_, n29_, n30_, n31_, n32_, n40_, n41_, n42_, n43_, n45_, n48_, n54_, n57_, n58_, n59_, n60_, n61_, n63_, n96_, n97_, n99_, n100_, n122_, n126_, n200_, n255_, n375_, n400_, n1000_, n2000_, n9999_, n5764801_, n1000000_, n3000_, m1, m2, le_t, le_f, lt_t, lt_f, eq_t, eq_f, no_lt, no_le, le_no, lt_no, eq_no, no_eq, add_no, wib_t, clamp, nI_add, pk_mul, pk_sub, nor_, nand_, ndif_, shl_, sh1_, shr_, tbn, tb0, tb1, les_t, les_f, pk_div, rem_, remv, and31, wu1, wuc, wui, wu2, ws1, wsc, ws2, wv1, n11_, n13_, n14_, n15_, n17_, n19_, n23_, n56_, n64_, a4, t0, t2, eg, g4, g5, fX11_nextToken_b208]
        · rw [if_neg hq]
          simp (disch := omega) only [↓reduceIte, wlet, Option.bind_some, true_and, and_true, not_true_eq_false, not_false_eq_true, reduceCtorEq, n0_, n1_, n2_, n3_, n4_, n5_, n6_, n7_, n8_, n9_, n10_, n12_, n16_, n18_, n20_, n21_, n22_, n24_, n25_, n26_, n27_, n28_, n29_, n30_, n31_, n32_, n40_, n41_, n42_, n43_, n45_, n48_, n54_, n57_, n58_, n59_, n60_, n61_, n63_, n96_, n97_, n99_, n100_, n122_, n126_, n200_, n255_, n375_, n400_, n1000_, n2000_, n9999_, n5764801_, n1000000_, n3000_, m1, m2, le_t, le_f, lt_t, lt_f, eq_t, eq_f, no_lt, no_le, le_no, lt_no, eq_no, no_eq, add_no, wib_t, clamp, nI_add, pk_mul, pk_sub, nor_, nand_, ndif_, shl_, sh1_, shr_, tbn, tb0, tb1, les_t, les_f, pk_div, rem_, remv, and31, wu1, wuc, wui, wu2, ws1, wsc, ws2, wv1, n11_, n13_, n14_, n15_, n17_, n19_, n23_, n56_, n64_, a4, t0, t2, eg, g4, g5, fX11_nextToken_b208]
      · rw [k0] at q
        split at q <;> omega
      · unfold gTw
        rw [k1]
        apply g7
        apply Nat.le_of_not_lt
        intro hh
        rw [k0, if_neg (by omega)] at q
        omega
    | false =>
      have hL2 := hL
      unfold gLe at hL2
      simp only [Bool.and_eq_false_iff, decide_eq_false_iff_not] at hL2
      have hskip : ∀ (g : wSt), fX11_nextToken_b212 x (nI (T.2 (gPl T b))) = some g → fX11_nextToken h = some g := by
        intro g hg
        apply unf
        by_cases hq : 97 ≤ T.2 (gPl T b)
        · have hq3 : ¬ T.2 (gPl T b) ≤ 122 := by rcases hL2 with q | q; exact absurd hq q; exact q
          simp (disch := omega) only [↓reduceIte, wlet, Option.bind_some, true_and, and_true, not_true_eq_false, not_false_eq_true, reduceCtorEq, n0_, n1_, n2_, n3_, n4_, n5_, n6_, n7_, n8_, n9_, n10_, n12_, n16_, n18_, n20_, n21_, n22_, n24_, n25_, n26_, n27_, n28_, n29_, n30_, n31_, n32_, n40_, n41_, n42_, n43_, n45_, n48_, n54_, n57_, n58_, n59_, n60_, n61_, n63_, n96_, n97_, n99_, n100_, n122_, n126_, n200_, n255_, n375_, n400_, n1000_, n2000_, n9999_, n5764801_, n1000000_, n3000_, m1, m2, le_t, le_f, lt_t, lt_f, eq_t, eq_f, no_lt, no_le, le_no, lt_no, eq_no, no_eq, add_no, wib_t, clamp, nI_add, pk_mul, pk_sub, nor_, nand_, ndif_, shl_, sh1_, shr_, tbn, tb0, tb1, les_t, les_f, pk_div, rem_, remv, and31, wu1, wuc, wui, wu2, ws1, wsc, ws2, wv1, n11_, n13_, n14_, n15_, n17_, n19_, n23_, n56_, n64_, a4, t0, t2, hg]
        · simp (disch := omega) only [↓reduceIte, wlet, Option.bind_some, true_and, and_true, not_true_eq_false, not_false_eq_true, reduceCtorEq, n0_, n1_, n2_, n3_, n4_, n5_, n6_, n7_, n8_, n9_, n10_, n12_, n16_, n18_, n20_, n21_, n22_, n24_, n25_, n26_, n27_, n28_, n29_, n30_, n31_, n32_, n40_, n41_, n42_, n43_, n45_, n48_, n54_, n57_, n58_, n59_, n60_, n61_, n63_, n96_, n97_, n99_, n100_, n122_, n126_, n200_, n255_, n375_, n400_, n1000_, n2000_, n9999_, n5764801_, n1000000_, n3000_, m1, m2, le_t, le_f, lt_t, lt_f, eq_t, eq_f, no_lt, no_le, le_no, lt_no, eq_no, no_eq, add_no, wib_t, clamp, nI_add, pk_mul, pk_sub, nor_, nand_, ndif_, shl_, sh1_, shr_, tbn, tb0, tb1, les_t, les_f, pk_div, rem_, remv, and31, wu1, wuc, wui, wu2, ws1, wsc, ws2, wv1, n11_, n13_, n14_, n15_, n17_, n19_, n23_, n56_, n64_, a4, t0, t2, hg]
      cases hD : gDi (T.2 (gPl T b)) with
      | true =>
        have hD2 := hD
        unfold gDi at hD2
        simp only [Bool.and_eq_true, decide_eq_true_eq] at hD2
        obtain ⟨g, eg, fg, g5, g4, g8⟩ := r_digits hT2 hW hlt a5 a4 a8
        have k1 : gTe T b = gE gDi T (gPl T b) := by unfold gTe; rw [if_neg hE, hL, if_neg (by decide), if_pos hD]
        have k0 : gTk T b = if gE gDi T (gPl T b) - gPl T b ≤ 4 then 2 else 4 := by unfold gTk; rw [if_neg hE, hL, if_neg (by decide), if_pos hD, k1]
        obtain ⟨b1, b2, -, -⟩ := gE_b gDi (T := T) (i := gPl T b) p2
        have hT3 := SZm_RJ hT2 fg
        refine ⟨wuI g 188 6 (nI (gTk T b)), hskip _ ?_, ⟨⟨by rw [wui (by omega)]; exact hT3.1, fun i hi => by rw [wuc (by omega)]; exact hT3.2 i hi⟩, hW, hb, wu1, by rw [wui (by omega)]; exact g5, by rw [wui (by omega), k1]; exact g4, fun q => ?_, fun q => ?_⟩, RJ_tr f2 (RJ_tr fg (RJ_I (by omega)))⟩
        · rw [k0]
          by_cases hq : gE gDi T (gPl T b) - gPl T b ≤ 4
          · rw [if_pos hq]
            simp (disch := omega) only [↓reduceIte, wlet, Option.bind_some, true_and, and_true, not_true_eq_false, not_false_eq_true, reduceCtorEq, n0_, n1_, n2_, n3_, n4_, n5_, n6_, n7_, n8_, n9_, n10_, n12_, n16_, n18_, n20_, n21_, n22_, n24_, n25_, n26_, n27_, n28_, n29_, n30_, n31_, n32_, n40_, n41_, n42_, n43_, n45_, n48_, n54_, n57_, n58_, n59_, n60_, n61_, n63_, n96_, n97_, n99_, n100_, n122_, n126_, n200_, n255_, n375_, n400_, n1000_, n2000_, n9999_, n5764801_, n1000000_, n3000_, m1, m2, le_t, le_f, lt_t, lt_f, eq_t, eq_f, no_lt, no_le, le_no, lt_no, eq_no, no_eq, add_no, wib_t, clamp, nI_add, pk_mul, pk_sub, nor_, nand_, ndif_, shl_, sh1_, shr_, tbn, tb0, tb1, les_t, les_f, pk_div, rem_, remv, and31, wu1, wuc, wui, wu2, ws1, wsc, ws2, wv1, n11_, n13_, n14_, n15_, n17_, n19_, n23_, n56_, n64_, fX11_nextToken_b212, eg, g4, g5, fX11_nextToken_b318]
          · rw [if_neg hq]
            simp (disch := omega) only [↓reduceIte, wlet, Option.bind_some, true_and, and_true, not_true_eq_false, not_false_eq_true, reduceCtorEq, n0_, n1_, n2_, n3_, n4_, n5_, n6_, n7_, n8_, n9_, n10_, n12_, n16_, n18_, n20_, n21_, n22_, n24_, n25_, n26_, n27_, n28_, n29_, n30_, n31_, n32_, n40_, n41_, n42_, n43_, n45_, n48_, n54_, n57_, n58_, n59_, n60_, n61_, n63_, n96_, n97_, n99_, n100_, n122_, n126_, n200_, n255_, n375_, n400_, n1000_, n2000_, n9999_, n5764801_, n1000000_, n3000_, m1, m2, le_t, le_f, lt_t, lt_f, eq_t, eq_f, no_lt, no_le, le_no, lt_no, eq_no, no_eq, add_no, wib_t, clamp, nI_add, pk_mul, pk_sub, nor_, nand_, ndif_, shl_, sh1_, shr_, tbn, tb0, tb1, les_t, les_f, pk_div, rem_, remv, and31, wu1, wuc, wui, wu2, ws1, wsc, ws2, wv1, n11_, n13_, n14_, n15_, n17_, n19_, n23_, n56_, n64_, fX11_nextToken_b212, eg, g4, g5, fX11_nextToken_b318]
        · rw [wui (by omega)]
          unfold gTn
          rw [k1]
          apply g8
          apply Nat.le_of_not_lt
          intro hh
          rw [k0, if_neg (by omega)] at q
          omega
        · rw [k0] at q
          split at q <;> omega
      | false =>
        have hD2 := hD
        unfold gDi at hD2
        simp only [Bool.and_eq_false_iff, decide_eq_false_iff_not] at hD2
        have k1 : gTe T b = gPl T b + 1 := by unfold gTe; rw [if_neg hE, hL, if_neg (by decide), hD, if_neg (by decide)]
        have k0 : gTk T b = if gSg (T.2 (gPl T b)) then 3 else 4 := by unfold gTk; rw [if_neg hE, hL, if_neg (by decide), hD, if_neg (by decide)]
        have e322 : fX11_nextToken_b322 x (nI (T.2 (gPl T b))) = some (wuI (wuI x 188 4 (nI (gPl T b + 1))) 188 6 (nI (gTk T b))) := by
          rw [k0]
          cases hg : gSg (T.2 (gPl T b)) with
          | true =>
            rw [if_pos rfl]
            unfold gSg at hg
            simp only [Bool.or_eq_true, Bool.and_eq_true, decide_eq_true_eq] at hg
            rcases hg with ⟨q1, q2⟩ | q | ⟨q1, q2⟩
            · simp (disch := omega) only [↓reduceIte, wlet, Option.bind_some, true_and, and_true, not_true_eq_false, not_false_eq_true, reduceCtorEq, n0_, n1_, n2_, n3_, n4_, n5_, n6_, n7_, n8_, n9_, n10_, n12_, n16_, n18_, n20_, n21_, n22_, n24_, n25_, n26_, n27_, n28_, n29_, n30_, n31_, n32_, n40_, n41_, n42_, n43_, n45_, n48_, n54_, n57_, n58_, n59_, n60_, n61_, n63_, n96_, n97_, n99_, n100_, n122_, n126_, n200_, n255_, n375_, n400_, n1000_, n2000_, n9999_, n5764801_, n1000000_, n3000_, m1, m2, le_t, le_f, lt_t, lt_f, eq_t, eq_f, no_lt, no_le, le_no, lt_no, eq_no, no_eq, add_no, wib_t, clamp, nI_add, pk_mul, pk_sub, nor_, nand_, ndif_, shl_, sh1_, shr_, tbn, tb0, tb1, les_t, les_f, pk_div, rem_, remv, and31, wu1, wuc, wui, wu2, ws1, wsc, ws2, wv1, n11_, n13_, n14_, n15_, n17_, n19_, n23_, n56_, n64_, fX11_nextToken_b322, fX11_nextToken_b345, fX11_nextToken_b363, fX11_nextToken_b367, fX11_nextToken_b368, a4]
            · simp (disch := omega) only [↓reduceIte, wlet, Option.bind_some, true_and, and_true, not_true_eq_false, not_false_eq_true, reduceCtorEq, n0_, n1_, n2_, n3_, n4_, n5_, n6_, n7_, n8_, n9_, n10_, n12_, n16_, n18_, n20_, n21_, n22_, n24_, n25_, n26_, n27_, n28_, n29_, n30_, n31_, n32_, n40_, n41_, n42_, n43_, n45_, n48_, n54_, n57_, n58_, n59_, n60_, n61_, n63_, n96_, n97_, n99_, n100_, n122_, n126_, n200_, n255_, n375_, n400_, n1000_, n2000_, n9999_, n5764801_, n1000000_, n3000_, m1, m2, le_t, le_f, lt_t, lt_f, eq_t, eq_f, no_lt, no_le, le_no, lt_no, eq_no, no_eq, add_no, wib_t, clamp, nI_add, pk_mul, pk_sub, nor_, nand_, ndif_, shl_, sh1_, shr_, tbn, tb0, tb1, les_t, les_f, pk_div, rem_, remv, and31, wu1, wuc, wui, wu2, ws1, wsc, ws2, wv1, n11_, n13_, n14_, n15_, n17_, n19_, n23_, n56_, n64_, fX11_nextToken_b322, fX11_nextToken_b345, fX11_nextToken_b363, fX11_nextToken_b367, fX11_nextToken_b368, a4, q]
            · simp (disch := omega) only [↓reduceIte, wlet, Option.bind_some, true_and, and_true, not_true_eq_false, not_false_eq_true, reduceCtorEq, n0_, n1_, n2_, n3_, n4_, n5_, n6_, n7_, n8_, n9_, n10_, n12_, n16_, n18_, n20_, n21_, n22_, n24_, n25_, n26_, n27_, n28_, n29_, n30_, n31_, n32_, n40_, n41_, n42_, n43_, n45_, n48_, n54_, n57_, n58_, n59_, n60_, n61_, n63_, n96_, n97_, n99_, n100_, n122_, n126_, n200_, n255_, n375_, n400_, n1000_, n2000_, n9999_, n5764801_, n1000000_, n3000_, m1, m2, le_t, le_f, lt_t, lt_f, eq_t, eq_f, no_lt, no_le, le_no, lt_no, eq_no, no_eq, add_no, wib_t, clamp, nI_add, pk_mul, pk_sub, nor_, nand_, ndif_, shl_, sh1_, shr_, tbn, tb0, tb1, les_t, les_f, pk_div, rem_, remv, and31, wu1, wuc, wui, wu2, ws1, wsc, ws2, wv1, n11_, n13_, n14_, n15_, n17_, n19_, n23_, n56_, n64_, fX11_nextToken_b322, fX11_nextToken_b345, fX11_nextToken_b363, fX11_nextToken_b367, fX11_nextToken_b368, a4]
          | false =>
            rw [if_neg (by decide)]
            unfold gSg at hg
            simp only [Bool.or_eq_false_iff, Bool.and_eq_false_iff, decide_eq_false_iff_not] at hg
            obtain ⟨q1, q2, q3⟩ := hg
            by_cases r1 : T.2 (gPl T b) < 40
            · simp (disch := omega) only [↓reduceIte, wlet, Option.bind_some, true_and, and_true, not_true_eq_false, not_false_eq_true, reduceCtorEq, n0_, n1_, n2_, n3_, n4_, n5_, n6_, n7_, n8_, n9_, n10_, n12_, n16_, n18_, n20_, n21_, n22_, n24_, n25_, n26_, n27_, n28_, n29_, n30_, n31_, n32_, n40_, n41_, n42_, n43_, n45_, n48_, n54_, n57_, n58_, n59_, n60_, n61_, n63_, n96_, n97_, n99_, n100_, n122_, n126_, n200_, n255_, n375_, n400_, n1000_, n2000_, n9999_, n5764801_, n1000000_, n3000_, m1, m2, le_t, le_f, lt_t, lt_f, eq_t, eq_f, no_lt, no_le, le_no, lt_no, eq_no, no_eq, add_no, wib_t, clamp, nI_add, pk_mul, pk_sub, nor_, nand_, ndif_, shl_, sh1_, shr_, tbn, tb0, tb1, les_t, les_f, pk_div, rem_, remv, and31, wu1, wuc, wui, wu2, ws1, wsc, ws2, wv1, n11_, n13_, n14_, n15_, n17_, n19_, n23_, n56_, n64_, fX11_nextToken_b322, fX11_nextToken_b345, fX11_nextToken_b363, fX11_nextToken_b367, fX11_nextToken_b368, a4]
            · have r2 : 43 < T.2 (gPl T b) := by omega
              by_cases r3 : T.2 (gPl T b) < 59
              · simp (disch := omega) only [↓reduceIte, wlet, Option.bind_some, true_and, and_true, not_true_eq_false, not_false_eq_true, reduceCtorEq, n0_, n1_, n2_, n3_, n4_, n5_, n6_, n7_, n8_, n9_, n10_, n12_, n16_, n18_, n20_, n21_, n22_, n24_, n25_, n26_, n27_, n28_, n29_, n30_, n31_, n32_, n40_, n41_, n42_, n43_, n45_, n48_, n54_, n57_, n58_, n59_, n60_, n61_, n63_, n96_, n97_, n99_, n100_, n122_, n126_, n200_, n255_, n375_, n400_, n1000_, n2000_, n9999_, n5764801_, n1000000_, n3000_, m1, m2, le_t, le_f, lt_t, lt_f, eq_t, eq_f, no_lt, no_le, le_no, lt_no, eq_no, no_eq, add_no, wib_t, clamp, nI_add, pk_mul, pk_sub, nor_, nand_, ndif_, shl_, sh1_, shr_, tbn, tb0, tb1, les_t, les_f, pk_div, rem_, remv, and31, wu1, wuc, wui, wu2, ws1, wsc, ws2, wv1, n11_, n13_, n14_, n15_, n17_, n19_, n23_, n56_, n64_, fX11_nextToken_b322, fX11_nextToken_b345, fX11_nextToken_b363, fX11_nextToken_b367, fX11_nextToken_b368, a4]
              · have r4 : 61 < T.2 (gPl T b) := by omega
                simp (disch := omega) only [↓reduceIte, wlet, Option.bind_some, true_and, and_true, not_true_eq_false, not_false_eq_true, reduceCtorEq, n0_, n1_, n2_, n3_, n4_, n5_, n6_, n7_, n8_, n9_, n10_, n12_, n16_, n18_, n20_, n21_, n22_, n24_, n25_, n26_, n27_, n28_, n29_, n30_, n31_, n32_, n40_, n41_, n42_, n43_, n45_, n48_, n54_, n57_, n58_, n59_, n60_, n61_, n63_, n96_, n97_, n99_, n100_, n122_, n126_, n200_, n255_, n375_, n400_, n1000_, n2000_, n9999_, n5764801_, n1000000_, n3000_, m1, m2, le_t, le_f, lt_t, lt_f, eq_t, eq_f, no_lt, no_le, le_no, lt_no, eq_no, no_eq, add_no, wib_t, clamp, nI_add, pk_mul, pk_sub, nor_, nand_, ndif_, shl_, sh1_, shr_, tbn, tb0, tb1, les_t, les_f, pk_div, rem_, remv, and31, wu1, wuc, wui, wu2, ws1, wsc, ws2, wv1, n11_, n13_, n14_, n15_, n17_, n19_, n23_, n56_, n64_, fX11_nextToken_b322, fX11_nextToken_b345, fX11_nextToken_b363, fX11_nextToken_b367, fX11_nextToken_b368, a4]
        refine ⟨wuI (wuI x 188 4 (nI (gPl T b + 1))) 188 6 (nI (gTk T b)), hskip _ ?_, ⟨⟨by rw [wui (by omega), wui (by omega)]; exact t0, fun i hi => by rw [wuc (by omega), wuc (by omega)]; exact t1 i hi⟩, hW, hb, wu1, by rw [wui (by omega), wui (by omega)]; exact a5, by rw [wui (by omega), wu1, k1], fun q => ?_, fun q => ?_⟩, RJ_tr f2 (RJ_tr (RJ_I (by omega)) (RJ_I (by omega)))⟩
        · by_cases hq : 48 ≤ T.2 (gPl T b)
          · have hq3 : ¬ T.2 (gPl T b) ≤ 57 := by rcases hD2 with q | q; exact absurd hq q; exact q
            simp (disch := omega) only [↓reduceIte, wlet, Option.bind_some, true_and, and_true, not_true_eq_false, not_false_eq_true, reduceCtorEq, n0_, n1_, n2_, n3_, n4_, n5_, n6_, n7_, n8_, n9_, n10_, n12_, n16_, n18_, n20_, n21_, n22_, n24_, n25_, n26_, n27_, n28_, n29_, n30_, n31_, n32_, n40_, n41_, n42_, n43_, n45_, n48_, n54_, n57_, n58_, n59_, n60_, n61_, n63_, n96_, n97_, n99_, n100_, n122_, n126_, n200_, n255_, n375_, n400_, n1000_, n2000_, n9999_, n5764801_, n1000000_, n3000_, m1, m2, le_t, le_f, lt_t, lt_f, eq_t, eq_f, no_lt, no_le, le_no, lt_no, eq_no, no_eq, add_no, wib_t, clamp, nI_add, pk_mul, pk_sub, nor_, nand_, ndif_, shl_, sh1_, shr_, tbn, tb0, tb1, les_t, les_f, pk_div, rem_, remv, and31, wu1, wuc, wui, wu2, ws1, wsc, ws2, wv1, n11_, n13_, n14_, n15_, n17_, n19_, n23_, n56_, n64_, fX11_nextToken_b212, e322]
          · simp (disch := omega) only [↓reduceIte, wlet, Option.bind_some, true_and, and_true, not_true_eq_false, not_false_eq_true, reduceCtorEq, n0_, n1_, n2_, n3_, n4_, n5_, n6_, n7_, n8_, n9_, n10_, n12_, n16_, n18_, n20_, n21_, n22_, n24_, n25_, n26_, n27_, n28_, n29_, n30_, n31_, n32_, n40_, n41_, n42_, n43_, n45_, n48_, n54_, n57_, n58_, n59_, n60_, n61_, n63_, n96_, n97_, n99_, n100_, n122_, n126_, n200_, n255_, n375_, n400_, n1000_, n2000_, n9999_, n5764801_, n1000000_, n3000_, m1, m2, le_t, le_f, lt_t, lt_f, eq_t, eq_f, no_lt, no_le, le_no, lt_no, eq_no, no_eq, add_no, wib_t, clamp, nI_add, pk_mul, pk_sub, nor_, nand_, ndif_, shl_, sh1_, shr_, tbn, tb0, tb1, les_t, les_f, pk_div, rem_, remv, and31, wu1, wuc, wui, wu2, ws1, wsc, ws2, wv1, n11_, n13_, n14_, n15_, n17_, n19_, n23_, n56_, n64_, fX11_nextToken_b212, e322]
        · rw [k0] at q
          split at q <;> omega
        · rw [k0] at q
          split at q <;> omega
theorem r_next (hs : SM h T b) : ∃ g, fX11_nextToken h = some g ∧ SM g T (gTe T b) ∧ RJ h g := r_nextAt hs.1 hs.2.1 (gTe_b hs.2.2.1).2.1 hs.2.2.2.2.2.1
end G58

/-! SCRAPING, stripping, copying, beginning -/
section G35
variable {h : wSt} {L : gLib} {k : Nat} {S : gSh}
theorem gWear_le (hW : WL L) (hV : WS L S) (o : Nat) {i : Nat} (hi : i < 3) : ∀ n, n ≤ 6 → (gF (gWearSt L S o i) n (0, 0)).1 ≤ 1 ∧ (gF (gWearSt L S o i) n (0, 0)).2 ≤ 1
  | 0, _ => ⟨Nat.zero_le _, Nat.zero_le _⟩
  | n + 1, hn => by
    obtain ⟨a1, a2⟩ := gWear_le hW hV o hi n (by omega)
    have v2 := (hV.2.2.1 (6 * i + n) (by omega)).2
    rw [gF, gWearSt]
    split
    · split
      · exact ⟨a1, a2⟩
      · rename_i t l hl
        have ht := v2 t (by rw [hl]; simp)
        have := (hW.2.2.2.2.1 t ht).2.1
        refine ⟨or_le1 a1 this, or_le1 a2 ?_⟩
        split <;> omega
    · exact ⟨a1, a2⟩
theorem gWear_b (hW : WL L) (hV : WS L S) (o : Nat) {i : Nat} (hi : i < 3) : 1 ≤ gWear L S o i ∧ gWear L S o i ≤ 3 := by
  have := gWear_le hW hV o hi 6 (by omega)
  unfold gWear
  omega
theorem c_wear (hx : CX h L k S) {i o : Nat} (hi : i < gns L) (ho : o < 64) : fX6_wearOf h k (nI i) (nI o) = some (nI (gWear L S o i)) := by
  obtain ⟨hW, hC, hV, hS, hk⟩ := id hx
  have n1 := hW.1
  have n2 := hW.2.1
  obtain ⟨e, he, eg⟩ := wit_for (b := fun v : (Int32 × Int32 × Int32) => fX6_wearOf_l8 h k (nI i) (nI o) v.1 v.2.1 v.2.2) (gWearSt L S o i) 6
    (fun j a v => v = (nI a.1, nI a.2, nI j)) (fun a e => e = (nI a.1, nI a.2))
    (by
      rintro j ⟨a, b⟩ v hj rfl
      obtain ⟨s1, s2⟩ := hS.2.2 (6 * i + j) (by omega)
      obtain ⟨v1, v2⟩ := hV.2.2.1 (6 * i + j) (by omega)
      refine ⟨_, ?_, rfl⟩
      unfold gWearSt
      cases hb : o.testBit j with
      | false => simp (disch := omega) only [↓reduceIte, wlet, Option.bind_some, true_and, and_true, not_true_eq_false, not_false_eq_true, reduceCtorEq, n0_, n1_, n2_, n3_, n4_, n5_, n6_, n7_, n8_, n9_, n10_, n12_, n16_, n18_, n20_, n21_, n22_, n24_, n25_, n26_, n27_, n28_, n29_, n30_, n31_, n32_, n40_, n41_, n42_, n43_, n45_, n48_, n54_, n57_, n58_, n59_, n60_, n61_, n63_, n96_, n97_, n99_, n100_, n122_, n126_, n200_, n255_, n375_, n400_, n1000_, n2000_, n9999_, n5764801_, n1000000_, n3000_, m1, m2, le_t, le_f, lt_t, lt_f, eq_t, eq_f, no_lt, no_le, le_no, lt_no, eq_no, no_eq, add_no, wib_t, clamp, nI_add, pk_mul, pk_sub, nor_, nand_, ndif_, shl_, sh1_, shr_, tbn, tb0, tb1, les_t, les_f, pk_div, rem_, remv, and31, wu1, wuc, wui, wu2, ws1, wsc, ws2, wv1, n11_, n13_, n14_, n15_, n17_, n19_, n23_, n56_, n64_, fX6_wearOf_l8, fX6_wearOf_b97_8, hb, Bool.false_eq_true]
      | true =>
        cases hl : S.2.2.2 (6 * i + j) with
        | nil =>
          rw [hl] at s1
          simp (disch := omega) only [↓reduceIte, wlet, Option.bind_some, true_and, and_true, not_true_eq_false, not_false_eq_true, reduceCtorEq, n0_, n1_, n2_, n3_, n4_, n5_, n6_, n7_, n8_, n9_, n10_, n12_, n16_, n18_, n20_, n21_, n22_, n24_, n25_, n26_, n27_, n28_, n29_, n30_, n31_, n32_, n40_, n41_, n42_, n43_, n45_, n48_, n54_, n57_, n58_, n59_, n60_, n61_, n63_, n96_, n97_, n99_, n100_, n122_, n126_, n200_, n255_, n375_, n400_, n1000_, n2000_, n9999_, n5764801_, n1000000_, n3000_, m1, m2, le_t, le_f, lt_t, lt_f, eq_t, eq_f, no_lt, no_le, le_no, lt_no, eq_no, no_eq, add_no, wib_t, clamp, nI_add, pk_mul, pk_sub, nor_, nand_, ndif_, shl_, sh1_, shr_, tbn, tb0, tb1, les_t, les_f, pk_div, rem_, remv, and31, wu1, wuc, wui, wu2, ws1, wsc, ws2, wv1, n11_, n13_, n14_, n15_, n17_, n19_, n23_, n56_, n64_, fX6_wearOf_l8, fX6_wearOf_b97_8, hb, s1, List.length_nil, Bool.true_eq_false]
        | cons t l =>
          have a1 := c_layerAt hx (p := 6 * i + j) (by omega) (l0 := []) (t := t) (l := l) (by rw [hl]; rfl)
          rw [hl, List.length_cons] at s1
          have hn : l.length + 1 ≤ 9 := by rw [hl, List.length_cons] at v1; exact v1
          have ht := v2 t (by rw [hl]; simp)
          obtain ⟨k1, k2, -⟩ := hC.2.2.2.2.1 t ht
          have k3 := (hW.2.2.2.2.1 t ht).1
          by_cases hq : gkd L t = 3
          · simp (disch := omega) only [↓reduceIte, wlet, Option.bind_some, true_and, and_true, not_true_eq_false, not_false_eq_true, reduceCtorEq, n0_, n1_, n2_, n3_, n4_, n5_, n6_, n7_, n8_, n9_, n10_, n12_, n16_, n18_, n20_, n21_, n22_, n24_, n25_, n26_, n27_, n28_, n29_, n30_, n31_, n32_, n40_, n41_, n42_, n43_, n45_, n48_, n54_, n57_, n58_, n59_, n60_, n61_, n63_, n96_, n97_, n99_, n100_, n122_, n126_, n200_, n255_, n375_, n400_, n1000_, n2000_, n9999_, n5764801_, n1000000_, n3000_, m1, m2, le_t, le_f, lt_t, lt_f, eq_t, eq_f, no_lt, no_le, le_no, lt_no, eq_no, no_eq, add_no, wib_t, clamp, nI_add, pk_mul, pk_sub, nor_, nand_, ndif_, shl_, sh1_, shr_, tbn, tb0, tb1, les_t, les_f, pk_div, rem_, remv, and31, wu1, wuc, wui, wu2, ws1, wsc, ws2, wv1, n11_, n13_, n14_, n15_, n17_, n19_, n23_, n56_, n64_, fX6_wearOf_l8, fX6_wearOf_b97_8, fX6_wearOf_b94_8, hb, s1, a1, k1, k2, hq, Nat.add_sub_cancel, Bool.true_eq_false]
          · simp (disch := omega) only [↓reduceIte, wlet, Option.bind_some, true_and, and_true, not_true_eq_false, not_false_eq_true, reduceCtorEq, n0_, n1_, n2_, n3_, n4_, n5_, n6_, n7_, n8_, n9_, n10_, n12_, n16_, n18_, n20_, n21_, n22_, n24_, n25_, n26_, n27_, n28_, n29_, n30_, n31_, n32_, n40_, n41_, n42_, n43_, n45_, n48_, n54_, n57_, n58_, n59_, n60_, n61_, n63_, n96_, n97_, n99_, n100_, n122_, n126_, n200_, n255_, n375_, n400_, n1000_, n2000_, n9999_, n5764801_, n1000000_, n3000_, m1, m2, le_t, le_f, lt_t, lt_f, eq_t, eq_f, no_lt, no_le, le_no, lt_no, eq_no, no_eq, add_no, wib_t, clamp, nI_add, pk_mul, pk_sub, nor_, nand_, ndif_, shl_, sh1_, shr_, tbn, tb0, tb1, les_t, les_f, pk_div, rem_, remv, and31, wu1, wuc, wui, wu2, ws1, wsc, ws2, wv1, n11_, n13_, n14_, n15_, n17_, n19_, n23_, n56_, n64_, fX6_wearOf_l8, fX6_wearOf_b97_8, fX6_wearOf_b94_8, hb, s1, a1, k1, k2, hq, Nat.add_sub_cancel, Bool.true_eq_false])
    (by
      rintro ⟨a, b⟩ v rfl
      refine ⟨_, ?_, rfl⟩
      simp (disch := omega) only [↓reduceIte, wlet, Option.bind_some, true_and, and_true, not_true_eq_false, not_false_eq_true, reduceCtorEq, n0_, n1_, n2_, n3_, n4_, n5_, n6_, n7_, n8_, n9_, n10_, n12_, n16_, n18_, n20_, n21_, n22_, n24_, n25_, n26_, n27_, n28_, n29_, n30_, n31_, n32_, n40_, n41_, n42_, n43_, n45_, n48_, n54_, n57_, n58_, n59_, n60_, n61_, n63_, n96_, n97_, n99_, n100_, n122_, n126_, n200_, n255_, n375_, n400_, n1000_, n2000_, n9999_, n5764801_, n1000000_, n3000_, m1, m2, le_t, le_f, lt_t, lt_f, eq_t, eq_f, no_lt, no_le, le_no, lt_no, eq_no, no_eq, add_no, wib_t, clamp, nI_add, pk_mul, pk_sub, nor_, nand_, ndif_, shl_, sh1_, shr_, tbn, tb0, tb1, les_t, les_f, pk_div, rem_, remv, and31, wu1, wuc, wui, wu2, ws1, wsc, ws2, wv1, n11_, n13_, n14_, n15_, n17_, n19_, n23_, n56_, n64_, fX6_wearOf_l8])
    (N := 3000) (by omega) (a0 := (0, 0)) (v0 := (nI 0, nI 0, nI 0)) rfl
  simp (disch := omega) only [↓reduceIte, wlet, Option.bind_some, true_and, and_true, not_true_eq_false, not_false_eq_true, reduceCtorEq, n0_, n1_, n2_, n3_, n4_, n5_, n6_, n7_, n8_, n9_, n10_, n12_, n16_, n18_, n20_, n21_, n22_, n24_, n25_, n26_, n27_, n28_, n29_, n30_, n31_, n32_, n40_, n41_, n42_, n43_, n45_, n48_, n54_, n57_, n58_, n59_, n60_, n61_, n63_, n96_, n97_, n99_, n100_, n122_, n126_, n200_, n255_, n375_, n400_, n1000_, n2000_, n9999_, n5764801_, n1000000_, n3000_, m1, m2, le_t, le_f, lt_t, lt_f, eq_t, eq_f, no_lt, no_le, le_no, lt_no, eq_no, no_eq, add_no, wib_t, clamp, nI_add, pk_mul, pk_sub, nor_, nand_, ndif_, shl_, sh1_, shr_, tbn, tb0, tb1, les_t, les_f, pk_div, rem_, remv, and31, wu1, wuc, wui, wu2, ws1, wsc, ws2, wv1, n11_, n13_, n14_, n15_, n17_, n19_, n23_, n56_, n64_, fX6_wearOf, he, eg]
  rfl
theorem r_wear (hx : MX h L S) {i m : Nat} (hi : i < gns L) : fX11_scrapedBy h (nI i) (nI m) = some (nI (if S.2.2.1 i &&& m = 0 then 0 else gWear L S (S.2.2.1 i &&& m) i)) := by
  obtain ⟨hW, hC, hV, hS⟩ := id hx
  have n1 := hW.1
  have n2 := hW.2.1
  have s3 := (hS.2.1 i (by omega)).2
  rw [Nat.zero_add] at s3
  have ho := (hV.2.1 i (by omega)).2.1
  have ho2 : S.2.2.1 i &&& m ≤ S.2.2.1 i := Nat.and_le_left
  obtain ⟨e, he, eg⟩ := wit_for (b := fun v : (Int32 × Int32 × Int32) => fX11_scrapedBy_l20 h (nI i) (nI (S.2.2.1 i &&& m)) v.1 v.2.1 v.2.2) (gWearSt L S (S.2.2.1 i &&& m) i) 6
    (fun j a v => v = (nI a.1, nI a.2, nI j)) (fun a e => e = (nI a.1, nI a.2))
    (by
      rintro j ⟨a, b⟩ v hj rfl
      have s1 := hS.2.2 (6 * i + j) (by omega)
      rw [show 0 + 7 + (6 * i + j) = 7 + 6 * i + j by omega] at s1
      obtain ⟨v1, v2⟩ := hV.2.2.1 (6 * i + j) (by omega)
      refine ⟨_, ?_, rfl⟩
      unfold gWearSt
      cases hb : (S.2.2.1 i &&& m).testBit j with
      | false => simp (disch := omega) only [↓reduceIte, wlet, Option.bind_some, true_and, and_true, not_true_eq_false, not_false_eq_true, reduceCtorEq, n0_, n1_, n2_, n3_, n4_, n5_, n6_, n7_, n8_, n9_, n10_, n12_, n16_, n18_, n20_, n21_, n22_, n24_, n25_, n26_, n27_, n28_, n29_, n30_, n31_, n32_, n40_, n41_, n42_, n43_, n45_, n48_, n54_, n57_, n58_, n59_, n60_, n61_, n63_, n96_, n97_, n99_, n100_, n122_, n126_, n200_, n255_, n375_, n400_, n1000_, n2000_, n9999_, n5764801_, n1000000_, n3000_, m1, m2, le_t, le_f, lt_t, lt_f, eq_t, eq_f, no_lt, no_le, le_no, lt_no, eq_no, no_eq, add_no, wib_t, clamp, nI_add, pk_mul, pk_sub, nor_, nand_, ndif_, shl_, sh1_, shr_, tbn, tb0, tb1, les_t, les_f, pk_div, rem_, remv, and31, wu1, wuc, wui, wu2, ws1, wsc, ws2, wv1, n11_, n13_, n14_, n15_, n17_, n19_, n23_, n56_, n64_, fX11_scrapedBy_l20, fX11_scrapedBy_b94_20, hb, Bool.false_eq_true]
      | true =>
        have hne := hV.2.2.2.1 i j (by omega) hj (by
          rw [Nat.testBit_and] at hb
          simp only [Bool.and_eq_true] at hb
          exact hb.1)
        cases hl : S.2.2.2 (6 * i + j) with
        | nil => exact absurd hl hne
        | cons t l =>
          have hlt := e7_lt9 v1 (fun u hu => by have := v2 u hu; omega)
          rw [hl] at s1 hlt
          have m1' : e7 (t :: l) % 7 = t + 1 := by
            have := v2 t (by rw [hl]; simp)
            rw [e7]; omega
          have ht := v2 t (by rw [hl]; simp)
          obtain ⟨k1, k2, -⟩ := hC.2.2.2.2.1 t ht
          have k3 := (hW.2.2.2.2.1 t ht).1
          by_cases hq : gkd L t = 3
          · simp (disch := omega) only [↓reduceIte, wlet, Option.bind_some, true_and, and_true, not_true_eq_false, not_false_eq_true, reduceCtorEq, n0_, n1_, n2_, n3_, n4_, n5_, n6_, n7_, n8_, n9_, n10_, n12_, n16_, n18_, n20_, n21_, n22_, n24_, n25_, n26_, n27_, n28_, n29_, n30_, n31_, n32_, n40_, n41_, n42_, n43_, n45_, n48_, n54_, n57_, n58_, n59_, n60_, n61_, n63_, n96_, n97_, n99_, n100_, n122_, n126_, n200_, n255_, n375_, n400_, n1000_, n2000_, n9999_, n5764801_, n1000000_, n3000_, m1, m2, le_t, le_f, lt_t, lt_f, eq_t, eq_f, no_lt, no_le, le_no, lt_no, eq_no, no_eq, add_no, wib_t, clamp, nI_add, pk_mul, pk_sub, nor_, nand_, ndif_, shl_, sh1_, shr_, tbn, tb0, tb1, les_t, les_f, pk_div, rem_, remv, and31, wu1, wuc, wui, wu2, ws1, wsc, ws2, wv1, n11_, n13_, n14_, n15_, n17_, n19_, n23_, n56_, n64_, fX11_scrapedBy_l20, fX11_scrapedBy_b94_20, fX11_scrapedBy_b91_20, hb, s1, m1', k1, k2, hq, Nat.add_sub_cancel, Bool.true_eq_false]
          · simp (disch := omega) only [↓reduceIte, wlet, Option.bind_some, true_and, and_true, not_true_eq_false, not_false_eq_true, reduceCtorEq, n0_, n1_, n2_, n3_, n4_, n5_, n6_, n7_, n8_, n9_, n10_, n12_, n16_, n18_, n20_, n21_, n22_, n24_, n25_, n26_, n27_, n28_, n29_, n30_, n31_, n32_, n40_, n41_, n42_, n43_, n45_, n48_, n54_, n57_, n58_, n59_, n60_, n61_, n63_, n96_, n97_, n99_, n100_, n122_, n126_, n200_, n255_, n375_, n400_, n1000_, n2000_, n9999_, n5764801_, n1000000_, n3000_, m1, m2, le_t, le_f, lt_t, lt_f, eq_t, eq_f, no_lt, no_le, le_no, lt_no, eq_no, no_eq, add_no, wib_t, clamp, nI_add, pk_mul, pk_sub, nor_, nand_, ndif_, shl_, sh1_, shr_, tbn, tb0, tb1, les_t, les_f, pk_div, rem_, remv, and31, wu1, wuc, wui, wu2, ws1, wsc, ws2, wv1, n11_, n13_, n14_, n15_, n17_, n19_, n23_, n56_, n64_, fX11_scrapedBy_l20, fX11_scrapedBy_b94_20, fX11_scrapedBy_b91_20, hb, s1, m1', k1, k2, hq, Nat.add_sub_cancel, Bool.true_eq_false])
    (by
      rintro ⟨a, b⟩ v rfl
      refine ⟨_, ?_, rfl⟩
      simp (disch := omega) only [↓reduceIte, wlet, Option.bind_some, true_and, and_true, not_true_eq_false, not_false_eq_true, reduceCtorEq, n0_, n1_, n2_, n3_, n4_, n5_, n6_, n7_, n8_, n9_, n10_, n12_, n16_, n18_, n20_, n21_, n22_, n24_, n25_, n26_, n27_, n28_, n29_, n30_, n31_, n32_, n40_, n41_, n42_, n43_, n45_, n48_, n54_, n57_, n58_, n59_, n60_, n61_, n63_, n96_, n97_, n99_, n100_, n122_, n126_, n200_, n255_, n375_, n400_, n1000_, n2000_, n9999_, n5764801_, n1000000_, n3000_, m1, m2, le_t, le_f, lt_t, lt_f, eq_t, eq_f, no_lt, no_le, le_no, lt_no, eq_no, no_eq, add_no, wib_t, clamp, nI_add, pk_mul, pk_sub, nor_, nand_, ndif_, shl_, sh1_, shr_, tbn, tb0, tb1, les_t, les_f, pk_div, rem_, remv, and31, wu1, wuc, wui, wu2, ws1, wsc, ws2, wv1, n11_, n13_, n14_, n15_, n17_, n19_, n23_, n56_, n64_, fX11_scrapedBy_l20])
    (N := 3000) (by omega) (a0 := (0, 0)) (v0 := (nI 0, nI 0, nI 0)) rfl
  by_cases h0 : S.2.2.1 i &&& m = 0
  · rw [h0] at he
    rw [if_pos h0]
    simp (disch := omega) only [↓reduceIte, wlet, Option.bind_some, true_and, and_true, not_true_eq_false, not_false_eq_true, reduceCtorEq, n0_, n1_, n2_, n3_, n4_, n5_, n6_, n7_, n8_, n9_, n10_, n12_, n16_, n18_, n20_, n21_, n22_, n24_, n25_, n26_, n27_, n28_, n29_, n30_, n31_, n32_, n40_, n41_, n42_, n43_, n45_, n48_, n54_, n57_, n58_, n59_, n60_, n61_, n63_, n96_, n97_, n99_, n100_, n122_, n126_, n200_, n255_, n375_, n400_, n1000_, n2000_, n9999_, n5764801_, n1000000_, n3000_, m1, m2, le_t, le_f, lt_t, lt_f, eq_t, eq_f, no_lt, no_le, le_no, lt_no, eq_no, no_eq, add_no, wib_t, clamp, nI_add, pk_mul, pk_sub, nor_, nand_, ndif_, shl_, sh1_, shr_, tbn, tb0, tb1, les_t, les_f, pk_div, rem_, remv, and31, wu1, wuc, wui, wu2, ws1, wsc, ws2, wv1, n11_, n13_, n14_, n15_, n17_, n19_, n23_, n56_, n64_, fX11_scrapedBy, s3, h0, he]
  · rw [if_neg h0]
    simp (disch := omega) only [↓reduceIte, wlet, Option.bind_some, true_and, and_true, not_true_eq_false, not_false_eq_true, reduceCtorEq, n0_, n1_, n2_, n3_, n4_, n5_, n6_, n7_, n8_, n9_, n10_, n12_, n16_, n18_, n20_, n21_, n22_, n24_, n25_, n26_, n27_, n28_, n29_, n30_, n31_, n32_, n40_, n41_, n42_, n43_, n45_, n48_, n54_, n57_, n58_, n59_, n60_, n61_, n63_, n96_, n97_, n99_, n100_, n122_, n126_, n200_, n255_, n375_, n400_, n1000_, n2000_, n9999_, n5764801_, n1000000_, n3000_, m1, m2, le_t, le_f, lt_t, lt_f, eq_t, eq_f, no_lt, no_le, le_no, lt_no, eq_no, no_eq, add_no, wib_t, clamp, nI_add, pk_mul, pk_sub, nor_, nand_, ndif_, shl_, sh1_, shr_, tbn, tb0, tb1, les_t, les_f, pk_div, rem_, remv, and31, wu1, wuc, wui, wu2, ws1, wsc, ws2, wv1, n11_, n13_, n14_, n15_, n17_, n19_, n23_, n56_, n64_, fX11_scrapedBy, s3, he, eg]
    rfl
theorem c_strip (h : wSt) (k : Nat) {i : Nat} (hi : i < 3) : ∃ g, fX6_strip h k (nI i) = some g ∧ fr (sk k) h g ∧ g.1 k = h.1 k ∧ g.1 (k + 1) = h.1 (k + 1) ∧ (∀ q, g.1 (k + 2) q = if q = i then nI 0 else h.1 (k + 2) q)
    ∧ (∀ q, g.1 (k + 3) q = if 6 * i ≤ q ∧ q < 6 * i + 6 then nI 0 else h.1 (k + 3) q) ∧ ∀ q, g.1 (k + 4) q = if 6 * i ≤ q ∧ q < 6 * i + 6 then nI 0 else h.1 (k + 4) q := by
  obtain ⟨e, he, eg⟩ := wit_for (b := fun v : (Int32 × wSt) => fX6_strip_l12 v.2 k (nI i) v.1) (fun _ (u : Unit) => u) 6
    (fun m _ v => ∃ g, v = (nI (6 * i + m), g) ∧ fr (sk k) h g ∧ g.1 k = h.1 k ∧ g.1 (k + 1) = h.1 (k + 1) ∧ (∀ q, g.1 (k + 2) q = if q = i then nI 0 else h.1 (k + 2) q)
      ∧ (∀ q, g.1 (k + 3) q = if 6 * i ≤ q ∧ q < 6 * i + m then nI 0 else h.1 (k + 3) q) ∧ ∀ q, g.1 (k + 4) q = if 6 * i ≤ q ∧ q < 6 * i + m then nI 0 else h.1 (k + 4) q)
    (fun _ g => fr (sk k) h g ∧ g.1 k = h.1 k ∧ g.1 (k + 1) = h.1 (k + 1) ∧ (∀ q, g.1 (k + 2) q = if q = i then nI 0 else h.1 (k + 2) q)
      ∧ (∀ q, g.1 (k + 3) q = if 6 * i ≤ q ∧ q < 6 * i + 6 then nI 0 else h.1 (k + 3) q) ∧ ∀ q, g.1 (k + 4) q = if 6 * i ≤ q ∧ q < 6 * i + 6 then nI 0 else h.1 (k + 4) q)
    (by
      rintro m u v hm ⟨g, rfl, fg, g0, g1, g2, g3, g4⟩
      refine ⟨(nI (6 * i + (m + 1)), wuI (wuI g (k + 3) (6 * i + m) (nI 0)) (k + 4) (6 * i + m) (nI 0)), ?_, _, rfl, fr_tr fg (fr_tr (fr_wuI (by unfold sk; omega)) (fr_wuI (by unfold sk; omega))), ?_, ?_, ?_, ?_, ?_⟩
      · simp (disch := omega) only [↓reduceIte, wlet, Option.bind_some, true_and, and_true, not_true_eq_false, not_false_eq_true, reduceCtorEq, n0_, n1_, n2_, n3_, n4_, n5_, n6_, n7_, n8_, n9_, n10_, n12_, n16_, n18_, n20_, n21_, n22_, n24_, n25_, n26_, n27_, n28_, n29_, n30_, n31_, n32_, n40_, n41_, n42_, n43_, n45_, n48_, n54_, n57_, n58_, n59_, n60_, n61_, n63_, n96_, n97_, n99_, n100_, n122_, n126_, n200_, n255_, n375_, n400_, n1000_, n2000_, n9999_, n5764801_, n1000000_, n3000_, m1, m2, le_t, le_f, lt_t, lt_f, eq_t, eq_f, no_lt, no_le, le_no, lt_no, eq_no, no_eq, add_no, wib_t, clamp, nI_add, pk_mul, pk_sub, nor_, nand_, ndif_, shl_, sh1_, shr_, tbn, tb0, tb1, les_t, les_f, pk_div, rem_, remv, and31, wu1, wuc, wui, wu2, ws1, wsc, ws2, wv1, n11_, n13_, n14_, n15_, n17_, n19_, n23_, n56_, n64_, fX6_strip_l12]
        rfl
      · rw [wuc (by omega), wuc (by omega)]; exact g0
      · rw [wuc (by omega), wuc (by omega)]; exact g1
      · intro q
        rw [wuc (by omega), wuc (by omega)]; exact g2 q
      · intro q
        rw [wuc (by omega), wuS, g3]
        by_cases e1 : q = 6 * i + m
        · rw [if_pos e1, if_pos (by omega)]
        · rw [if_neg e1]
          by_cases e2 : 6 * i ≤ q ∧ q < 6 * i + m
          · rw [if_pos e2, if_pos (by omega)]
          · rw [if_neg e2, if_neg (by omega)]
      · intro q
        rw [wuS, wuc (by omega), g4]
        by_cases e1 : q = 6 * i + m
        · rw [if_pos e1, if_pos (by omega)]
        · rw [if_neg e1]
          by_cases e2 : 6 * i ≤ q ∧ q < 6 * i + m
          · rw [if_pos e2, if_pos (by omega)]
          · rw [if_neg e2, if_neg (by omega)])
    (by
      rintro u v ⟨g, rfl, hg⟩
      refine ⟨g, ?_, hg⟩
      simp (disch := omega) only [↓reduceIte, wlet, Option.bind_some, true_and, and_true, not_true_eq_false, not_false_eq_true, reduceCtorEq, n0_, n1_, n2_, n3_, n4_, n5_, n6_, n7_, n8_, n9_, n10_, n12_, n16_, n18_, n20_, n21_, n22_, n24_, n25_, n26_, n27_, n28_, n29_, n30_, n31_, n32_, n40_, n41_, n42_, n43_, n45_, n48_, n54_, n57_, n58_, n59_, n60_, n61_, n63_, n96_, n97_, n99_, n100_, n122_, n126_, n200_, n255_, n375_, n400_, n1000_, n2000_, n9999_, n5764801_, n1000000_, n3000_, m1, m2, le_t, le_f, lt_t, lt_f, eq_t, eq_f, no_lt, no_le, le_no, lt_no, eq_no, no_eq, add_no, wib_t, clamp, nI_add, pk_mul, pk_sub, nor_, nand_, ndif_, shl_, sh1_, shr_, tbn, tb0, tb1, les_t, les_f, pk_div, rem_, remv, and31, wu1, wuc, wui, wu2, ws1, wsc, ws2, wv1, n11_, n13_, n14_, n15_, n17_, n19_, n23_, n56_, n64_, fX6_strip_l12])
    (N := 3000) (by omega) (a0 := ()) (v0 := (nI (6 * i), wuI h (k + 2) i (nI 0))) ⟨_, rfl, fr_wuI (by unfold sk; omega), wuc (by omega), wuc (by omega), fun q => by rw [wuS], fun q => by rw [wuc (by omega), if_neg (by omega)], fun q => by rw [wuc (by omega), if_neg (by omega)]⟩
  refine ⟨e, ?_, eg⟩
  simp (disch := omega) only [↓reduceIte, wlet, Option.bind_some, true_and, and_true, not_true_eq_false, not_false_eq_true, reduceCtorEq, n0_, n1_, n2_, n3_, n4_, n5_, n6_, n7_, n8_, n9_, n10_, n12_, n16_, n18_, n20_, n21_, n22_, n24_, n25_, n26_, n27_, n28_, n29_, n30_, n31_, n32_, n40_, n41_, n42_, n43_, n45_, n48_, n54_, n57_, n58_, n59_, n60_, n61_, n63_, n96_, n97_, n99_, n100_, n122_, n126_, n200_, n255_, n375_, n400_, n1000_, n2000_, n9999_, n5764801_, n1000000_, n3000_, m1, m2, le_t, le_f, lt_t, lt_f, eq_t, eq_f, no_lt, no_le, le_no, lt_no, eq_no, no_eq, add_no, wib_t, clamp, nI_add, pk_mul, pk_sub, nor_, nand_, ndif_, shl_, sh1_, shr_, tbn, tb0, tb1, les_t, les_f, pk_div, rem_, remv, and31, wu1, wuc, wui, wu2, ws1, wsc, ws2, wv1, n11_, n13_, n14_, n15_, n17_, n19_, n23_, n56_, n64_, fX6_strip, he]
theorem SH_strip {h g : wSt} {k i : Nat} {S : gSh} (hi : i < 3) (hS : SH h k S) (g0 : g.1 k = h.1 k) (g1 : ∀ q, g.1 (k + 1) q = if q = i then nI 0 else h.1 (k + 1) q) (g2 : ∀ q, g.1 (k + 2) q = if q = i then nI 0 else h.1 (k + 2) q)
    (g3 : ∀ q, g.1 (k + 3) q = if 6 * i ≤ q ∧ q < 6 * i + 6 then nI 0 else h.1 (k + 3) q) (g4 : ∀ q, g.1 (k + 4) q = if 6 * i ≤ q ∧ q < 6 * i + 6 then nI 0 else h.1 (k + 4) q) :
    SH g k (S.1, (fun q => if q = i then 0 else S.2.1 q), (fun q => if q = i then 0 else S.2.2.1 q), fun q => if 6 * i ≤ q ∧ q < 6 * i + 6 then [] else S.2.2.2 q) := by
  obtain ⟨s0, s1, s2⟩ := hS
  refine ⟨by rw [g0]; exact s0, fun q hq => ?_, fun p hp => ?_⟩
  · obtain ⟨a1, a2⟩ := s1 q hq
    rw [g1, g2]
    show _ = nI (if q = i then 0 else S.2.1 q) ∧ _ = nI (if q = i then 0 else S.2.2.1 q)
    by_cases e : q = i
    · simp only [if_pos e, and_self]
    · simp only [if_neg e]
      exact ⟨a1, a2⟩
  · obtain ⟨a1, a2⟩ := s2 p hp
    rw [g3, g4]
    show _ = nI (if 6 * i ≤ p ∧ p < 6 * i + 6 then [] else S.2.2.2 p).length ∧ _ = nI (e8 (if 6 * i ≤ p ∧ p < 6 * i + 6 then [] else S.2.2.2 p))
    by_cases e : 6 * i ≤ p ∧ p < 6 * i + 6
    · simp only [if_pos e]
      exact ⟨rfl, rfl⟩
    · simp only [if_neg e]
      exact ⟨a1, a2⟩
theorem WS_rub (hW : WL L) (hV : WS L S) {i : Nat} (m : Nat) (hi : i < gns L) : WS L (gRub L i m S) := by
  have n1 := hW.1
  obtain ⟨v1, v2, v3, v4, v5⟩ := id hV
  unfold gRub
  split
  · exact hV
  · split
    · refine ⟨v1, fun q hq => ?_, fun p hp => ?_, fun a b ha hb hq => ?_, fun a b ha hb hq => ?_⟩
      · obtain ⟨a1, a2, a3⟩ := v2 q hq
        show (if q = i then 0 else S.2.1 q) ≤ 30 ∧ (if q = i then 0 else S.2.2.1 q) < 64 ∧ (gns L ≤ q → (if q = i then 0 else S.2.1 q) = 0 ∧ (if q = i then 0 else S.2.2.1 q) = 0)
        by_cases e : q = i
        · simp [if_pos e]
        · simp only [if_neg e]
          exact ⟨a1, a2, a3⟩
      · obtain ⟨a1, a2⟩ := v3 p hp
        show (if 6 * i ≤ p ∧ p < 6 * i + 6 then [] else S.2.2.2 p).length ≤ 9 ∧ ∀ t ∈ (if 6 * i ≤ p ∧ p < 6 * i + 6 then [] else S.2.2.2 p), t < gnt L
        by_cases e : 6 * i ≤ p ∧ p < 6 * i + 6
        · simp [if_pos e]
        · simp only [if_neg e]
          exact ⟨a1, a2⟩
      · have hq : (if a = i then 0 else S.2.2.1 a).testBit b = true := hq
        show (if 6 * i ≤ 6 * a + b ∧ 6 * a + b < 6 * i + 6 then [] else S.2.2.2 (6 * a + b)) ≠ []
        by_cases e : a = i
        · rw [if_pos e, Nat.zero_testBit] at hq
          cases hq
        · rw [if_neg e] at hq
          rw [if_neg (by omega)]
          exact v4 a b ha hb hq
      · show (if 6 * i ≤ 6 * a + b ∧ 6 * a + b < 6 * i + 6 then [] else S.2.2.2 (6 * a + b)) = []
        split
        · rfl
        · exact v5 a b ha hb hq
    · refine ⟨v1, fun q hq => ?_, v3, fun a b ha hb hq => ?_, v5⟩
      · obtain ⟨a1, a2, a3⟩ := v2 q hq
        obtain ⟨b1, b2, b3⟩ := v2 i (by omega)
        show (if q = i then S.2.1 i - gWear L S (S.2.2.1 i &&& m) i else S.2.1 q) ≤ 30 ∧ (if q = i then bdf (S.2.2.1 i) m else S.2.2.1 q) < 64 ∧ (gns L ≤ q → (if q = i then S.2.1 i - gWear L S (S.2.2.1 i &&& m) i else S.2.1 q) = 0 ∧ (if q = i then bdf (S.2.2.1 i) m else S.2.2.1 q) = 0)
        by_cases e : q = i
        · simp only [if_pos e]
          have : bdf (S.2.2.1 i) m < 2 ^ 6 := bdf_lt b2
          exact ⟨by omega, by omega, fun _ => by omega⟩
        · simp only [if_neg e]
          exact ⟨a1, a2, a3⟩
      · have hq : (if a = i then bdf (S.2.2.1 i) m else S.2.2.1 a).testBit b = true := hq
        apply v4 a b ha hb
        by_cases e : a = i
        · rw [if_pos e, bdf_bit] at hq
          simp only [Bool.and_eq_true] at hq
          rw [e]
          exact hq.1
        · rw [if_neg e] at hq
          exact hq
theorem wmx_sub {a b : Nat} (ha : a < 1000) (hb : b < 1000) : wmx (nI 0) (nI a - nI b) = nI (a - b) := by
  unfold wmx
  by_cases q : b < a
  · rw [pk_sub (by omega), if_pos (nI_lt (by omega) (by omega))]
  · by_cases e : a = b
    · rw [e, pk_sub (by omega), Nat.sub_self, ite_self]
    · have h1 : ¬ nI 0 < nI a - nI b := by
        rw [Int32.lt_iff_toInt_lt, pk_sub_toInt (by omega) (by omega), nI_toInt (by omega)]
        omega
      rw [if_neg h1, show a - b = 0 by omega]
theorem wmx_0 {a : Nat} (ha : a < 1000) : wmx (nI 0) (nI a) = nI a := by
  have := wmx_sub (a := a) (b := 0) ha (by omega)
  rw [pk_sub (by omega), Nat.sub_zero] at this
  exact this
theorem c_rub (hx : CX h L k S) {i m : Nat} (hi : i < gns L) : ∃ g, fX6_rub h k (nI i) (nI m) = some (decide (S.2.2.1 i &&& m ≠ 0), g) ∧ CX g L k (gRub L i m S) ∧ fr (sk k) h g := by
  obtain ⟨hW, hC, hV, hS, hk⟩ := id hx
  have n1 := hW.1
  obtain ⟨s1, s2⟩ := hS.2.1 i (by omega)
  obtain ⟨v1, v2, -⟩ := hV.2.1 i (by omega)
  have hV2 := WS_rub hW hV m hi
  have ho2 : S.2.2.1 i &&& m ≤ S.2.2.1 i := Nat.and_le_left
  by_cases h0 : S.2.2.1 i &&& m = 0
  · refine ⟨h, ?_, ?_, fr_rf⟩
    · rw [decide_eq_false (fun q => q h0)]
      simp (disch := omega) only [↓reduceIte, wlet, Option.bind_some, true_and, and_true, not_true_eq_false, not_false_eq_true, reduceCtorEq, n0_, n1_, n2_, n3_, n4_, n5_, n6_, n7_, n8_, n9_, n10_, n12_, n16_, n18_, n20_, n21_, n22_, n24_, n25_, n26_, n27_, n28_, n29_, n30_, n31_, n32_, n40_, n41_, n42_, n43_, n45_, n48_, n54_, n57_, n58_, n59_, n60_, n61_, n63_, n96_, n97_, n99_, n100_, n122_, n126_, n200_, n255_, n375_, n400_, n1000_, n2000_, n9999_, n5764801_, n1000000_, n3000_, m1, m2, le_t, le_f, lt_t, lt_f, eq_t, eq_f, no_lt, no_le, le_no, lt_no, eq_no, no_eq, add_no, wib_t, clamp, nI_add, pk_mul, pk_sub, nor_, nand_, ndif_, shl_, sh1_, shr_, tbn, tb0, tb1, les_t, les_f, pk_div, rem_, remv, and31, wu1, wuc, wui, wu2, ws1, wsc, ws2, wv1, n11_, n13_, n14_, n15_, n17_, n19_, n23_, n56_, n64_, fX6_rub, s2, h0]
    · unfold gRub
      rw [if_pos h0]
      exact hx
  · have hw := c_wear hx (o := S.2.2.1 i &&& m) hi (by omega)
    have hb := gWear_b hW hV (S.2.2.1 i &&& m) (i := i) (by omega)
    have e1 := wmx_sub (a := S.2.1 i) (b := gWear L S (S.2.2.1 i &&& m) i) (by omega) (by omega)
    have e2 := bdf_and (S.2.2.1 i) m
    rw [decide_eq_true h0]
    have fg : fr (sk k) h (wuI (wuI h (k + 1) i (nI (S.2.1 i - gWear L S (S.2.2.1 i &&& m) i))) (k + 2) i (nI (bdf (S.2.2.1 i) m))) := fr_tr (fr_wuI (by unfold sk; omega)) (fr_wuI (by unfold sk; omega))
    unfold gRub at hV2 ⊢
    rw [if_neg h0] at hV2 ⊢
    by_cases h1 : S.2.1 i ≤ gWear L S (S.2.2.1 i &&& m) i
    · rw [if_pos h1] at hV2 ⊢
      obtain ⟨g, e3, f3, g0, g1, g2, g3, g4⟩ := c_strip (wuI (wuI h (k + 1) i (nI (S.2.1 i - gWear L S (S.2.2.1 i &&& m) i))) (k + 2) i (nI (bdf (S.2.2.1 i) m))) k (i := i) (by omega)
      have hz : S.2.1 i - gWear L S (S.2.2.1 i &&& m) i = 0 := by omega
      rw [hz] at e1 e3 f3 fg g0 g1 g2 g3 g4
      have f4 := fr_tr fg f3
      refine ⟨g, ?_, ⟨hW, CL_fr hC f4 (fun c _ _ => by unfold sk; omega), hV2, SH_strip (by omega) hS ?_ ?_ ?_ ?_ ?_, hk⟩, f4⟩
      · simp (disch := omega) only [↓reduceIte, wlet, Option.bind_some, true_and, and_true, not_true_eq_false, not_false_eq_true, reduceCtorEq, n0_, n1_, n2_, n3_, n4_, n5_, n6_, n7_, n8_, n9_, n10_, n12_, n16_, n18_, n20_, n21_, n22_, n24_, n25_, n26_, n27_, n28_, n29_, n30_, n31_, n32_, n40_, n41_, n42_, n43_, n45_, n48_, n54_, n57_, n58_, n59_, n60_, n61_, n63_, n96_, n97_, n99_, n100_, n122_, n126_, n200_, n255_, n375_, n400_, n1000_, n2000_, n9999_, n5764801_, n1000000_, n3000_, m1, m2, le_t, le_f, lt_t, lt_f, eq_t, eq_f, no_lt, no_le, le_no, lt_no, eq_no, no_eq, add_no, wib_t, clamp, nI_add, pk_mul, pk_sub, nor_, nand_, ndif_, shl_, sh1_, shr_, tbn, tb0, tb1, les_t, les_f, pk_div, rem_, remv, and31, wu1, wuc, wui, wu2, ws1, wsc, ws2, wv1, n11_, n13_, n14_, n15_, n17_, n19_, n23_, n56_, n64_, fX6_rub, s1, s2, hw, e1, e2, e3]
      · rw [g0, wuc (by omega), wuc (by omega)]
      · intro q
        rw [g1, wuc (by omega), wuS]
      · intro q
        rw [g2, wuS, wuc (by omega)]
        by_cases e : q = i
        · rw [if_pos e, if_pos e]
        · rw [if_neg e, if_neg e, if_neg e]
      · intro q
        rw [g3, wuc (by omega), wuc (by omega)]
      · intro q
        rw [g4, wuc (by omega), wuc (by omega)]
    · rw [if_neg h1] at hV2 ⊢
      refine ⟨_, ?_, ⟨hW, CL_fr hC fg (fun c _ _ => by unfold sk; omega), hV2, ?_, hk⟩, fg⟩
      · have e4 := wmx_0 (a := S.2.1 i - gWear L S (S.2.2.1 i &&& m) i) (by omega)
        simp (disch := omega) only [↓reduceIte, wlet, Option.bind_some, true_and, and_true, not_true_eq_false, not_false_eq_true, reduceCtorEq, n0_, n1_, n2_, n3_, n4_, n5_, n6_, n7_, n8_, n9_, n10_, n12_, n16_, n18_, n20_, n21_, n22_, n24_, n25_, n26_, n27_, n28_, n29_, n30_, n31_, n32_, n40_, n41_, n42_, n43_, n45_, n48_, n54_, n57_, n58_, n59_, n60_, n61_, n63_, n96_, n97_, n99_, n100_, n122_, n126_, n200_, n255_, n375_, n400_, n1000_, n2000_, n9999_, n5764801_, n1000000_, n3000_, m1, m2, le_t, le_f, lt_t, lt_f, eq_t, eq_f, no_lt, no_le, le_no, lt_no, eq_no, no_eq, add_no, wib_t, clamp, nI_add, pk_mul, pk_sub, nor_, nand_, ndif_, shl_, sh1_, shr_, tbn, tb0, tb1, les_t, les_f, pk_div, rem_, remv, and31, wu1, wuc, wui, wu2, ws1, wsc, ws2, wv1, n11_, n13_, n14_, n15_, n17_, n19_, n23_, n56_, n64_, fX6_rub, s1, s2, hw, e1, e2, e4]
      · refine ⟨?_, fun q hq => ?_, fun p hp => ?_⟩
        · rw [wuc (by omega), wuc (by omega)]; exact hS.1
        · obtain ⟨a1, a2⟩ := hS.2.1 q hq
          show _ = nI (if q = i then S.2.1 i - gWear L S (S.2.2.1 i &&& m) i else S.2.1 q) ∧ _ = nI (if q = i then bdf (S.2.2.1 i) m else S.2.2.1 q)
          rw [wuc (show k + 1 ≠ k + 2 by omega), wuS, wuS, wuc (show k + 2 ≠ k + 1 by omega)]
          by_cases e : q = i
          · rw [if_pos e, if_pos e, if_pos e, if_pos e]
            exact ⟨rfl, rfl⟩
          · rw [if_neg e, if_neg e, if_neg e, if_neg e]
            exact ⟨a1, a2⟩
        · rw [wuc (by omega), wuc (by omega), wuc (by omega), wuc (by omega)]
          exact hS.2.2 p hp
theorem c_canRub (hx : CX h L k S) {i m : Nat} (hi : i < gns L) : fX6_canRub h k (nI i) (nI m) = some (decide (S.2.2.1 i &&& m ≠ 0)) := by
  obtain ⟨hW, hC, hV, hS, hk⟩ := id hx
  have n1 := hW.1
  have s2 := (hS.2.1 i (by omega)).2
  have v2 := (hV.2.1 i (by omega)).2.1
  have ho2 : S.2.2.1 i &&& m ≤ S.2.2.1 i := Nat.and_le_left
  by_cases h0 : S.2.2.1 i &&& m = 0
  · rw [decide_eq_false (fun q => q h0)]
    simp (disch := omega) only [↓reduceIte, wlet, Option.bind_some, true_and, and_true, not_true_eq_false, not_false_eq_true, reduceCtorEq, n0_, n1_, n2_, n3_, n4_, n5_, n6_, n7_, n8_, n9_, n10_, n12_, n16_, n18_, n20_, n21_, n22_, n24_, n25_, n26_, n27_, n28_, n29_, n30_, n31_, n32_, n40_, n41_, n42_, n43_, n45_, n48_, n54_, n57_, n58_, n59_, n60_, n61_, n63_, n96_, n97_, n99_, n100_, n122_, n126_, n200_, n255_, n375_, n400_, n1000_, n2000_, n9999_, n5764801_, n1000000_, n3000_, m1, m2, le_t, le_f, lt_t, lt_f, eq_t, eq_f, no_lt, no_le, le_no, lt_no, eq_no, no_eq, add_no, wib_t, clamp, nI_add, pk_mul, pk_sub, nor_, nand_, ndif_, shl_, sh1_, shr_, tbn, tb0, tb1, les_t, les_f, pk_div, rem_, remv, and31, wu1, wuc, wui, wu2, ws1, wsc, ws2, wv1, n11_, n13_, n14_, n15_, n17_, n19_, n23_, n56_, n64_, fX6_canRub, s2, h0]
  · rw [decide_eq_true h0]
    simp (disch := omega) only [↓reduceIte, wlet, Option.bind_some, true_and, and_true, not_true_eq_false, not_false_eq_true, reduceCtorEq, n0_, n1_, n2_, n3_, n4_, n5_, n6_, n7_, n8_, n9_, n10_, n12_, n16_, n18_, n20_, n21_, n22_, n24_, n25_, n26_, n27_, n28_, n29_, n30_, n31_, n32_, n40_, n41_, n42_, n43_, n45_, n48_, n54_, n57_, n58_, n59_, n60_, n61_, n63_, n96_, n97_, n99_, n100_, n122_, n126_, n200_, n255_, n375_, n400_, n1000_, n2000_, n9999_, n5764801_, n1000000_, n3000_, m1, m2, le_t, le_f, lt_t, lt_f, eq_t, eq_f, no_lt, no_le, le_no, lt_no, eq_no, no_eq, add_no, wib_t, clamp, nI_add, pk_mul, pk_sub, nor_, nand_, ndif_, shl_, sh1_, shr_, tbn, tb0, tb1, les_t, les_f, pk_div, rem_, remv, and31, wu1, wuc, wui, wu2, ws1, wsc, ws2, wv1, n11_, n13_, n14_, n15_, n17_, n19_, n23_, n56_, n64_, fX6_canRub, s2]
theorem r_clear (h : wSt) {i : Nat} (hi : i < 3) : ∃ g, wit (fun v : (Int32 × wSt) => fX11_scrapes_l63 v.2 (nI i) v.1) 3000 (nI 0, h) = some g ∧ fr s225 h g ∧ ∀ q, g.1 225 q = if 7 + 6 * i ≤ q ∧ q < 7 + 6 * i + 6 then nI 0 else h.1 225 q := by
  obtain ⟨e, he, eg⟩ := wit_for (b := fun v : (Int32 × wSt) => fX11_scrapes_l63 v.2 (nI i) v.1) (fun _ (u : Unit) => u) 6
    (fun m _ v => ∃ g, v = (nI m, g) ∧ fr s225 h g ∧ ∀ q, g.1 225 q = if 7 + 6 * i ≤ q ∧ q < 7 + 6 * i + m then nI 0 else h.1 225 q)
    (fun _ g => fr s225 h g ∧ ∀ q, g.1 225 q = if 7 + 6 * i ≤ q ∧ q < 7 + 6 * i + 6 then nI 0 else h.1 225 q)
    (by
      rintro m u v hm ⟨g, rfl, fg, g0⟩
      refine ⟨(nI (m + 1), wuI g 225 (7 + 6 * i + m) (nI 0)), ?_, _, rfl, fr_tr fg (fr_wuI rfl), ?_⟩
      · simp (disch := omega) only [↓reduceIte, wlet, Option.bind_some, true_and, and_true, not_true_eq_false, not_false_eq_true, reduceCtorEq, n0_, n1_, n2_, n3_, n4_, n5_, n6_, n7_, n8_, n9_, n10_, n12_, n16_, n18_, n20_, n21_, n22_, n24_, n25_, n26_, n27_, n28_, n29_, n30_, n31_, n32_, n40_, n41_, n42_, n43_, n45_, n48_, n54_, n57_, n58_, n59_, n60_, n61_, n63_, n96_, n97_, n99_, n100_, n122_, n126_, n200_, n255_, n375_, n400_, n1000_, n2000_, n9999_, n5764801_, n1000000_, n3000_, m1, m2, le_t, le_f, lt_t, lt_f, eq_t, eq_f, no_lt, no_le, le_no, lt_no, eq_no, no_eq, add_no, wib_t, clamp, nI_add, pk_mul, pk_sub, nor_, nand_, ndif_, shl_, sh1_, shr_, tbn, tb0, tb1, les_t, les_f, pk_div, rem_, remv, and31, wu1, wuc, wui, wu2, ws1, wsc, ws2, wv1, n11_, n13_, n14_, n15_, n17_, n19_, n23_, n56_, n64_, fX11_scrapes_l63]
      · intro q
        rw [wuS, g0]
        by_cases e1 : q = 7 + 6 * i + m
        · rw [if_pos e1, if_pos (by omega)]
        · rw [if_neg e1]
          by_cases e2 : 7 + 6 * i ≤ q ∧ q < 7 + 6 * i + m
          · rw [if_pos e2, if_pos (by omega)]
          · rw [if_neg e2, if_neg (by omega)])
    (by
      rintro u v ⟨g, rfl, hg⟩
      refine ⟨g, ?_, hg⟩
      simp (disch := omega) only [↓reduceIte, wlet, Option.bind_some, true_and, and_true, not_true_eq_false, not_false_eq_true, reduceCtorEq, n0_, n1_, n2_, n3_, n4_, n5_, n6_, n7_, n8_, n9_, n10_, n12_, n16_, n18_, n20_, n21_, n22_, n24_, n25_, n26_, n27_, n28_, n29_, n30_, n31_, n32_, n40_, n41_, n42_, n43_, n45_, n48_, n54_, n57_, n58_, n59_, n60_, n61_, n63_, n96_, n97_, n99_, n100_, n122_, n126_, n200_, n255_, n375_, n400_, n1000_, n2000_, n9999_, n5764801_, n1000000_, n3000_, m1, m2, le_t, le_f, lt_t, lt_f, eq_t, eq_f, no_lt, no_le, le_no, lt_no, eq_no, no_eq, add_no, wib_t, clamp, nI_add, pk_mul, pk_sub, nor_, nand_, ndif_, shl_, sh1_, shr_, tbn, tb0, tb1, les_t, les_f, pk_div, rem_, remv, and31, wu1, wuc, wui, wu2, ws1, wsc, ws2, wv1, n11_, n13_, n14_, n15_, n17_, n19_, n23_, n56_, n64_, fX11_scrapes_l63])
    (N := 3000) (by omega) (a0 := ()) (v0 := (nI 0, h)) ⟨_, rfl, fr_rf, fun q => by rw [if_neg (by omega)]⟩
  exact ⟨e, he, eg⟩
theorem sub_le0 {a b : Nat} (h : a ≤ b) (ha : a < 1000) (hb : b < 1000) : (nI a - nI b ≤ nI 0) = True := eq_true (by
  rw [Int32.le_iff_toInt_le, pk_sub_toInt (by omega) (by omega), nI_toInt (by omega)]
  omega)
theorem r_scrapes (hx : MX h L S) {i m : Nat} (hi : i < gns L) (h0 : S.2.2.1 i &&& m ≠ 0) : ∃ g, fX11_scrapes h (nI i) (nI m) = some g ∧ MX g L (gRub L i m S) ∧ fr s225 h g := by
  obtain ⟨hW, hC, hV, hS⟩ := id hx
  have n1 := hW.1
  obtain ⟨s1, s2⟩ := hS.2.1 i (by omega)
  rw [Nat.zero_add] at s1 s2
  obtain ⟨v1, v2, -⟩ := hV.2.1 i (by omega)
  have hV2 := WS_rub hW hV m hi
  have hw := r_wear hx (m := m) hi
  rw [if_neg h0] at hw
  have hb := gWear_b hW hV (S.2.2.1 i &&& m) (i := i) (by omega)
  unfold gRub at hV2 ⊢
  rw [if_neg h0] at hV2 ⊢
  by_cases h1 : S.2.1 i ≤ gWear L S (S.2.2.1 i &&& m) i
  · rw [if_pos h1] at hV2 ⊢
    have e0 := sub_le0 h1 (by omega) (by omega)
    obtain ⟨g, e3, f3, g0⟩ := r_clear (wuI (wuI (wuI (wuI h 225 (1 + i) (nI (S.2.1 i) - nI (gWear L S (S.2.2.1 i &&& m) i))) 225 (4 + i) (nI (bdf (S.2.2.1 i) m))) 225 (1 + i) (nI 0)) 225 (4 + i) (nI 0)) (i := i) (by omega)
    have f4 := fr_tr (fr_tr (fr_tr (fr_tr (fr_wuI (h := h) (P := s225) rfl) (fr_wuI rfl)) (fr_wuI rfl)) (fr_wuI rfl)) f3
    refine ⟨g, ?_, ⟨hW, ML_fr hC f4 (fun c _ _ => by unfold s225; omega), hV2, ?_⟩, f4⟩
    · simp (disch := omega) only [↓reduceIte, wlet, Option.bind_some, true_and, and_true, not_true_eq_false, not_false_eq_true, reduceCtorEq, n0_, n1_, n2_, n3_, n4_, n5_, n6_, n7_, n8_, n9_, n10_, n12_, n16_, n18_, n20_, n21_, n22_, n24_, n25_, n26_, n27_, n28_, n29_, n30_, n31_, n32_, n40_, n41_, n42_, n43_, n45_, n48_, n54_, n57_, n58_, n59_, n60_, n61_, n63_, n96_, n97_, n99_, n100_, n122_, n126_, n200_, n255_, n375_, n400_, n1000_, n2000_, n9999_, n5764801_, n1000000_, n3000_, m1, m2, le_t, le_f, lt_t, lt_f, eq_t, eq_f, no_lt, no_le, le_no, lt_no, eq_no, no_eq, add_no, wib_t, clamp, nI_add, pk_mul, pk_sub, nor_, nand_, ndif_, shl_, sh1_, shr_, tbn, tb0, tb1, les_t, les_f, pk_div, rem_, remv, and31, wu1, wuc, wui, wu2, ws1, wsc, ws2, wv1, n11_, n13_, n14_, n15_, n17_, n19_, n23_, n56_, n64_, fX11_scrapes, s1, s2, hw, e0, e3]
    · refine ⟨?_, fun q hq => ?_, fun p hp => ?_⟩
      · rw [g0, if_neg (by omega), wuS, if_neg (by omega), wuS, if_neg (by omega), wuS, if_neg (by omega), wuS, if_neg (by omega)]
        exact hS.1
      · obtain ⟨a1, a2⟩ := hS.2.1 q hq
        show _ = nI (if q = i then 0 else S.2.1 q) ∧ _ = nI (if q = i then 0 else S.2.2.1 q)
        by_cases e : q = i
        · rw [if_pos e, if_pos e, e]
          constructor
          · rw [g0, if_neg (by omega), wuS, if_neg (by omega), wuS, if_pos (by omega)]
          · rw [g0, if_neg (by omega), wuS, if_pos (by omega)]
        · rw [if_neg e, if_neg e]
          constructor
          · rw [g0, if_neg (by omega), wuS, if_neg (by omega), wuS, if_neg (by omega), wuS, if_neg (by omega), wuS, if_neg (by omega)]
            exact a1
          · rw [g0, if_neg (by omega), wuS, if_neg (by omega), wuS, if_neg (by omega), wuS, if_neg (by omega), wuS, if_neg (by omega)]
            exact a2
      · have a1 := hS.2.2 p hp
        show _ = nI (e7 (if 6 * i ≤ p ∧ p < 6 * i + 6 then [] else S.2.2.2 p))
        by_cases e : 6 * i ≤ p ∧ p < 6 * i + 6
        · rw [g0, if_pos (by omega), if_pos e]
          rfl
        · rw [g0, if_neg (by omega), wuS, if_neg (by omega), wuS, if_neg (by omega), wuS, if_neg (by omega), wuS, if_neg (by omega), if_neg e]
          exact a1
  · rw [if_neg h1] at hV2 ⊢
    have fg : fr s225 h (wuI (wuI h 225 (1 + i) (nI (S.2.1 i - gWear L S (S.2.2.1 i &&& m) i))) 225 (4 + i) (nI (bdf (S.2.2.1 i) m))) := fr_tr (fr_wuI rfl) (fr_wuI rfl)
    refine ⟨_, ?_, ⟨hW, ML_fr hC fg (fun c _ _ => by unfold s225; omega), hV2, ?_⟩, fg⟩
    · simp (disch := omega) only [↓reduceIte, wlet, Option.bind_some, true_and, and_true, not_true_eq_false, not_false_eq_true, reduceCtorEq, n0_, n1_, n2_, n3_, n4_, n5_, n6_, n7_, n8_, n9_, n10_, n12_, n16_, n18_, n20_, n21_, n22_, n24_, n25_, n26_, n27_, n28_, n29_, n30_, n31_, n32_, n40_, n41_, n42_, n43_, n45_, n48_, n54_, n57_, n58_, n59_, n60_, n61_, n63_, n96_, n97_, n99_, n100_, n122_, n126_, n200_, n255_, n375_, n400_, n1000_, n2000_, n9999_, n5764801_, n1000000_, n3000_, m1, m2, le_t, le_f, lt_t, lt_f, eq_t, eq_f, no_lt, no_le, le_no, lt_no, eq_no, no_eq, add_no, wib_t, clamp, nI_add, pk_mul, pk_sub, nor_, nand_, ndif_, shl_, sh1_, shr_, tbn, tb0, tb1, les_t, les_f, pk_div, rem_, remv, and31, wu1, wuc, wui, wu2, ws1, wsc, ws2, wv1, n11_, n13_, n14_, n15_, n17_, n19_, n23_, n56_, n64_, fX11_scrapes, s1, s2, hw]
    · refine ⟨?_, fun q hq => ?_, fun p hp => ?_⟩
      · rw [wuS, if_neg (by omega), wuS, if_neg (by omega)]
        exact hS.1
      · obtain ⟨a1, a2⟩ := hS.2.1 q hq
        show _ = nI (if q = i then S.2.1 i - gWear L S (S.2.2.1 i &&& m) i else S.2.1 q) ∧ _ = nI (if q = i then bdf (S.2.2.1 i) m else S.2.2.1 q)
        by_cases e : q = i
        · rw [if_pos e, if_pos e, e]
          constructor
          · rw [wuS, if_neg (by omega), wuS, if_pos (by omega)]
          · rw [wuS, if_pos (by omega)]
        · rw [if_neg e, if_neg e]
          constructor
          · rw [wuS, if_neg (by omega), wuS, if_neg (by omega)]
            exact a1
          · rw [wuS, if_neg (by omega), wuS, if_neg (by omega)]
            exact a2
      · rw [wuS, if_neg (by omega), wuS, if_neg (by omega)]
        exact hS.2.2 p hp
/-- copying a shelf -/
theorem cpy_in {f g : Nat → Int32} {n q : Nat} (hq : q < n) : va_cpy f g 0 0 n q = f q := by
  unfold va_cpy
  rw [if_pos (by omega)]
  congr 1
  omega
theorem c_copy (h : wSt) {k k0 : Nat} {S : gSh} (hS : SH h k0 S) (hk : k + 5 ≤ k0 ∨ k0 + 5 ≤ k) : ∃ g, fX6_copyFrom h k k0 = some g ∧ SH g k S ∧ fr (sk k) h g := by
  refine ⟨_, rfl, ?_, fr_tr (fr_tr (fr_tr (fr_tr (fr_wuI (by unfold sk; omega)) (fr_wsI (by unfold sk; omega))) (fr_wsI (by unfold sk; omega))) (fr_wsI (by unfold sk; omega))) (fr_wsI (by unfold sk; omega))⟩
  obtain ⟨s0, s1, s2⟩ := hS
  refine ⟨?_, fun q hq => ?_, fun p hp => ?_⟩
  · rw [wsc (by omega), wsc (by omega), wsc (by omega), wsc (by omega), wu1]
    exact s0
  · obtain ⟨a1, a2⟩ := s1 q hq
    constructor
    · rw [wsc (by omega), wsc (by omega), wsc (by omega), ws1, cpy_in hq, wuc (by omega)]
      exact a1
    · rw [wsc (by omega), wsc (by omega), ws1, cpy_in hq, wsc (by omega), wuc (by omega)]
      exact a2
  · obtain ⟨a1, a2⟩ := s2 p hp
    constructor
    · rw [wsc (by omega), ws1, cpy_in hp, wsc (by omega), wsc (by omega), wuc (by omega)]
      exact a1
    · rw [ws1, cpy_in hp, wsc (by omega), wsc (by omega), wsc (by omega), wuc (by omega)]
      exact a2
theorem r_copies (h : wSt) {a0 g0 o a2 g2 o2 : Nat} (ha : a0 ≠ a2) (h0 : o + 25 ≤ g0) (h2 : o2 + 25 ≤ g2) (b0 : g0 < 1000) (b2 : g2 < 1000) : ∃ g, fX11_copies h a0 g0 (nI o) a2 g2 (nI o2) = some g ∧ fr (fun c => c = a2) h g ∧ ∀ q, g.1 a2 q = if o2 ≤ q ∧ q < o2 + 25 then h.1 a0 (o + (q - o2)) else h.1 a2 q := by
  obtain ⟨e, he, eg⟩ := wit_for (b := fun v : (Int32 × wSt) => fX11_copies_l3 v.2 a0 g0 a2 g2 (nI o) (nI o2) v.1) (fun _ (u : Unit) => u) 25
    (fun m _ v => ∃ g, v = (nI m, g) ∧ fr (fun c => c = a2) h g ∧ ∀ q, g.1 a2 q = if o2 ≤ q ∧ q < o2 + m then h.1 a0 (o + (q - o2)) else h.1 a2 q)
    (fun _ g => fr (fun c => c = a2) h g ∧ ∀ q, g.1 a2 q = if o2 ≤ q ∧ q < o2 + 25 then h.1 a0 (o + (q - o2)) else h.1 a2 q)
    (by
      rintro m u v hm ⟨g, rfl, fg, gq⟩
      have ga := fr_at fg (c := a0) ha
      refine ⟨(nI (m + 1), wuI g a2 (o2 + m) (h.1 a0 (o + m))), ?_, _, rfl, fr_tr fg (fr_wuI rfl), ?_⟩
      · simp (disch := omega) only [↓reduceIte, wlet, Option.bind_some, true_and, and_true, not_true_eq_false, not_false_eq_true, reduceCtorEq, n0_, n1_, n2_, n3_, n4_, n5_, n6_, n7_, n8_, n9_, n10_, n12_, n16_, n18_, n20_, n21_, n22_, n24_, n25_, n26_, n27_, n28_, n29_, n30_, n31_, n32_, n40_, n41_, n42_, n43_, n45_, n48_, n54_, n57_, n58_, n59_, n60_, n61_, n63_, n96_, n97_, n99_, n100_, n122_, n126_, n200_, n255_, n375_, n400_, n1000_, n2000_, n9999_, n5764801_, n1000000_, n3000_, m1, m2, le_t, le_f, lt_t, lt_f, eq_t, eq_f, no_lt, no_le, le_no, lt_no, eq_no, no_eq, add_no, wib_t, clamp, nI_add, pk_mul, pk_sub, nor_, nand_, ndif_, shl_, sh1_, shr_, tbn, tb0, tb1, les_t, les_f, pk_div, rem_, remv, and31, wu1, wuc, wui, wu2, ws1, wsc, ws2, wv1, n11_, n13_, n14_, n15_, n17_, n19_, n23_, n56_, n64_, fX11_copies_l3, ga]
      · intro q
        rw [wuS, gq]
        by_cases e1 : q = o2 + m
        · rw [if_pos e1, if_pos (by omega), show q - o2 = m by omega]
        · rw [if_neg e1]
          by_cases e2 : o2 ≤ q ∧ q < o2 + m
          · rw [if_pos e2, if_pos (by omega)]
          · rw [if_neg e2, if_neg (by omega)])
    (by
      rintro u v ⟨g, rfl, hg⟩
      refine ⟨g, ?_, hg⟩
      simp (disch := omega) only [↓reduceIte, wlet, Option.bind_some, true_and, and_true, not_true_eq_false, not_false_eq_true, reduceCtorEq, n0_, n1_, n2_, n3_, n4_, n5_, n6_, n7_, n8_, n9_, n10_, n12_, n16_, n18_, n20_, n21_, n22_, n24_, n25_, n26_, n27_, n28_, n29_, n30_, n31_, n32_, n40_, n41_, n42_, n43_, n45_, n48_, n54_, n57_, n58_, n59_, n60_, n61_, n63_, n96_, n97_, n99_, n100_, n122_, n126_, n200_, n255_, n375_, n400_, n1000_, n2000_, n9999_, n5764801_, n1000000_, n3000_, m1, m2, le_t, le_f, lt_t, lt_f, eq_t, eq_f, no_lt, no_le, le_no, lt_no, eq_no, no_eq, add_no, wib_t, clamp, nI_add, pk_mul, pk_sub, nor_, nand_, ndif_, shl_, sh1_, shr_, tbn, tb0, tb1, les_t, les_f, pk_div, rem_, remv, and31, wu1, wuc, wui, wu2, ws1, wsc, ws2, wv1, n11_, n13_, n14_, n15_, n17_, n19_, n23_, n56_, n64_, fX11_copies_l3])
    (N := 3000) (by omega) (a0 := ()) (v0 := (nI 0, h)) ⟨_, rfl, fr_rf, fun q => by rw [if_neg (by omega)]⟩
  refine ⟨e, ?_, eg⟩
  simp (disch := omega) only [↓reduceIte, wlet, Option.bind_some, true_and, and_true, not_true_eq_false, not_false_eq_true, reduceCtorEq, n0_, n1_, n2_, n3_, n4_, n5_, n6_, n7_, n8_, n9_, n10_, n12_, n16_, n18_, n20_, n21_, n22_, n24_, n25_, n26_, n27_, n28_, n29_, n30_, n31_, n32_, n40_, n41_, n42_, n43_, n45_, n48_, n54_, n57_, n58_, n59_, n60_, n61_, n63_, n96_, n97_, n99_, n100_, n122_, n126_, n200_, n255_, n375_, n400_, n1000_, n2000_, n9999_, n5764801_, n1000000_, n3000_, m1, m2, le_t, le_f, lt_t, lt_f, eq_t, eq_f, no_lt, no_le, le_no, lt_no, eq_no, no_eq, add_no, wib_t, clamp, nI_add, pk_mul, pk_sub, nor_, nand_, ndif_, shl_, sh1_, shr_, tbn, tb0, tb1, les_t, les_f, pk_div, rem_, remv, and31, wu1, wuc, wui, wu2, ws1, wsc, ws2, wv1, n11_, n13_, n14_, n15_, n17_, n19_, n23_, n56_, n64_, fX11_copies, he]
theorem MS_copy {h g : wSt} {c o c2 o2 : Nat} {S : gSh} (hS : MS h c o S) (hg : ∀ q, q < 25 → g.1 c2 (o2 + q) = h.1 c (o + q)) : MS g c2 o2 S := by
  obtain ⟨s0, s1, s2⟩ := hS
  refine ⟨?_, fun q hq => ?_, fun p hp => ?_⟩
  · have := hg 0 (by omega)
    rw [Nat.add_zero, Nat.add_zero] at this
    rw [this]; exact s0
  · obtain ⟨a1, a2⟩ := s1 q hq
    constructor
    · rw [show o2 + 1 + q = o2 + (1 + q) by omega, hg _ (by omega), ← Nat.add_assoc]; exact a1
    · rw [show o2 + 4 + q = o2 + (4 + q) by omega, hg _ (by omega), ← Nat.add_assoc]; exact a2
  · rw [show o2 + 7 + p = o2 + (7 + p) by omega, hg _ (by omega), ← Nat.add_assoc]; exact s2 p hp
theorem MS_copies {h g : wSt} {c o c2 o2 : Nat} {S : gSh} (hS : MS h c o S) (hg : ∀ q, g.1 c2 q = if o2 ≤ q ∧ q < o2 + 25 then h.1 c (o + (q - o2)) else h.1 c2 q) : MS g c2 o2 S := MS_copy hS (fun q hq => by rw [hg, if_pos (by omega), show o2 + q - o2 = q by omega])
end G35

/-! WHO IS WHOLE, and other questions of a shelf -/
def gWst (L : gLib) (S : gSh) (w i j : Nat) (a : Nat × Option Nat × Nat) : Nat × Option Nat × Nat :=
  ((match gRead L S i j w with | none => a.1 | some t => if gtl L t ≤ (if gRead L S i j w = a.2.1 then a.2.2 + 1 else 1) then a.1 ||| 2 ^ t else a.1), gRead L S i j w, if gRead L S i j w = a.2.1 then a.2.2 + 1 else 1)
def gWhole (L : gLib) (S : gSh) (w : Nat) : Nat := gF (fun i a => (gF (gWst L S w i) (gln L i) (a, none, 0)).1) (gns L) 0
def gHit : Option Nat → Option Nat → Bool
  | none, _ => false
  | some _, none => true
  | some r, some t => r == t
def gIn (L : gLib) (S : gSh) (w : Nat) (q : Option Nat) (i : Nat) : Nat := gF (fun j a => if gHit (gRead L S i j w) q then a ||| 2 ^ j else a) (gln L i) 0
def gCount (p : Nat → Bool) : Nat → Nat → Nat := gF (fun j n => if p j then n + 1 else n)
def gBits (x : Nat) : Nat := gF (fun i n => n + (x.testBit i).toNat) 6 0
def gMade (L : gLib) (S : gSh) (w t : Nat) : Nat := gF (fun i n => gCount (fun j => gRead L S i j w == some t) (gln L i) n) (gns L) 0
section G33
variable {h : wSt} {L : gLib} {k : Nat} {S : gSh}
theorem c_line (hx : CX h L k S) {w i : Nat} (hi : i < gns L) (hw : w ≤ 9) (a : Nat) : ∃ e g, wit (fun v : (Int32 × Int32 × Int32 × Int32 × wSt) => fX6_wholeTexts_l24 v.2.2.2.2 k (nI w) (nI i) v.1 v.2.1 v.2.2.1 v.2.2.2.1) 3000 (nI a, wno, nI 0, nI 0, h) = some e ∧ e = (nI (gF (gWst L S w i) (gln L i) (a, none, 0)).1, g) ∧ fr sq h g := by
  have n1 := hx.1.1
  have n2 := hx.1.2.1
  obtain ⟨l1, l2, -⟩ := hx.1.2.2.2.1 i hi
  obtain ⟨e, he, g, eg, fg⟩ := wit_for (b := fun v : (Int32 × Int32 × Int32 × Int32 × wSt) => fX6_wholeTexts_l24 v.2.2.2.2 k (nI w) (nI i) v.1 v.2.1 v.2.2.1 v.2.2.2.1) (gWst L S w i) (gln L i)
    (fun j a v => ∃ g, v = (nI a.1, rI a.2.1, nI a.2.2, nI j, g) ∧ fr sq h g ∧ a.2.2 ≤ j ∧ ∀ t, a.2.1 = some t → t < gnt L)
    (fun a e => ∃ g, e = (nI a.1, g) ∧ fr sq h g)
    (by
      rintro j ⟨st, la, rn⟩ v hj ⟨g, rfl, fg, hr, hl⟩
      have hx2 := CX_fr hx fg
      obtain ⟨g2, e2, f2⟩ := c_shown hx2 hi (j := j) (w := w) (by omega) hw
      have hlt : ∀ t, gRead L S i j w = some t → t < gnt L := fun t ht => gRead_lt hx.1 hx.2.2.1 hi (by omega) ht
      have c1 := (hx2.2.1.2.2.2.1 i hi).1
      have f3 := CX_fr hx (fr_tr fg f2)
      have c2 := fun t ht => (f3.2.1.2.2.2.2.1 t ht).2.2.1
      have c3 := fun t ht => (hx.1.2.2.2.2.1 t ht).2.2
      refine ⟨(nI (gWst L S w i j (st, la, rn)).1, rI (gWst L S w i j (st, la, rn)).2.1, nI (gWst L S w i j (st, la, rn)).2.2, nI (j + 1), g2), ?_, g2, rfl, fr_tr fg f2, ?_, hlt⟩
      · unfold gWst
        have hr : rn ≤ j := hr
        have hl : ∀ t, la = some t → t < gnt L := hl
        revert e2 hlt
        generalize gRead L S i j w = x
        intro e2 hlt
        rcases x with _ | t <;> rcases la with _ | u
        · simp (disch := omega) only [↓reduceIte, wlet, Option.bind_some, true_and, and_true, not_true_eq_false, not_false_eq_true, reduceCtorEq, n0_, n1_, n2_, n3_, n4_, n5_, n6_, n7_, n8_, n9_, n10_, n12_, n16_, n18_, n20_, n21_, n22_, n24_, n25_, n26_, n27_, n28_, n29_, n30_, n31_, n32_, n40_, n41_, n42_, n43_, n45_, n48_, n54_, n57_, n58_, n59_, n60_, n61_, n63_, n96_, n97_, n99_, n100_, n122_, n126_, n200_, n255_, n375_, n400_, n1000_, n2000_, n9999_, n5764801_, n1000000_, n3000_, m1, m2, le_t, le_f, lt_t, lt_f, eq_t, eq_f, no_lt, no_le, le_no, lt_no, eq_no, no_eq, add_no, wib_t, clamp, nI_add, pk_mul, pk_sub, nor_, nand_, ndif_, shl_, sh1_, shr_, tbn, tb0, tb1, les_t, les_f, pk_div, rem_, remv, and31, wu1, wuc, wui, wu2, ws1, wsc, ws2, wv1, fX6_wholeTexts_l24, fX6_wholeTexts_b63_24, fX6_wholeTexts_b97_24, c1, e2, rI]
        · have hu := hl u rfl
          simp (disch := omega) only [↓reduceIte, wlet, Option.bind_some, true_and, and_true, not_true_eq_false, not_false_eq_true, reduceCtorEq, n0_, n1_, n2_, n3_, n4_, n5_, n6_, n7_, n8_, n9_, n10_, n12_, n16_, n18_, n20_, n21_, n22_, n24_, n25_, n26_, n27_, n28_, n29_, n30_, n31_, n32_, n40_, n41_, n42_, n43_, n45_, n48_, n54_, n57_, n58_, n59_, n60_, n61_, n63_, n96_, n97_, n99_, n100_, n122_, n126_, n200_, n255_, n375_, n400_, n1000_, n2000_, n9999_, n5764801_, n1000000_, n3000_, m1, m2, le_t, le_f, lt_t, lt_f, eq_t, eq_f, no_lt, no_le, le_no, lt_no, eq_no, no_eq, add_no, wib_t, clamp, nI_add, pk_mul, pk_sub, nor_, nand_, ndif_, shl_, sh1_, shr_, tbn, tb0, tb1, les_t, les_f, pk_div, rem_, remv, and31, wu1, wuc, wui, wu2, ws1, wsc, ws2, wv1, fX6_wholeTexts_l24, fX6_wholeTexts_b63_24, fX6_wholeTexts_b97_24, c1, e2, rI]
        · have ht := hlt t rfl
          have c2t := c2 t ht
          have c3t := c3 t ht
          by_cases hq : gtl L t ≤ 1
          · simp (disch := omega) only [↓reduceIte, wlet, Option.bind_some, true_and, and_true, not_true_eq_false, not_false_eq_true, reduceCtorEq, n0_, n1_, n2_, n3_, n4_, n5_, n6_, n7_, n8_, n9_, n10_, n12_, n16_, n18_, n20_, n21_, n22_, n24_, n25_, n26_, n27_, n28_, n29_, n30_, n31_, n32_, n40_, n41_, n42_, n43_, n45_, n48_, n54_, n57_, n58_, n59_, n60_, n61_, n63_, n96_, n97_, n99_, n100_, n122_, n126_, n200_, n255_, n375_, n400_, n1000_, n2000_, n9999_, n5764801_, n1000000_, n3000_, m1, m2, le_t, le_f, lt_t, lt_f, eq_t, eq_f, no_lt, no_le, le_no, lt_no, eq_no, no_eq, add_no, wib_t, clamp, nI_add, pk_mul, pk_sub, nor_, nand_, ndif_, shl_, sh1_, shr_, tbn, tb0, tb1, les_t, les_f, pk_div, rem_, remv, and31, wu1, wuc, wui, wu2, ws1, wsc, ws2, wv1, fX6_wholeTexts_l24, fX6_wholeTexts_b63_24, fX6_wholeTexts_b97_24, c1, e2, rI, c2t, hq]
          · simp (disch := omega) only [↓reduceIte, wlet, Option.bind_some, true_and, and_true, not_true_eq_false, not_false_eq_true, reduceCtorEq, n0_, n1_, n2_, n3_, n4_, n5_, n6_, n7_, n8_, n9_, n10_, n12_, n16_, n18_, n20_, n21_, n22_, n24_, n25_, n26_, n27_, n28_, n29_, n30_, n31_, n32_, n40_, n41_, n42_, n43_, n45_, n48_, n54_, n57_, n58_, n59_, n60_, n61_, n63_, n96_, n97_, n99_, n100_, n122_, n126_, n200_, n255_, n375_, n400_, n1000_, n2000_, n9999_, n5764801_, n1000000_, n3000_, m1, m2, le_t, le_f, lt_t, lt_f, eq_t, eq_f, no_lt, no_le, le_no, lt_no, eq_no, no_eq, add_no, wib_t, clamp, nI_add, pk_mul, pk_sub, nor_, nand_, ndif_, shl_, sh1_, shr_, tbn, tb0, tb1, les_t, les_f, pk_div, rem_, remv, and31, wu1, wuc, wui, wu2, ws1, wsc, ws2, wv1, fX6_wholeTexts_l24, fX6_wholeTexts_b63_24, fX6_wholeTexts_b97_24, c1, e2, rI, c2t, hq]
        · have ht := hlt t rfl
          have hu := hl u rfl
          have c2t := c2 t ht
          have c3t := c3 t ht
          by_cases htu : t = u
          · subst htu
            by_cases hq : gtl L t ≤ rn + 1
            · simp (disch := omega) only [↓reduceIte, wlet, Option.bind_some, true_and, and_true, not_true_eq_false, not_false_eq_true, reduceCtorEq, n0_, n1_, n2_, n3_, n4_, n5_, n6_, n7_, n8_, n9_, n10_, n12_, n16_, n18_, n20_, n21_, n22_, n24_, n25_, n26_, n27_, n28_, n29_, n30_, n31_, n32_, n40_, n41_, n42_, n43_, n45_, n48_, n54_, n57_, n58_, n59_, n60_, n61_, n63_, n96_, n97_, n99_, n100_, n122_, n126_, n200_, n255_, n375_, n400_, n1000_, n2000_, n9999_, n5764801_, n1000000_, n3000_, m1, m2, le_t, le_f, lt_t, lt_f, eq_t, eq_f, no_lt, no_le, le_no, lt_no, eq_no, no_eq, add_no, wib_t, clamp, nI_add, pk_mul, pk_sub, nor_, nand_, ndif_, shl_, sh1_, shr_, tbn, tb0, tb1, les_t, les_f, pk_div, rem_, remv, and31, wu1, wuc, wui, wu2, ws1, wsc, ws2, wv1, fX6_wholeTexts_l24, fX6_wholeTexts_b63_24, fX6_wholeTexts_b97_24, c1, e2, rI, c2t, hq]
            · simp (disch := omega) only [↓reduceIte, wlet, Option.bind_some, true_and, and_true, not_true_eq_false, not_false_eq_true, reduceCtorEq, n0_, n1_, n2_, n3_, n4_, n5_, n6_, n7_, n8_, n9_, n10_, n12_, n16_, n18_, n20_, n21_, n22_, n24_, n25_, n26_, n27_, n28_, n29_, n30_, n31_, n32_, n40_, n41_, n42_, n43_, n45_, n48_, n54_, n57_, n58_, n59_, n60_, n61_, n63_, n96_, n97_, n99_, n100_, n122_, n126_, n200_, n255_, n375_, n400_, n1000_, n2000_, n9999_, n5764801_, n1000000_, n3000_, m1, m2, le_t, le_f, lt_t, lt_f, eq_t, eq_f, no_lt, no_le, le_no, lt_no, eq_no, no_eq, add_no, wib_t, clamp, nI_add, pk_mul, pk_sub, nor_, nand_, ndif_, shl_, sh1_, shr_, tbn, tb0, tb1, les_t, les_f, pk_div, rem_, remv, and31, wu1, wuc, wui, wu2, ws1, wsc, ws2, wv1, fX6_wholeTexts_l24, fX6_wholeTexts_b63_24, fX6_wholeTexts_b97_24, c1, e2, rI, c2t, hq]
          · have htu2 : ¬ some t = some u := fun e => htu (Option.some.inj e)
            by_cases hq : gtl L t ≤ 1
            · simp (disch := omega) only [↓reduceIte, wlet, Option.bind_some, true_and, and_true, not_true_eq_false, not_false_eq_true, reduceCtorEq, n0_, n1_, n2_, n3_, n4_, n5_, n6_, n7_, n8_, n9_, n10_, n12_, n16_, n18_, n20_, n21_, n22_, n24_, n25_, n26_, n27_, n28_, n29_, n30_, n31_, n32_, n40_, n41_, n42_, n43_, n45_, n48_, n54_, n57_, n58_, n59_, n60_, n61_, n63_, n96_, n97_, n99_, n100_, n122_, n126_, n200_, n255_, n375_, n400_, n1000_, n2000_, n9999_, n5764801_, n1000000_, n3000_, m1, m2, le_t, le_f, lt_t, lt_f, eq_t, eq_f, no_lt, no_le, le_no, lt_no, eq_no, no_eq, add_no, wib_t, clamp, nI_add, pk_mul, pk_sub, nor_, nand_, ndif_, shl_, sh1_, shr_, tbn, tb0, tb1, les_t, les_f, pk_div, rem_, remv, and31, wu1, wuc, wui, wu2, ws1, wsc, ws2, wv1, fX6_wholeTexts_l24, fX6_wholeTexts_b63_24, fX6_wholeTexts_b97_24, c1, e2, rI, c2t, hq, htu2]
            · simp (disch := omega) only [↓reduceIte, wlet, Option.bind_some, true_and, and_true, not_true_eq_false, not_false_eq_true, reduceCtorEq, n0_, n1_, n2_, n3_, n4_, n5_, n6_, n7_, n8_, n9_, n10_, n12_, n16_, n18_, n20_, n21_, n22_, n24_, n25_, n26_, n27_, n28_, n29_, n30_, n31_, n32_, n40_, n41_, n42_, n43_, n45_, n48_, n54_, n57_, n58_, n59_, n60_, n61_, n63_, n96_, n97_, n99_, n100_, n122_, n126_, n200_, n255_, n375_, n400_, n1000_, n2000_, n9999_, n5764801_, n1000000_, n3000_, m1, m2, le_t, le_f, lt_t, lt_f, eq_t, eq_f, no_lt, no_le, le_no, lt_no, eq_no, no_eq, add_no, wib_t, clamp, nI_add, pk_mul, pk_sub, nor_, nand_, ndif_, shl_, sh1_, shr_, tbn, tb0, tb1, les_t, les_f, pk_div, rem_, remv, and31, wu1, wuc, wui, wu2, ws1, wsc, ws2, wv1, fX6_wholeTexts_l24, fX6_wholeTexts_b63_24, fX6_wholeTexts_b97_24, c1, e2, rI, c2t, hq, htu2]
      · show (if gRead L S i j w = la then rn + 1 else 1) ≤ j + 1
        have hr : rn ≤ j := hr
        split <;> omega)
    (by
      rintro ⟨st, la, rn⟩ v ⟨g, rfl, fg, hr, hl⟩
      have c1 := ((CX_fr hx fg).2.1.2.2.2.1 i hi).1
      refine ⟨(nI st, g), ?_, g, rfl, fg⟩
      simp (disch := omega) only [↓reduceIte, wlet, Option.bind_some, true_and, and_true, not_true_eq_false, not_false_eq_true, reduceCtorEq, n0_, n1_, n2_, n3_, n4_, n5_, n6_, n7_, n8_, n9_, n10_, n12_, n16_, n18_, n20_, n21_, n22_, n24_, n25_, n26_, n27_, n28_, n29_, n30_, n31_, n32_, n40_, n41_, n42_, n43_, n45_, n48_, n54_, n57_, n58_, n59_, n60_, n61_, n63_, n96_, n97_, n99_, n100_, n122_, n126_, n200_, n255_, n375_, n400_, n1000_, n2000_, n9999_, n5764801_, n1000000_, n3000_, m1, m2, le_t, le_f, lt_t, lt_f, eq_t, eq_f, no_lt, no_le, le_no, lt_no, eq_no, no_eq, add_no, wib_t, clamp, nI_add, pk_mul, pk_sub, nor_, nand_, ndif_, shl_, sh1_, shr_, tbn, tb0, tb1, les_t, les_f, pk_div, rem_, remv, and31, wu1, wuc, wui, wu2, ws1, wsc, ws2, wv1, fX6_wholeTexts_l24, c1])
    (N := 3000) (by omega) (a0 := (a, none, 0)) (v0 := (nI a, wno, nI 0, nI 0, h)) ⟨h, rfl, fr_rf, Nat.le_refl _, fun t ht => by cases ht⟩
  exact ⟨e, g, he, eg, fg⟩
theorem c_whole (hx : CX h L k S) {w : Nat} (hw : w ≤ 9) : ∃ g, fX6_wholeTexts h k (nI w) = some (nI (gWhole L S w), g) ∧ fr sq h g := by
  have n1 := hx.1.1
  obtain ⟨e, he, g, eg, fg⟩ := wit_for (b := fun v : (Int32 × Int32 × wSt) => fX6_wholeTexts_l4 v.2.2 k (nI w) v.1 v.2.1) (fun i a => (gF (gWst L S w i) (gln L i) (a, none, 0)).1) (gns L)
    (fun i a v => ∃ g, v = (nI a, nI i, g) ∧ fr sq h g)
    (fun a e => ∃ g, e = (nI a, g) ∧ fr sq h g)
    (by
      rintro i a v hi ⟨g, rfl, fg⟩
      have hx2 := CX_fr hx fg
      obtain ⟨e, g2, he, eg, f2⟩ := c_line hx2 hi hw a
      have c1 := hx2.2.1.1
      refine ⟨(nI (gF (gWst L S w i) (gln L i) (a, none, 0)).1, nI (i + 1), g2), ?_, g2, rfl, fr_tr fg f2⟩
      simp (disch := omega) only [↓reduceIte, wlet, Option.bind_some, true_and, and_true, not_true_eq_false, not_false_eq_true, reduceCtorEq, n0_, n1_, n2_, n3_, n4_, n5_, n6_, n7_, n8_, n9_, n10_, n12_, n16_, n18_, n20_, n21_, n22_, n24_, n25_, n26_, n27_, n28_, n29_, n30_, n31_, n32_, n40_, n41_, n42_, n43_, n45_, n48_, n54_, n57_, n58_, n59_, n60_, n61_, n63_, n96_, n97_, n99_, n100_, n122_, n126_, n200_, n255_, n375_, n400_, n1000_, n2000_, n9999_, n5764801_, n1000000_, n3000_, m1, m2, le_t, le_f, lt_t, lt_f, eq_t, eq_f, no_lt, no_le, le_no, lt_no, eq_no, no_eq, add_no, wib_t, clamp, nI_add, pk_mul, pk_sub, nor_, nand_, ndif_, shl_, sh1_, shr_, tbn, tb0, tb1, les_t, les_f, pk_div, rem_, remv, and31, wu1, wuc, wui, wu2, ws1, wsc, ws2, wv1, fX6_wholeTexts_l4, c1, he, eg])
    (by
      rintro a v ⟨g, rfl, fg⟩
      have c1 := (CX_fr hx fg).2.1.1
      refine ⟨(nI a, g), ?_, g, rfl, fg⟩
      simp (disch := omega) only [↓reduceIte, wlet, Option.bind_some, true_and, and_true, not_true_eq_false, not_false_eq_true, reduceCtorEq, n0_, n1_, n2_, n3_, n4_, n5_, n6_, n7_, n8_, n9_, n10_, n12_, n16_, n18_, n20_, n21_, n22_, n24_, n25_, n26_, n27_, n28_, n29_, n30_, n31_, n32_, n40_, n41_, n42_, n43_, n45_, n48_, n54_, n57_, n58_, n59_, n60_, n61_, n63_, n96_, n97_, n99_, n100_, n122_, n126_, n200_, n255_, n375_, n400_, n1000_, n2000_, n9999_, n5764801_, n1000000_, n3000_, m1, m2, le_t, le_f, lt_t, lt_f, eq_t, eq_f, no_lt, no_le, le_no, lt_no, eq_no, no_eq, add_no, wib_t, clamp, nI_add, pk_mul, pk_sub, nor_, nand_, ndif_, shl_, sh1_, shr_, tbn, tb0, tb1, les_t, les_f, pk_div, rem_, remv, and31, wu1, wuc, wui, wu2, ws1, wsc, ws2, wv1, fX6_wholeTexts_l4, c1])
    (N := 3000) (by omega) (a0 := 0) (v0 := (nI 0, nI 0, h)) ⟨h, rfl, fr_rf⟩
  refine ⟨g, ?_, fg⟩
  simp (disch := omega) only [↓reduceIte, wlet, Option.bind_some, true_and, and_true, not_true_eq_false, not_false_eq_true, reduceCtorEq, n0_, n1_, n2_, n3_, n4_, n5_, n6_, n7_, n8_, n9_, n10_, n12_, n16_, n18_, n20_, n21_, n22_, n24_, n25_, n26_, n27_, n28_, n29_, n30_, n31_, n32_, n40_, n41_, n42_, n43_, n45_, n48_, n54_, n57_, n58_, n59_, n60_, n61_, n63_, n96_, n97_, n99_, n100_, n122_, n126_, n200_, n255_, n375_, n400_, n1000_, n2000_, n9999_, n5764801_, n1000000_, n3000_, m1, m2, le_t, le_f, lt_t, lt_f, eq_t, eq_f, no_lt, no_le, le_no, lt_no, eq_no, no_eq, add_no, wib_t, clamp, nI_add, pk_mul, pk_sub, nor_, nand_, ndif_, shl_, sh1_, shr_, tbn, tb0, tb1, les_t, les_f, pk_div, rem_, remv, and31, wu1, wuc, wui, wu2, ws1, wsc, ws2, wv1, fX6_wholeTexts, he, eg]
  rfl
theorem r_line (hx : MX h L S) {w i : Nat} (hi : i < gns L) (hw : w ≤ 9) (a : Nat) : ∃ e g, wit (fun v : (Int32 × Int32 × Int32 × Int32 × wSt) => fX11_wholeBy_l23 v.2.2.2.2 (nI w) (nI i) v.1 v.2.1 v.2.2.1 v.2.2.2.1) 3000 (nI a, wno, nI 0, nI 0, h) = some e ∧ e = (nI (gF (gWst L S w i) (gln L i) (a, none, 0)).1, g) ∧ fr sr h g := by
  have n1 := hx.1.1
  have n2 := hx.1.2.1
  obtain ⟨l1, l2, -⟩ := hx.1.2.2.2.1 i hi
  obtain ⟨e, he, g, eg, fg⟩ := wit_for (b := fun v : (Int32 × Int32 × Int32 × Int32 × wSt) => fX11_wholeBy_l23 v.2.2.2.2 (nI w) (nI i) v.1 v.2.1 v.2.2.1 v.2.2.2.1) (gWst L S w i) (gln L i)
    (fun j a v => ∃ g, v = (nI a.1, rI a.2.1, nI a.2.2, nI j, g) ∧ fr sr h g ∧ a.2.2 ≤ j ∧ ∀ t, a.2.1 = some t → t < gnt L)
    (fun a e => ∃ g, e = (nI a.1, g) ∧ fr sr h g)
    (by
      rintro j ⟨st, la, rn⟩ v hj ⟨g, rfl, fg, hr, hl⟩
      have hx2 := MX_sr hx fg
      obtain ⟨g2, e2, f2⟩ := r_shown hx2 hi (j := j) (w := w) (by omega) hw
      have hlt : ∀ t, gRead L S i j w = some t → t < gnt L := fun t ht => gRead_lt hx.1 hx.2.2.1 hi (by omega) ht
      have c1 := (hx2.2.1.2.2.2.1 i hi).1
      have f3 := MX_sr hx (fr_tr fg f2)
      have c2 := fun t ht => (f3.2.1.2.2.2.2.1 t ht).2.2.1
      have c3 := fun t ht => (hx.1.2.2.2.2.1 t ht).2.2
      refine ⟨(nI (gWst L S w i j (st, la, rn)).1, rI (gWst L S w i j (st, la, rn)).2.1, nI (gWst L S w i j (st, la, rn)).2.2, nI (j + 1), g2), ?_, g2, rfl, fr_tr fg f2, ?_, hlt⟩
      · unfold gWst
        have hr : rn ≤ j := hr
        have hl : ∀ t, la = some t → t < gnt L := hl
        revert e2 hlt
        generalize gRead L S i j w = x
        intro e2 hlt
        rcases x with _ | t <;> rcases la with _ | u
        · simp (disch := omega) only [↓reduceIte, wlet, Option.bind_some, true_and, and_true, not_true_eq_false, not_false_eq_true, reduceCtorEq, n0_, n1_, n2_, n3_, n4_, n5_, n6_, n7_, n8_, n9_, n10_, n12_, n16_, n18_, n20_, n21_, n22_, n24_, n25_, n26_, n27_, n28_, n29_, n30_, n31_, n32_, n40_, n41_, n42_, n43_, n45_, n48_, n54_, n57_, n58_, n59_, n60_, n61_, n63_, n96_, n97_, n99_, n100_, n122_, n126_, n200_, n255_, n375_, n400_, n1000_, n2000_, n9999_, n5764801_, n1000000_, n3000_, m1, m2, le_t, le_f, lt_t, lt_f, eq_t, eq_f, no_lt, no_le, le_no, lt_no, eq_no, no_eq, add_no, wib_t, clamp, nI_add, pk_mul, pk_sub, nor_, nand_, ndif_, shl_, sh1_, shr_, tbn, tb0, tb1, les_t, les_f, pk_div, rem_, remv, and31, wu1, wuc, wui, wu2, ws1, wsc, ws2, wv1, fX11_wholeBy_l23, fX11_wholeBy_b59_23, fX11_wholeBy_b89_23, c1, e2, rI]
        · have hu := hl u rfl
          simp (disch := omega) only [↓reduceIte, wlet, Option.bind_some, true_and, and_true, not_true_eq_false, not_false_eq_true, reduceCtorEq, n0_, n1_, n2_, n3_, n4_, n5_, n6_, n7_, n8_, n9_, n10_, n12_, n16_, n18_, n20_, n21_, n22_, n24_, n25_, n26_, n27_, n28_, n29_, n30_, n31_, n32_, n40_, n41_, n42_, n43_, n45_, n48_, n54_, n57_, n58_, n59_, n60_, n61_, n63_, n96_, n97_, n99_, n100_, n122_, n126_, n200_, n255_, n375_, n400_, n1000_, n2000_, n9999_, n5764801_, n1000000_, n3000_, m1, m2, le_t, le_f, lt_t, lt_f, eq_t, eq_f, no_lt, no_le, le_no, lt_no, eq_no, no_eq, add_no, wib_t, clamp, nI_add, pk_mul, pk_sub, nor_, nand_, ndif_, shl_, sh1_, shr_, tbn, tb0, tb1, les_t, les_f, pk_div, rem_, remv, and31, wu1, wuc, wui, wu2, ws1, wsc, ws2, wv1, fX11_wholeBy_l23, fX11_wholeBy_b59_23, fX11_wholeBy_b89_23, c1, e2, rI]
        · have ht := hlt t rfl
          have c2t := c2 t ht
          have c3t := c3 t ht
          by_cases hq : gtl L t ≤ 1
          · simp (disch := omega) only [↓reduceIte, wlet, Option.bind_some, true_and, and_true, not_true_eq_false, not_false_eq_true, reduceCtorEq, n0_, n1_, n2_, n3_, n4_, n5_, n6_, n7_, n8_, n9_, n10_, n12_, n16_, n18_, n20_, n21_, n22_, n24_, n25_, n26_, n27_, n28_, n29_, n30_, n31_, n32_, n40_, n41_, n42_, n43_, n45_, n48_, n54_, n57_, n58_, n59_, n60_, n61_, n63_, n96_, n97_, n99_, n100_, n122_, n126_, n200_, n255_, n375_, n400_, n1000_, n2000_, n9999_, n5764801_, n1000000_, n3000_, m1, m2, le_t, le_f, lt_t, lt_f, eq_t, eq_f, no_lt, no_le, le_no, lt_no, eq_no, no_eq, add_no, wib_t, clamp, nI_add, pk_mul, pk_sub, nor_, nand_, ndif_, shl_, sh1_, shr_, tbn, tb0, tb1, les_t, les_f, pk_div, rem_, remv, and31, wu1, wuc, wui, wu2, ws1, wsc, ws2, wv1, fX11_wholeBy_l23, fX11_wholeBy_b59_23, fX11_wholeBy_b89_23, c1, e2, rI, c2t, hq]
          · simp (disch := omega) only [↓reduceIte, wlet, Option.bind_some, true_and, and_true, not_true_eq_false, not_false_eq_true, reduceCtorEq, n0_, n1_, n2_, n3_, n4_, n5_, n6_, n7_, n8_, n9_, n10_, n12_, n16_, n18_, n20_, n21_, n22_, n24_, n25_, n26_, n27_, n28_, n29_, n30_, n31_, n32_, n40_, n41_, n42_, n43_, n45_, n48_, n54_, n57_, n58_, n59_, n60_, n61_, n63_, n96_, n97_, n99_, n100_, n122_, n126_, n200_, n255_, n375_, n400_, n1000_, n2000_, n9999_, n5764801_, n1000000_, n3000_, m1, m2, le_t, le_f, lt_t, lt_f, eq_t, eq_f, no_lt, no_le, le_no, lt_no, eq_no, no_eq, add_no, wib_t, clamp, nI_add, pk_mul, pk_sub, nor_, nand_, ndif_, shl_, sh1_, shr_, tbn, tb0, tb1, les_t, les_f, pk_div, rem_, remv, and31, wu1, wuc, wui, wu2, ws1, wsc, ws2, wv1, fX11_wholeBy_l23, fX11_wholeBy_b59_23, fX11_wholeBy_b89_23, c1, e2, rI, c2t, hq]
        · have ht := hlt t rfl
          have hu := hl u rfl
          have c2t := c2 t ht
          have c3t := c3 t ht
          by_cases htu : t = u
          · subst htu
            by_cases hq : gtl L t ≤ rn + 1
            · simp (disch := omega) only [↓reduceIte, wlet, Option.bind_some, true_and, and_true, not_true_eq_false, not_false_eq_true, reduceCtorEq, n0_, n1_, n2_, n3_, n4_, n5_, n6_, n7_, n8_, n9_, n10_, n12_, n16_, n18_, n20_, n21_, n22_, n24_, n25_, n26_, n27_, n28_, n29_, n30_, n31_, n32_, n40_, n41_, n42_, n43_, n45_, n48_, n54_, n57_, n58_, n59_, n60_, n61_, n63_, n96_, n97_, n99_, n100_, n122_, n126_, n200_, n255_, n375_, n400_, n1000_, n2000_, n9999_, n5764801_, n1000000_, n3000_, m1, m2, le_t, le_f, lt_t, lt_f, eq_t, eq_f, no_lt, no_le, le_no, lt_no, eq_no, no_eq, add_no, wib_t, clamp, nI_add, pk_mul, pk_sub, nor_, nand_, ndif_, shl_, sh1_, shr_, tbn, tb0, tb1, les_t, les_f, pk_div, rem_, remv, and31, wu1, wuc, wui, wu2, ws1, wsc, ws2, wv1, fX11_wholeBy_l23, fX11_wholeBy_b59_23, fX11_wholeBy_b89_23, c1, e2, rI, c2t, hq]
            · simp (disch := omega) only [↓reduceIte, wlet, Option.bind_some, true_and, and_true, not_true_eq_false, not_false_eq_true, reduceCtorEq, n0_, n1_, n2_, n3_, n4_, n5_, n6_, n7_, n8_, n9_, n10_, n12_, n16_, n18_, n20_, n21_, n22_, n24_, n25_, n26_, n27_, n28_, n29_, n30_, n31_, n32_, n40_, n41_, n42_, n43_, n45_, n48_, n54_, n57_, n58_, n59_, n60_, n61_, n63_, n96_, n97_, n99_, n100_, n122_, n126_, n200_, n255_, n375_, n400_, n1000_, n2000_, n9999_, n5764801_, n1000000_, n3000_, m1, m2, le_t, le_f, lt_t, lt_f, eq_t, eq_f, no_lt, no_le, le_no, lt_no, eq_no, no_eq, add_no, wib_t, clamp, nI_add, pk_mul, pk_sub, nor_, nand_, ndif_, shl_, sh1_, shr_, tbn, tb0, tb1, les_t, les_f, pk_div, rem_, remv, and31, wu1, wuc, wui, wu2, ws1, wsc, ws2, wv1, fX11_wholeBy_l23, fX11_wholeBy_b59_23, fX11_wholeBy_b89_23, c1, e2, rI, c2t, hq]
          · have htu2 : ¬ some t = some u := fun e => htu (Option.some.inj e)
            by_cases hq : gtl L t ≤ 1
            · simp (disch := omega) only [↓reduceIte, wlet, Option.bind_some, true_and, and_true, not_true_eq_false, not_false_eq_true, reduceCtorEq, n0_, n1_, n2_, n3_, n4_, n5_, n6_, n7_, n8_, n9_, n10_, n12_, n16_, n18_, n20_, n21_, n22_, n24_, n25_, n26_, n27_, n28_, n29_, n30_, n31_, n32_, n40_, n41_, n42_, n43_, n45_, n48_, n54_, n57_, n58_, n59_, n60_, n61_, n63_, n96_, n97_, n99_, n100_, n122_, n126_, n200_, n255_, n375_, n400_, n1000_, n2000_, n9999_, n5764801_, n1000000_, n3000_, m1, m2, le_t, le_f, lt_t, lt_f, eq_t, eq_f, no_lt, no_le, le_no, lt_no, eq_no, no_eq, add_no, wib_t, clamp, nI_add, pk_mul, pk_sub, nor_, nand_, ndif_, shl_, sh1_, shr_, tbn, tb0, tb1, les_t, les_f, pk_div, rem_, remv, and31, wu1, wuc, wui, wu2, ws1, wsc, ws2, wv1, fX11_wholeBy_l23, fX11_wholeBy_b59_23, fX11_wholeBy_b89_23, c1, e2, rI, c2t, hq, htu2]
            · simp (disch := omega) only [↓reduceIte, wlet, Option.bind_some, true_and, and_true, not_true_eq_false, not_false_eq_true, reduceCtorEq, n0_, n1_, n2_, n3_, n4_, n5_, n6_, n7_, n8_, n9_, n10_, n12_, n16_, n18_, n20_, n21_, n22_, n24_, n25_, n26_, n27_, n28_, n29_, n30_, n31_, n32_, n40_, n41_, n42_, n43_, n45_, n48_, n54_, n57_, n58_, n59_, n60_, n61_, n63_, n96_, n97_, n99_, n100_, n122_, n126_, n200_, n255_, n375_, n400_, n1000_, n2000_, n9999_, n5764801_, n1000000_, n3000_, m1, m2, le_t, le_f, lt_t, lt_f, eq_t, eq_f, no_lt, no_le, le_no, lt_no, eq_no, no_eq, add_no, wib_t, clamp, nI_add, pk_mul, pk_sub, nor_, nand_, ndif_, shl_, sh1_, shr_, tbn, tb0, tb1, les_t, les_f, pk_div, rem_, remv, and31, wu1, wuc, wui, wu2, ws1, wsc, ws2, wv1, fX11_wholeBy_l23, fX11_wholeBy_b59_23, fX11_wholeBy_b89_23, c1, e2, rI, c2t, hq, htu2]
      · show (if gRead L S i j w = la then rn + 1 else 1) ≤ j + 1
        have hr : rn ≤ j := hr
        split <;> omega)
    (by
      rintro ⟨st, la, rn⟩ v ⟨g, rfl, fg, hr, hl⟩
      have c1 := ((MX_sr hx fg).2.1.2.2.2.1 i hi).1
      refine ⟨(nI st, g), ?_, g, rfl, fg⟩
      simp (disch := omega) only [↓reduceIte, wlet, Option.bind_some, true_and, and_true, not_true_eq_false, not_false_eq_true, reduceCtorEq, n0_, n1_, n2_, n3_, n4_, n5_, n6_, n7_, n8_, n9_, n10_, n12_, n16_, n18_, n20_, n21_, n22_, n24_, n25_, n26_, n27_, n28_, n29_, n30_, n31_, n32_, n40_, n41_, n42_, n43_, n45_, n48_, n54_, n57_, n58_, n59_, n60_, n61_, n63_, n96_, n97_, n99_, n100_, n122_, n126_, n200_, n255_, n375_, n400_, n1000_, n2000_, n9999_, n5764801_, n1000000_, n3000_, m1, m2, le_t, le_f, lt_t, lt_f, eq_t, eq_f, no_lt, no_le, le_no, lt_no, eq_no, no_eq, add_no, wib_t, clamp, nI_add, pk_mul, pk_sub, nor_, nand_, ndif_, shl_, sh1_, shr_, tbn, tb0, tb1, les_t, les_f, pk_div, rem_, remv, and31, wu1, wuc, wui, wu2, ws1, wsc, ws2, wv1, fX11_wholeBy_l23, c1])
    (N := 3000) (by omega) (a0 := (a, none, 0)) (v0 := (nI a, wno, nI 0, nI 0, h)) ⟨h, rfl, fr_rf, Nat.le_refl _, fun t ht => by cases ht⟩
  exact ⟨e, g, he, eg, fg⟩
theorem r_whole (hx : MX h L S) {w : Nat} (hw : w ≤ 9) : ∃ g, fX11_wholeBy h (nI w) = some (nI (gWhole L S w), g) ∧ fr sr h g := by
  have n1 := hx.1.1
  obtain ⟨e, he, g, eg, fg⟩ := wit_for (b := fun v : (Int32 × Int32 × wSt) => fX11_wholeBy_l4 v.2.2 (nI w) v.1 v.2.1) (fun i a => (gF (gWst L S w i) (gln L i) (a, none, 0)).1) (gns L)
    (fun i a v => ∃ g, v = (nI a, nI i, g) ∧ fr sr h g)
    (fun a e => ∃ g, e = (nI a, g) ∧ fr sr h g)
    (by
      rintro i a v hi ⟨g, rfl, fg⟩
      have hx2 := MX_sr hx fg
      obtain ⟨e, g2, he, eg, f2⟩ := r_line hx2 hi hw a
      have c1 := hx2.2.1.1
      refine ⟨(nI (gF (gWst L S w i) (gln L i) (a, none, 0)).1, nI (i + 1), g2), ?_, g2, rfl, fr_tr fg f2⟩
      simp (disch := omega) only [↓reduceIte, wlet, Option.bind_some, true_and, and_true, not_true_eq_false, not_false_eq_true, reduceCtorEq, n0_, n1_, n2_, n3_, n4_, n5_, n6_, n7_, n8_, n9_, n10_, n12_, n16_, n18_, n20_, n21_, n22_, n24_, n25_, n26_, n27_, n28_, n29_, n30_, n31_, n32_, n40_, n41_, n42_, n43_, n45_, n48_, n54_, n57_, n58_, n59_, n60_, n61_, n63_, n96_, n97_, n99_, n100_, n122_, n126_, n200_, n255_, n375_, n400_, n1000_, n2000_, n9999_, n5764801_, n1000000_, n3000_, m1, m2, le_t, le_f, lt_t, lt_f, eq_t, eq_f, no_lt, no_le, le_no, lt_no, eq_no, no_eq, add_no, wib_t, clamp, nI_add, pk_mul, pk_sub, nor_, nand_, ndif_, shl_, sh1_, shr_, tbn, tb0, tb1, les_t, les_f, pk_div, rem_, remv, and31, wu1, wuc, wui, wu2, ws1, wsc, ws2, wv1, fX11_wholeBy_l4, c1, he, eg])
    (by
      rintro a v ⟨g, rfl, fg⟩
      have c1 := (MX_sr hx fg).2.1.1
      refine ⟨(nI a, g), ?_, g, rfl, fg⟩
      simp (disch := omega) only [↓reduceIte, wlet, Option.bind_some, true_and, and_true, not_true_eq_false, not_false_eq_true, reduceCtorEq, n0_, n1_, n2_, n3_, n4_, n5_, n6_, n7_, n8_, n9_, n10_, n12_, n16_, n18_, n20_, n21_, n22_, n24_, n25_, n26_, n27_, n28_, n29_, n30_, n31_, n32_, n40_, n41_, n42_, n43_, n45_, n48_, n54_, n57_, n58_, n59_, n60_, n61_, n63_, n96_, n97_, n99_, n100_, n122_, n126_, n200_, n255_, n375_, n400_, n1000_, n2000_, n9999_, n5764801_, n1000000_, n3000_, m1, m2, le_t, le_f, lt_t, lt_f, eq_t, eq_f, no_lt, no_le, le_no, lt_no, eq_no, no_eq, add_no, wib_t, clamp, nI_add, pk_mul, pk_sub, nor_, nand_, ndif_, shl_, sh1_, shr_, tbn, tb0, tb1, les_t, les_f, pk_div, rem_, remv, and31, wu1, wuc, wui, wu2, ws1, wsc, ws2, wv1, fX11_wholeBy_l4, c1])
    (N := 3000) (by omega) (a0 := 0) (v0 := (nI 0, nI 0, h)) ⟨h, rfl, fr_rf⟩
  refine ⟨g, ?_, fg⟩
  simp (disch := omega) only [↓reduceIte, wlet, Option.bind_some, true_and, and_true, not_true_eq_false, not_false_eq_true, reduceCtorEq, n0_, n1_, n2_, n3_, n4_, n5_, n6_, n7_, n8_, n9_, n10_, n12_, n16_, n18_, n20_, n21_, n22_, n24_, n25_, n26_, n27_, n28_, n29_, n30_, n31_, n32_, n40_, n41_, n42_, n43_, n45_, n48_, n54_, n57_, n58_, n59_, n60_, n61_, n63_, n96_, n97_, n99_, n100_, n122_, n126_, n200_, n255_, n375_, n400_, n1000_, n2000_, n9999_, n5764801_, n1000000_, n3000_, m1, m2, le_t, le_f, lt_t, lt_f, eq_t, eq_f, no_lt, no_le, le_no, lt_no, eq_no, no_eq, add_no, wib_t, clamp, nI_add, pk_mul, pk_sub, nor_, nand_, ndif_, shl_, sh1_, shr_, tbn, tb0, tb1, les_t, les_f, pk_div, rem_, remv, and31, wu1, wuc, wui, wu2, ws1, wsc, ws2, wv1, fX11_wholeBy, he, eg]
  rfl
theorem c_lines (hx : CX h L k S) {w i : Nat} (hi : i < gns L) (hw : w ≤ 9) : ∃ g, fX6_shownLines h k (nI i) (nI w) = some (nI (gIn L S w none i), g) ∧ fr sq h g := by
  have n1 := hx.1.1
  have n2 := hx.1.2.1
  obtain ⟨l1, l2, -⟩ := hx.1.2.2.2.1 i hi
  obtain ⟨e, he, g, eg, fg⟩ := wit_for (b := fun v : (Int32 × Int32 × wSt) => fX6_shownLines_l5 v.2.2 k (nI i) (nI w) v.1 v.2.1) (fun j a => if gHit (gRead L S i j w) none then a ||| 2 ^ j else a) (gln L i)
    (fun j a v => ∃ g, v = (nI a, nI j, g) ∧ fr sq h g)
    (fun a e => ∃ g, e = (nI a, g) ∧ fr sq h g)
    (by
      rintro j a v hj ⟨g, rfl, fg⟩
      have hx2 := CX_fr hx fg
      obtain ⟨g2, e2, f2⟩ := c_shown hx2 hi (j := j) (w := w) (by omega) hw
      have hlt : ∀ t, gRead L S i j w = some t → t < gnt L := fun t ht => gRead_lt hx.1 hx.2.2.1 hi (by omega) ht
      have c1 := (hx2.2.1.2.2.2.1 i hi).1
      refine ⟨(nI (if gHit (gRead L S i j w) none then a ||| 2 ^ j else a), nI (j + 1), g2), ?_, g2, rfl, fr_tr fg f2⟩
      revert e2 hlt
      generalize gRead L S i j w = x
      intro e2 hlt
      rcases x with _ | t
      · simp (disch := omega) only [↓reduceIte, wlet, Option.bind_some, true_and, and_true, not_true_eq_false, not_false_eq_true, reduceCtorEq, n0_, n1_, n2_, n3_, n4_, n5_, n6_, n7_, n8_, n9_, n10_, n12_, n16_, n18_, n20_, n21_, n22_, n24_, n25_, n26_, n27_, n28_, n29_, n30_, n31_, n32_, n40_, n41_, n42_, n43_, n45_, n48_, n54_, n57_, n58_, n59_, n60_, n61_, n63_, n96_, n97_, n99_, n100_, n122_, n126_, n200_, n255_, n375_, n400_, n1000_, n2000_, n9999_, n5764801_, n1000000_, n3000_, m1, m2, le_t, le_f, lt_t, lt_f, eq_t, eq_f, no_lt, no_le, le_no, lt_no, eq_no, no_eq, add_no, wib_t, clamp, nI_add, pk_mul, pk_sub, nor_, nand_, ndif_, shl_, sh1_, shr_, tbn, tb0, tb1, les_t, les_f, pk_div, rem_, remv, and31, wu1, wuc, wui, wu2, ws1, wsc, ws2, wv1, fX6_shownLines_l5, fX6_shownLines_b38_5, c1, e2, rI, gHit, Bool.false_eq_true]
      · have ht := hlt t rfl
        simp (disch := omega) only [↓reduceIte, wlet, Option.bind_some, true_and, and_true, not_true_eq_false, not_false_eq_true, reduceCtorEq, n0_, n1_, n2_, n3_, n4_, n5_, n6_, n7_, n8_, n9_, n10_, n12_, n16_, n18_, n20_, n21_, n22_, n24_, n25_, n26_, n27_, n28_, n29_, n30_, n31_, n32_, n40_, n41_, n42_, n43_, n45_, n48_, n54_, n57_, n58_, n59_, n60_, n61_, n63_, n96_, n97_, n99_, n100_, n122_, n126_, n200_, n255_, n375_, n400_, n1000_, n2000_, n9999_, n5764801_, n1000000_, n3000_, m1, m2, le_t, le_f, lt_t, lt_f, eq_t, eq_f, no_lt, no_le, le_no, lt_no, eq_no, no_eq, add_no, wib_t, clamp, nI_add, pk_mul, pk_sub, nor_, nand_, ndif_, shl_, sh1_, shr_, tbn, tb0, tb1, les_t, les_f, pk_div, rem_, remv, and31, wu1, wuc, wui, wu2, ws1, wsc, ws2, wv1, fX6_shownLines_l5, fX6_shownLines_b38_5, c1, e2, rI, gHit])
    (by
      rintro a v ⟨g, rfl, fg⟩
      have c1 := ((CX_fr hx fg).2.1.2.2.2.1 i hi).1
      refine ⟨(nI a, g), ?_, g, rfl, fg⟩
      simp (disch := omega) only [↓reduceIte, wlet, Option.bind_some, true_and, and_true, not_true_eq_false, not_false_eq_true, reduceCtorEq, n0_, n1_, n2_, n3_, n4_, n5_, n6_, n7_, n8_, n9_, n10_, n12_, n16_, n18_, n20_, n21_, n22_, n24_, n25_, n26_, n27_, n28_, n29_, n30_, n31_, n32_, n40_, n41_, n42_, n43_, n45_, n48_, n54_, n57_, n58_, n59_, n60_, n61_, n63_, n96_, n97_, n99_, n100_, n122_, n126_, n200_, n255_, n375_, n400_, n1000_, n2000_, n9999_, n5764801_, n1000000_, n3000_, m1, m2, le_t, le_f, lt_t, lt_f, eq_t, eq_f, no_lt, no_le, le_no, lt_no, eq_no, no_eq, add_no, wib_t, clamp, nI_add, pk_mul, pk_sub, nor_, nand_, ndif_, shl_, sh1_, shr_, tbn, tb0, tb1, les_t, les_f, pk_div, rem_, remv, and31, wu1, wuc, wui, wu2, ws1, wsc, ws2, wv1, fX6_shownLines_l5, c1])
    (N := 3000) (by omega) (a0 := 0) (v0 := (nI 0, nI 0, h)) ⟨h, rfl, fr_rf⟩
  refine ⟨g, ?_, fg⟩
  simp (disch := omega) only [↓reduceIte, wlet, Option.bind_some, true_and, and_true, not_true_eq_false, not_false_eq_true, reduceCtorEq, n0_, n1_, n2_, n3_, n4_, n5_, n6_, n7_, n8_, n9_, n10_, n12_, n16_, n18_, n20_, n21_, n22_, n24_, n25_, n26_, n27_, n28_, n29_, n30_, n31_, n32_, n40_, n41_, n42_, n43_, n45_, n48_, n54_, n57_, n58_, n59_, n60_, n61_, n63_, n96_, n97_, n99_, n100_, n122_, n126_, n200_, n255_, n375_, n400_, n1000_, n2000_, n9999_, n5764801_, n1000000_, n3000_, m1, m2, le_t, le_f, lt_t, lt_f, eq_t, eq_f, no_lt, no_le, le_no, lt_no, eq_no, no_eq, add_no, wib_t, clamp, nI_add, pk_mul, pk_sub, nor_, nand_, ndif_, shl_, sh1_, shr_, tbn, tb0, tb1, les_t, les_f, pk_div, rem_, remv, and31, wu1, wuc, wui, wu2, ws1, wsc, ws2, wv1, fX6_shownLines, he, eg]
  rfl
theorem r_in (hx : MX h L S) {i : Nat} (hi : i < gns L) (q : Option Nat) (hq : ∀ t, q = some t → t < 64) : ∃ g, fX11_readIn h (nI i) (rI q) = some (nI (gIn L S (gDamp L S.1) q i), g) ∧ fr sr h g := by
  have n1 := hx.1.1
  have n2 := hx.1.2.1
  have hwk := hx.2.2.1.1
  have hw := gDamp_le hx.1 S.1
  obtain ⟨l1, l2, -⟩ := hx.1.2.2.2.1 i hi
  obtain ⟨e, he, g, eg, fg⟩ := wit_for (b := fun v : (Int32 × Int32 × wSt) => fX11_readIn_l5 v.2.2 (nI i) (rI q) v.1 v.2.1) (fun j a => if gHit (gRead L S i j (gDamp L S.1)) q then a ||| 2 ^ j else a) (gln L i)
    (fun j a v => ∃ g, v = (nI a, nI j, g) ∧ fr sr h g)
    (fun a e => ∃ g, e = (nI a, g) ∧ fr sr h g)
    (by
      rintro j a v hj ⟨g, rfl, fg⟩
      have hx2 := MX_sr hx fg
      have d1 := r_damp hx2.1 hx2.2.1 (w := S.1) (by omega)
      have d2 := hx2.2.2.2.1
      obtain ⟨g2, e2, f2⟩ := r_shown hx2 hi (j := j) (w := gDamp L S.1) (by omega) hw
      have hlt : ∀ t, gRead L S i j (gDamp L S.1) = some t → t < gnt L := fun t ht => gRead_lt hx.1 hx.2.2.1 hi (by omega) ht
      have c1 := (hx2.2.1.2.2.2.1 i hi).1
      refine ⟨(nI (if gHit (gRead L S i j (gDamp L S.1)) q then a ||| 2 ^ j else a), nI (j + 1), g2), ?_, g2, rfl, fr_tr fg f2⟩
      revert e2 hlt
      generalize gRead L S i j (gDamp L S.1) = x
      intro e2 hlt
      rcases x with _ | t
      · simp (disch := omega) only [↓reduceIte, wlet, Option.bind_some, true_and, and_true, not_true_eq_false, not_false_eq_true, reduceCtorEq, n0_, n1_, n2_, n3_, n4_, n5_, n6_, n7_, n8_, n9_, n10_, n12_, n16_, n18_, n20_, n21_, n22_, n24_, n25_, n26_, n27_, n28_, n29_, n30_, n31_, n32_, n40_, n41_, n42_, n43_, n45_, n48_, n54_, n57_, n58_, n59_, n60_, n61_, n63_, n96_, n97_, n99_, n100_, n122_, n126_, n200_, n255_, n375_, n400_, n1000_, n2000_, n9999_, n5764801_, n1000000_, n3000_, m1, m2, le_t, le_f, lt_t, lt_f, eq_t, eq_f, no_lt, no_le, le_no, lt_no, eq_no, no_eq, add_no, wib_t, clamp, nI_add, pk_mul, pk_sub, nor_, nand_, ndif_, shl_, sh1_, shr_, tbn, tb0, tb1, les_t, les_f, pk_div, rem_, remv, and31, wu1, wuc, wui, wu2, ws1, wsc, ws2, wv1, fX11_readIn_l5, fX11_readIn_b51_5, fX11_readIn_b58_5, fX11_readIn_b59_5, c1, d1, d2, e2, rI, gHit, Bool.false_eq_true, Nat.or_zero]
      · have ht := hlt t rfl
        rcases q with _ | u
        · simp (disch := omega) only [↓reduceIte, wlet, Option.bind_some, true_and, and_true, not_true_eq_false, not_false_eq_true, reduceCtorEq, n0_, n1_, n2_, n3_, n4_, n5_, n6_, n7_, n8_, n9_, n10_, n12_, n16_, n18_, n20_, n21_, n22_, n24_, n25_, n26_, n27_, n28_, n29_, n30_, n31_, n32_, n40_, n41_, n42_, n43_, n45_, n48_, n54_, n57_, n58_, n59_, n60_, n61_, n63_, n96_, n97_, n99_, n100_, n122_, n126_, n200_, n255_, n375_, n400_, n1000_, n2000_, n9999_, n5764801_, n1000000_, n3000_, m1, m2, le_t, le_f, lt_t, lt_f, eq_t, eq_f, no_lt, no_le, le_no, lt_no, eq_no, no_eq, add_no, wib_t, clamp, nI_add, pk_mul, pk_sub, nor_, nand_, ndif_, shl_, sh1_, shr_, tbn, tb0, tb1, les_t, les_f, pk_div, rem_, remv, and31, wu1, wuc, wui, wu2, ws1, wsc, ws2, wv1, fX11_readIn_l5, fX11_readIn_b51_5, fX11_readIn_b58_5, fX11_readIn_b59_5, c1, d1, d2, e2, rI, gHit]
        · have hu := hq u rfl
          by_cases htu : t = u
          · subst htu
            simp (disch := omega) only [↓reduceIte, wlet, Option.bind_some, true_and, and_true, not_true_eq_false, not_false_eq_true, reduceCtorEq, n0_, n1_, n2_, n3_, n4_, n5_, n6_, n7_, n8_, n9_, n10_, n12_, n16_, n18_, n20_, n21_, n22_, n24_, n25_, n26_, n27_, n28_, n29_, n30_, n31_, n32_, n40_, n41_, n42_, n43_, n45_, n48_, n54_, n57_, n58_, n59_, n60_, n61_, n63_, n96_, n97_, n99_, n100_, n122_, n126_, n200_, n255_, n375_, n400_, n1000_, n2000_, n9999_, n5764801_, n1000000_, n3000_, m1, m2, le_t, le_f, lt_t, lt_f, eq_t, eq_f, no_lt, no_le, le_no, lt_no, eq_no, no_eq, add_no, wib_t, clamp, nI_add, pk_mul, pk_sub, nor_, nand_, ndif_, shl_, sh1_, shr_, tbn, tb0, tb1, les_t, les_f, pk_div, rem_, remv, and31, wu1, wuc, wui, wu2, ws1, wsc, ws2, wv1, fX11_readIn_l5, fX11_readIn_b51_5, fX11_readIn_b58_5, fX11_readIn_b59_5, c1, d1, d2, e2, rI, gHit, beq_self_eq_true]
          · have hb : (t == u) = false := beq_eq_false_iff_ne.mpr htu
            simp (disch := omega) only [↓reduceIte, wlet, Option.bind_some, true_and, and_true, not_true_eq_false, not_false_eq_true, reduceCtorEq, n0_, n1_, n2_, n3_, n4_, n5_, n6_, n7_, n8_, n9_, n10_, n12_, n16_, n18_, n20_, n21_, n22_, n24_, n25_, n26_, n27_, n28_, n29_, n30_, n31_, n32_, n40_, n41_, n42_, n43_, n45_, n48_, n54_, n57_, n58_, n59_, n60_, n61_, n63_, n96_, n97_, n99_, n100_, n122_, n126_, n200_, n255_, n375_, n400_, n1000_, n2000_, n9999_, n5764801_, n1000000_, n3000_, m1, m2, le_t, le_f, lt_t, lt_f, eq_t, eq_f, no_lt, no_le, le_no, lt_no, eq_no, no_eq, add_no, wib_t, clamp, nI_add, pk_mul, pk_sub, nor_, nand_, ndif_, shl_, sh1_, shr_, tbn, tb0, tb1, les_t, les_f, pk_div, rem_, remv, and31, wu1, wuc, wui, wu2, ws1, wsc, ws2, wv1, fX11_readIn_l5, fX11_readIn_b51_5, fX11_readIn_b58_5, fX11_readIn_b59_5, c1, d1, d2, e2, rI, gHit, hb, Bool.false_eq_true, Nat.or_zero])
    (by
      rintro a v ⟨g, rfl, fg⟩
      have c1 := ((MX_sr hx fg).2.1.2.2.2.1 i hi).1
      refine ⟨(nI a, g), ?_, g, rfl, fg⟩
      simp (disch := omega) only [↓reduceIte, wlet, Option.bind_some, true_and, and_true, not_true_eq_false, not_false_eq_true, reduceCtorEq, n0_, n1_, n2_, n3_, n4_, n5_, n6_, n7_, n8_, n9_, n10_, n12_, n16_, n18_, n20_, n21_, n22_, n24_, n25_, n26_, n27_, n28_, n29_, n30_, n31_, n32_, n40_, n41_, n42_, n43_, n45_, n48_, n54_, n57_, n58_, n59_, n60_, n61_, n63_, n96_, n97_, n99_, n100_, n122_, n126_, n200_, n255_, n375_, n400_, n1000_, n2000_, n9999_, n5764801_, n1000000_, n3000_, m1, m2, le_t, le_f, lt_t, lt_f, eq_t, eq_f, no_lt, no_le, le_no, lt_no, eq_no, no_eq, add_no, wib_t, clamp, nI_add, pk_mul, pk_sub, nor_, nand_, ndif_, shl_, sh1_, shr_, tbn, tb0, tb1, les_t, les_f, pk_div, rem_, remv, and31, wu1, wuc, wui, wu2, ws1, wsc, ws2, wv1, fX11_readIn_l5, c1])
    (N := 3000) (by omega) (a0 := 0) (v0 := (nI 0, nI 0, h)) ⟨h, rfl, fr_rf⟩
  refine ⟨g, ?_, fg⟩
  simp (disch := omega) only [↓reduceIte, wlet, Option.bind_some, true_and, and_true, not_true_eq_false, not_false_eq_true, reduceCtorEq, n0_, n1_, n2_, n3_, n4_, n5_, n6_, n7_, n8_, n9_, n10_, n12_, n16_, n18_, n20_, n21_, n22_, n24_, n25_, n26_, n27_, n28_, n29_, n30_, n31_, n32_, n40_, n41_, n42_, n43_, n45_, n48_, n54_, n57_, n58_, n59_, n60_, n61_, n63_, n96_, n97_, n99_, n100_, n122_, n126_, n200_, n255_, n375_, n400_, n1000_, n2000_, n9999_, n5764801_, n1000000_, n3000_, m1, m2, le_t, le_f, lt_t, lt_f, eq_t, eq_f, no_lt, no_le, le_no, lt_no, eq_no, no_eq, add_no, wib_t, clamp, nI_add, pk_mul, pk_sub, nor_, nand_, ndif_, shl_, sh1_, shr_, tbn, tb0, tb1, les_t, les_f, pk_div, rem_, remv, and31, wu1, wuc, wui, wu2, ws1, wsc, ws2, wv1, fX11_readIn, he, eg]
  rfl
theorem c_made (hx : CX h L k S) {w t : Nat} (ht : t < gnt L) (hw : w ≤ 9) : ∃ g, fX6_made h k (nI t) (nI w) = some (nI (gMade L S w t), g) ∧ fr sq h g := by
  have n1 := hx.1.1
  have n2 := hx.1.2.1
  obtain ⟨e, he, g, eg, fg⟩ := wit_for (b := fun v : (Int32 × Int32 × wSt) => fX6_made_l5 v.2.2 k (nI t) (nI w) v.1 v.2.1) (fun i n => gCount (fun j => gRead L S i j w == some t) (gln L i) n) (gns L)
    (fun i a v => ∃ g, v = (nI a, nI i, g) ∧ fr sq h g)
    (fun a e => ∃ g, e = (nI a, g) ∧ fr sq h g)
    (by
      rintro i n v hi ⟨g, rfl, fg⟩
      have hx2 := CX_fr hx fg
      obtain ⟨l1, l2, -⟩ := hx.1.2.2.2.1 i hi
      obtain ⟨e, he, g2, eg, f2⟩ := wit_for (b := fun v : (Int32 × Int32 × wSt) => fX6_made_l20 v.2.2 k (nI t) (nI w) (nI i) v.1 v.2.1) (fun j n => if (gRead L S i j w == some t) then n + 1 else n) (gln L i)
        (fun j a v => ∃ g, v = (nI a, nI j, g) ∧ fr sq h g)
        (fun a e => ∃ g, e = (nI a, g) ∧ fr sq h g)
        (by
          rintro j a v hj ⟨g, rfl, fg⟩
          have hx2 := CX_fr hx fg
          obtain ⟨g2, e2, f2⟩ := c_shown hx2 hi (j := j) (w := w) (by omega) hw
          have hlt : ∀ t, gRead L S i j w = some t → t < gnt L := fun t ht => gRead_lt hx.1 hx.2.2.1 hi (by omega) ht
          have c1 := (hx2.2.1.2.2.2.1 i hi).1
          refine ⟨(nI (if (gRead L S i j w == some t) then a + 1 else a), nI (j + 1), g2), ?_, g2, rfl, fr_tr fg f2⟩
          revert e2 hlt
          generalize gRead L S i j w = x
          intro e2 hlt
          rcases x with _ | u
          · have hb : ((none : Option Nat) == some t) = false := rfl
            simp (disch := omega) only [↓reduceIte, wlet, Option.bind_some, true_and, and_true, not_true_eq_false, not_false_eq_true, reduceCtorEq, n0_, n1_, n2_, n3_, n4_, n5_, n6_, n7_, n8_, n9_, n10_, n12_, n16_, n18_, n20_, n21_, n22_, n24_, n25_, n26_, n27_, n28_, n29_, n30_, n31_, n32_, n40_, n41_, n42_, n43_, n45_, n48_, n54_, n57_, n58_, n59_, n60_, n61_, n63_, n96_, n97_, n99_, n100_, n122_, n126_, n200_, n255_, n375_, n400_, n1000_, n2000_, n9999_, n5764801_, n1000000_, n3000_, m1, m2, le_t, le_f, lt_t, lt_f, eq_t, eq_f, no_lt, no_le, le_no, lt_no, eq_no, no_eq, add_no, wib_t, clamp, nI_add, pk_mul, pk_sub, nor_, nand_, ndif_, shl_, sh1_, shr_, tbn, tb0, tb1, les_t, les_f, pk_div, rem_, remv, and31, wu1, wuc, wui, wu2, ws1, wsc, ws2, wv1, fX6_made_l20, fX6_made_b51_20, c1, e2, rI, hb, Bool.false_eq_true]
          · have hu := hlt u rfl
            by_cases htu : u = t
            · subst htu
              simp (disch := omega) only [↓reduceIte, wlet, Option.bind_some, true_and, and_true, not_true_eq_false, not_false_eq_true, reduceCtorEq, n0_, n1_, n2_, n3_, n4_, n5_, n6_, n7_, n8_, n9_, n10_, n12_, n16_, n18_, n20_, n21_, n22_, n24_, n25_, n26_, n27_, n28_, n29_, n30_, n31_, n32_, n40_, n41_, n42_, n43_, n45_, n48_, n54_, n57_, n58_, n59_, n60_, n61_, n63_, n96_, n97_, n99_, n100_, n122_, n126_, n200_, n255_, n375_, n400_, n1000_, n2000_, n9999_, n5764801_, n1000000_, n3000_, m1, m2, le_t, le_f, lt_t, lt_f, eq_t, eq_f, no_lt, no_le, le_no, lt_no, eq_no, no_eq, add_no, wib_t, clamp, nI_add, pk_mul, pk_sub, nor_, nand_, ndif_, shl_, sh1_, shr_, tbn, tb0, tb1, les_t, les_f, pk_div, rem_, remv, and31, wu1, wuc, wui, wu2, ws1, wsc, ws2, wv1, fX6_made_l20, fX6_made_b51_20, c1, e2, rI, beq_self_eq_true]
            · have hb : (some u == some t) = false := beq_eq_false_iff_ne.mpr (fun e => htu (Option.some.inj e))
              simp (disch := omega) only [↓reduceIte, wlet, Option.bind_some, true_and, and_true, not_true_eq_false, not_false_eq_true, reduceCtorEq, n0_, n1_, n2_, n3_, n4_, n5_, n6_, n7_, n8_, n9_, n10_, n12_, n16_, n18_, n20_, n21_, n22_, n24_, n25_, n26_, n27_, n28_, n29_, n30_, n31_, n32_, n40_, n41_, n42_, n43_, n45_, n48_, n54_, n57_, n58_, n59_, n60_, n61_, n63_, n96_, n97_, n99_, n100_, n122_, n126_, n200_, n255_, n375_, n400_, n1000_, n2000_, n9999_, n5764801_, n1000000_, n3000_, m1, m2, le_t, le_f, lt_t, lt_f, eq_t, eq_f, no_lt, no_le, le_no, lt_no, eq_no, no_eq, add_no, wib_t, clamp, nI_add, pk_mul, pk_sub, nor_, nand_, ndif_, shl_, sh1_, shr_, tbn, tb0, tb1, les_t, les_f, pk_div, rem_, remv, and31, wu1, wuc, wui, wu2, ws1, wsc, ws2, wv1, fX6_made_l20, fX6_made_b51_20, c1, e2, rI, hb, Bool.false_eq_true])
        (by
          rintro a v ⟨g, rfl, fg⟩
          have c1 := ((CX_fr hx fg).2.1.2.2.2.1 i hi).1
          refine ⟨(nI a, g), ?_, g, rfl, fg⟩
          simp (disch := omega) only [↓reduceIte, wlet, Option.bind_some, true_and, and_true, not_true_eq_false, not_false_eq_true, reduceCtorEq, n0_, n1_, n2_, n3_, n4_, n5_, n6_, n7_, n8_, n9_, n10_, n12_, n16_, n18_, n20_, n21_, n22_, n24_, n25_, n26_, n27_, n28_, n29_, n30_, n31_, n32_, n40_, n41_, n42_, n43_, n45_, n48_, n54_, n57_, n58_, n59_, n60_, n61_, n63_, n96_, n97_, n99_, n100_, n122_, n126_, n200_, n255_, n375_, n400_, n1000_, n2000_, n9999_, n5764801_, n1000000_, n3000_, m1, m2, le_t, le_f, lt_t, lt_f, eq_t, eq_f, no_lt, no_le, le_no, lt_no, eq_no, no_eq, add_no, wib_t, clamp, nI_add, pk_mul, pk_sub, nor_, nand_, ndif_, shl_, sh1_, shr_, tbn, tb0, tb1, les_t, les_f, pk_div, rem_, remv, and31, wu1, wuc, wui, wu2, ws1, wsc, ws2, wv1, fX6_made_l20, c1])
        (N := 3000) (by omega) (a0 := n) (v0 := (nI n, nI 0, g)) ⟨g, rfl, fg⟩
      have c1 := hx2.2.1.1
      refine ⟨(nI (gCount (fun j => gRead L S i j w == some t) (gln L i) n), nI (i + 1), g2), ?_, g2, rfl, f2⟩
      simp (disch := omega) only [↓reduceIte, wlet, Option.bind_some, true_and, and_true, not_true_eq_false, not_false_eq_true, reduceCtorEq, n0_, n1_, n2_, n3_, n4_, n5_, n6_, n7_, n8_, n9_, n10_, n12_, n16_, n18_, n20_, n21_, n22_, n24_, n25_, n26_, n27_, n28_, n29_, n30_, n31_, n32_, n40_, n41_, n42_, n43_, n45_, n48_, n54_, n57_, n58_, n59_, n60_, n61_, n63_, n96_, n97_, n99_, n100_, n122_, n126_, n200_, n255_, n375_, n400_, n1000_, n2000_, n9999_, n5764801_, n1000000_, n3000_, m1, m2, le_t, le_f, lt_t, lt_f, eq_t, eq_f, no_lt, no_le, le_no, lt_no, eq_no, no_eq, add_no, wib_t, clamp, nI_add, pk_mul, pk_sub, nor_, nand_, ndif_, shl_, sh1_, shr_, tbn, tb0, tb1, les_t, les_f, pk_div, rem_, remv, and31, wu1, wuc, wui, wu2, ws1, wsc, ws2, wv1, fX6_made_l5, c1, he, eg]
      rfl)
    (by
      rintro a v ⟨g, rfl, fg⟩
      have c1 := (CX_fr hx fg).2.1.1
      refine ⟨(nI a, g), ?_, g, rfl, fg⟩
      simp (disch := omega) only [↓reduceIte, wlet, Option.bind_some, true_and, and_true, not_true_eq_false, not_false_eq_true, reduceCtorEq, n0_, n1_, n2_, n3_, n4_, n5_, n6_, n7_, n8_, n9_, n10_, n12_, n16_, n18_, n20_, n21_, n22_, n24_, n25_, n26_, n27_, n28_, n29_, n30_, n31_, n32_, n40_, n41_, n42_, n43_, n45_, n48_, n54_, n57_, n58_, n59_, n60_, n61_, n63_, n96_, n97_, n99_, n100_, n122_, n126_, n200_, n255_, n375_, n400_, n1000_, n2000_, n9999_, n5764801_, n1000000_, n3000_, m1, m2, le_t, le_f, lt_t, lt_f, eq_t, eq_f, no_lt, no_le, le_no, lt_no, eq_no, no_eq, add_no, wib_t, clamp, nI_add, pk_mul, pk_sub, nor_, nand_, ndif_, shl_, sh1_, shr_, tbn, tb0, tb1, les_t, les_f, pk_div, rem_, remv, and31, wu1, wuc, wui, wu2, ws1, wsc, ws2, wv1, fX6_made_l5, c1])
    (N := 3000) (by omega) (a0 := 0) (v0 := (nI 0, nI 0, h)) ⟨h, rfl, fr_rf⟩
  refine ⟨g, ?_, fg⟩
  simp (disch := omega) only [↓reduceIte, wlet, Option.bind_some, true_and, and_true, not_true_eq_false, not_false_eq_true, reduceCtorEq, n0_, n1_, n2_, n3_, n4_, n5_, n6_, n7_, n8_, n9_, n10_, n12_, n16_, n18_, n20_, n21_, n22_, n24_, n25_, n26_, n27_, n28_, n29_, n30_, n31_, n32_, n40_, n41_, n42_, n43_, n45_, n48_, n54_, n57_, n58_, n59_, n60_, n61_, n63_, n96_, n97_, n99_, n100_, n122_, n126_, n200_, n255_, n375_, n400_, n1000_, n2000_, n9999_, n5764801_, n1000000_, n3000_, m1, m2, le_t, le_f, lt_t, lt_f, eq_t, eq_f, no_lt, no_le, le_no, lt_no, eq_no, no_eq, add_no, wib_t, clamp, nI_add, pk_mul, pk_sub, nor_, nand_, ndif_, shl_, sh1_, shr_, tbn, tb0, tb1, les_t, les_f, pk_div, rem_, remv, and31, wu1, wuc, wui, wu2, ws1, wsc, ws2, wv1, fX6_made, he, eg]
  rfl
theorem r_bits (h : wSt) {x : Nat} (hx : x < 2147483648) : fX11_bits h (nI x) = some (nI (gBits x)) := by
  obtain ⟨e, he, eg⟩ := wit_for (b := fun v : (Int32 × Int32) => fX11_bits_l4 h (nI x) v.1 v.2) (fun i n => n + (x.testBit i).toNat) 6
    (fun i a v => v = (nI a, nI i)) (fun a e => e = nI a)
    (by
      rintro i a v hi rfl
      refine ⟨(nI (a + (x.testBit i).toNat), nI (i + 1)), ?_, rfl⟩
      simp (disch := omega) only [↓reduceIte, wlet, Option.bind_some, true_and, and_true, not_true_eq_false, not_false_eq_true, reduceCtorEq, n0_, n1_, n2_, n3_, n4_, n5_, n6_, n7_, n8_, n9_, n10_, n12_, n16_, n18_, n20_, n21_, n22_, n24_, n25_, n26_, n27_, n28_, n29_, n30_, n31_, n32_, n40_, n41_, n42_, n43_, n45_, n48_, n54_, n57_, n58_, n59_, n60_, n61_, n63_, n96_, n97_, n99_, n100_, n122_, n126_, n200_, n255_, n375_, n400_, n1000_, n2000_, n9999_, n5764801_, n1000000_, n3000_, m1, m2, le_t, le_f, lt_t, lt_f, eq_t, eq_f, no_lt, no_le, le_no, lt_no, eq_no, no_eq, add_no, wib_t, clamp, nI_add, pk_mul, pk_sub, nor_, nand_, ndif_, shl_, sh1_, shr_, tbn, tb0, tb1, les_t, les_f, pk_div, rem_, remv, and31, wu1, wuc, wui, wu2, ws1, wsc, ws2, wv1, fX11_bits_l4])
    (by
      rintro a v rfl
      refine ⟨nI a, ?_, rfl⟩
      simp (disch := omega) only [↓reduceIte, wlet, Option.bind_some, true_and, and_true, not_true_eq_false, not_false_eq_true, reduceCtorEq, n0_, n1_, n2_, n3_, n4_, n5_, n6_, n7_, n8_, n9_, n10_, n12_, n16_, n18_, n20_, n21_, n22_, n24_, n25_, n26_, n27_, n28_, n29_, n30_, n31_, n32_, n40_, n41_, n42_, n43_, n45_, n48_, n54_, n57_, n58_, n59_, n60_, n61_, n63_, n96_, n97_, n99_, n100_, n122_, n126_, n200_, n255_, n375_, n400_, n1000_, n2000_, n9999_, n5764801_, n1000000_, n3000_, m1, m2, le_t, le_f, lt_t, lt_f, eq_t, eq_f, no_lt, no_le, le_no, lt_no, eq_no, no_eq, add_no, wib_t, clamp, nI_add, pk_mul, pk_sub, nor_, nand_, ndif_, shl_, sh1_, shr_, tbn, tb0, tb1, les_t, les_f, pk_div, rem_, remv, and31, wu1, wuc, wui, wu2, ws1, wsc, ws2, wv1, fX11_bits_l4])
    (N := 3000) (by omega) (a0 := 0) (v0 := (nI 0, nI 0)) rfl
  simp (disch := omega) only [↓reduceIte, wlet, Option.bind_some, true_and, and_true, not_true_eq_false, not_false_eq_true, reduceCtorEq, n0_, n1_, n2_, n3_, n4_, n5_, n6_, n7_, n8_, n9_, n10_, n12_, n16_, n18_, n20_, n21_, n22_, n24_, n25_, n26_, n27_, n28_, n29_, n30_, n31_, n32_, n40_, n41_, n42_, n43_, n45_, n48_, n54_, n57_, n58_, n59_, n60_, n61_, n63_, n96_, n97_, n99_, n100_, n122_, n126_, n200_, n255_, n375_, n400_, n1000_, n2000_, n9999_, n5764801_, n1000000_, n3000_, m1, m2, le_t, le_f, lt_t, lt_f, eq_t, eq_f, no_lt, no_le, le_no, lt_no, eq_no, no_eq, add_no, wib_t, clamp, nI_add, pk_mul, pk_sub, nor_, nand_, ndif_, shl_, sh1_, shr_, tbn, tb0, tb1, les_t, les_f, pk_div, rem_, remv, and31, wu1, wuc, wui, wu2, ws1, wsc, ws2, wv1, fX11_bits, he, eg]
  rfl
theorem setbit {p : Nat → Bool} : ∀ (m b : Nat), (gF (fun j a => if p j then a ||| 2 ^ j else a) m 0).testBit b = (decide (b < m) && p b)
  | 0, b => by simp [gF]
  | m + 1, b => by
    have ih := setbit (p := p) m b
    rw [gF]
    by_cases hb : b = m
    · subst hb
      cases hp : p b
      · simp [ih, hp]
      · simp [ih, hp, Nat.testBit_or, Nat.testBit_two_pow_self]
    · have h2 : (2 ^ m : Nat).testBit b = false := Nat.testBit_two_pow_of_ne (fun e => hb e.symm)
      have h3 : decide (b < m + 1) = decide (b < m) := decide_eq_decide.mpr (by omega)
      cases hp : p m
      · simp [ih, h3]
      · simp [Nat.testBit_or, ih, h2, h3]
theorem gCount_add {p : Nat → Bool} : ∀ (m n : Nat), gCount p m n = n + gCount p m 0
  | 0, n => rfl
  | m + 1, n => by
    have ih := gCount_add (p := p) m n
    unfold gCount at ih ⊢
    rw [gF, gF, ih]
    split <;> omega
theorem bits_count {p : Nat → Bool} {m : Nat} (hm : m ≤ 6) {x : Nat} (hx : ∀ b, x.testBit b = (decide (b < m) && p b)) : gBits x = gCount p m 0 := by
  have key : ∀ N, gF (fun i n => n + (x.testBit i).toNat) N 0 = gCount p (min N m) 0 := by
    intro N
    induction N with
    | zero => rw [Nat.zero_min]; rfl
    | succ N ih =>
      rw [gF, ih, hx]
      by_cases h : N < m
      · rw [show min N m = N by omega, show min (N + 1) m = N + 1 by omega, gCount, gF]
        cases p N <;> simp [h]
      · rw [show min N m = m by omega, show min (N + 1) m = m by omega]
        simp [h]
  have := key 6
  rw [show min 6 m = m by omega] at this
  exact this
theorem gIn_bit (w i : Nat) (q : Option Nat) (b : Nat) : (gIn L S w q i).testBit b = (decide (b < gln L i) && gHit (gRead L S i b w) q) := setbit (p := fun j => gHit (gRead L S i j w) q) _ _
theorem lt_pow_bits {x m : Nat} (hx : ∀ b, m ≤ b → x.testBit b = false) : x < 2 ^ m := by
  apply Nat.lt_pow_two_of_testBit
  exact fun b hb => hx b hb
theorem gIn_lt (w i : Nat) (q : Option Nat) : gIn L S w q i < 2 ^ gln L i := lt_pow_bits (fun b hb => by rw [gIn_bit, decide_eq_false (by omega)]; rfl)
theorem pow_le_64 {m : Nat} (h : m ≤ 6) : 2 ^ m ≤ 64 := Nat.pow_le_pow_right (by decide) h
theorem gHit_some (x : Option Nat) (t : Nat) : gHit x (some t) = (x == some t) := by
  cases x with
  | none => rfl
  | some u => rfl
theorem r_made (hx : MX h L S) {t : Nat} (ht : t < gnt L) : ∃ g, fX11_madeOf h (nI t) = some (nI (gMade L S (gDamp L S.1) t), g) ∧ fr sr h g := by
  have n1 := hx.1.1
  have n2 := hx.1.2.1
  obtain ⟨e, he, g, eg, fg⟩ := wit_for (b := fun v : (Int32 × Int32 × wSt) => fX11_madeOf_l4 v.2.2 (nI t) v.1 v.2.1) (fun i n => gCount (fun j => gRead L S i j (gDamp L S.1) == some t) (gln L i) n) (gns L)
    (fun i a v => ∃ g, v = (nI a, nI i, g) ∧ fr sr h g)
    (fun a e => ∃ g, e = (nI a, g) ∧ fr sr h g)
    (by
      rintro i n v hi ⟨g, rfl, fg⟩
      have hx2 := MX_sr hx fg
      obtain ⟨l1, l2, -⟩ := hx.1.2.2.2.1 i hi
      obtain ⟨g2, e2, f2⟩ := r_in hx2 hi (some t) (fun u hu => by cases hu; omega)
      have b1 := gIn_lt (L := L) (S := S) (gDamp L S.1) i (some t)
      have b2 := pow_le_64 l2
      have e3 := r_bits g2 (x := gIn L S (gDamp L S.1) (some t) i) (by omega)
      have e4 : gBits (gIn L S (gDamp L S.1) (some t) i) = gCount (fun j => gRead L S i j (gDamp L S.1) == some t) (gln L i) 0 := bits_count l2 (fun b => by rw [gIn_bit, gHit_some])
      have c1 := hx2.2.1.1
      have e5 := gCount_add (p := fun j => gRead L S i j (gDamp L S.1) == some t) (gln L i) n
      rw [rI] at e2
      refine ⟨(nI (gCount (fun j => gRead L S i j (gDamp L S.1) == some t) (gln L i) n), nI (i + 1), g2), ?_, g2, rfl, fr_tr fg f2⟩
      rw [e5]
      simp (disch := omega) only [↓reduceIte, wlet, Option.bind_some, true_and, and_true, not_true_eq_false, not_false_eq_true, reduceCtorEq, n0_, n1_, n2_, n3_, n4_, n5_, n6_, n7_, n8_, n9_, n10_, n12_, n16_, n18_, n20_, n21_, n22_, n24_, n25_, n26_, n27_, n28_, n29_, n30_, n31_, n32_, n40_, n41_, n42_, n43_, n45_, n48_, n54_, n57_, n58_, n59_, n60_, n61_, n63_, n96_, n97_, n99_, n100_, n122_, n126_, n200_, n255_, n375_, n400_, n1000_, n2000_, n9999_, n5764801_, n1000000_, n3000_, m1, m2, le_t, le_f, lt_t, lt_f, eq_t, eq_f, no_lt, no_le, le_no, lt_no, eq_no, no_eq, add_no, wib_t, clamp, nI_add, pk_mul, pk_sub, nor_, nand_, ndif_, shl_, sh1_, shr_, tbn, tb0, tb1, les_t, les_f, pk_div, rem_, remv, and31, wu1, wuc, wui, wu2, ws1, wsc, ws2, wv1, fX11_madeOf_l4, c1, e2, e3, e4])
    (by
      rintro a v ⟨g, rfl, fg⟩
      have c1 := (MX_sr hx fg).2.1.1
      refine ⟨(nI a, g), ?_, g, rfl, fg⟩
      simp (disch := omega) only [↓reduceIte, wlet, Option.bind_some, true_and, and_true, not_true_eq_false, not_false_eq_true, reduceCtorEq, n0_, n1_, n2_, n3_, n4_, n5_, n6_, n7_, n8_, n9_, n10_, n12_, n16_, n18_, n20_, n21_, n22_, n24_, n25_, n26_, n27_, n28_, n29_, n30_, n31_, n32_, n40_, n41_, n42_, n43_, n45_, n48_, n54_, n57_, n58_, n59_, n60_, n61_, n63_, n96_, n97_, n99_, n100_, n122_, n126_, n200_, n255_, n375_, n400_, n1000_, n2000_, n9999_, n5764801_, n1000000_, n3000_, m1, m2, le_t, le_f, lt_t, lt_f, eq_t, eq_f, no_lt, no_le, le_no, lt_no, eq_no, no_eq, add_no, wib_t, clamp, nI_add, pk_mul, pk_sub, nor_, nand_, ndif_, shl_, sh1_, shr_, tbn, tb0, tb1, les_t, les_f, pk_div, rem_, remv, and31, wu1, wuc, wui, wu2, ws1, wsc, ws2, wv1, fX11_madeOf_l4, c1])
    (N := 3000) (by omega) (a0 := 0) (v0 := (nI 0, nI 0, h)) ⟨h, rfl, fr_rf⟩
  refine ⟨g, ?_, fg⟩
  simp (disch := omega) only [↓reduceIte, wlet, Option.bind_some, true_and, and_true, not_true_eq_false, not_false_eq_true, reduceCtorEq, n0_, n1_, n2_, n3_, n4_, n5_, n6_, n7_, n8_, n9_, n10_, n12_, n16_, n18_, n20_, n21_, n22_, n24_, n25_, n26_, n27_, n28_, n29_, n30_, n31_, n32_, n40_, n41_, n42_, n43_, n45_, n48_, n54_, n57_, n58_, n59_, n60_, n61_, n63_, n96_, n97_, n99_, n100_, n122_, n126_, n200_, n255_, n375_, n400_, n1000_, n2000_, n9999_, n5764801_, n1000000_, n3000_, m1, m2, le_t, le_f, lt_t, lt_f, eq_t, eq_f, no_lt, no_le, le_no, lt_no, eq_no, no_eq, add_no, wib_t, clamp, nI_add, pk_mul, pk_sub, nor_, nand_, ndif_, shl_, sh1_, shr_, tbn, tb0, tb1, les_t, les_f, pk_div, rem_, remv, and31, wu1, wuc, wui, wu2, ws1, wsc, ws2, wv1, fX11_madeOf, he, eg]
  rfl
end G33

/-! YEARS BY DRAWS: the call -/
def ycC (LV : wSt → Option (Bool × wSt)) (h : wSt) (v2 : Int32) (v3 : Int32) (v4 : Int32) (v5 : Int32) : Option ((Int32 × Int32 × wSt) ⊕ ((Int32 × wSt))) :=
if v2 ≤ v5 then
some (.inr (v4, h))
else
if (h.1 3 5) ≤ 0 then
fX10_years_b101_58 h v2 v3 v4 v5
else
if (h.1 3 0) ≤ 0 then
fX10_years_b101_58 h v2 v3 v4 v5
else
(LV h).bind (fun yr24 =>
if yr24.1 = true then
fX10_years_b101_58 yr24.2 v2 v3 (v4 + 1) v5
else
fX10_years_b101_58 yr24.2 v2 v3 v4 v5)
def ycM (LV : wSt → Option (Bool × wSt)) (h : wSt) (v2 : Int32) (v3 : Int32) (v4 : Int32) (v5 : Int32) : Option ((Int32 × Int32 × wSt) ⊕ ((Int32 × wSt))) :=
if v2 ≤ v5 then
some (.inr (v4, h))
else
(LV h).bind (fun yr27 =>
if yr27.1 = true then
fX11_years_b82_62 yr27.2 v2 v3 v5 v4 (1 : Int32)
else
fX11_years_b82_62 yr27.2 v2 v3 v5 v4 (0 : Int32))
theorem ycC_eq (h : wSt) (a b c d : Int32) : fX10_years_l58 h a b c d = ycC (fun h => fX6_liveByDraws h 34) h a b c d := rfl
theorem ycM_eq (h : wSt) (a b c d : Int32) : fX11_years_l62 h a b c d = ycM fX11_livesWeek h a b c d := rfl
def gYs (R : Nat → gSh → Bool × Nat × gSh) (a : Nat × Nat × gSh) : Nat × Nat × gSh := (a.1 + (R a.2.1 a.2.2).1.toNat, (R a.2.1 a.2.2).2.1, ((R a.2.1 a.2.2).2.2.1 + 1, (R a.2.1 a.2.2).2.2.2))
def gRw (L : gLib) (R : Nat → gSh → Bool × Nat × gSh) : Prop := (∀ g S, (R g S).2.2.1 = S.1) ∧ (∀ g S, g < 2147483648 → (R g S).2.1 < 2147483648) ∧ ∀ g S, gnt L = 0 ∨ gns L = 0 → R g S = (false, g, S)
def gLvC (L : gLib) (R : Nat → gSh → Bool × Nat × gSh) (LV : wSt → Option (Bool × wSt)) : Prop := ∀ (h : wSt) (S : gSh) (g : Nat), CX h L 34 S → h.2 134 0 = lN g → g < 2147483648 → 0 < gnt L → 0 < gns L → ∃ q, LV h = some ((R g S).1, q) ∧ CX q L 34 (R g S).2.2 ∧ q.2 134 0 = lN (R g S).2.1 ∧ fr sY h q
def gLvM (L : gLib) (R : Nat → gSh → Bool × Nat × gSh) (LV : wSt → Option (Bool × wSt)) : Prop := ∀ (h : wSt) (S : gSh) (g : Nat), MX h L S → h.2 188 58 = lN g → g < 2147483648 → S.1 + 1 < 1048576 → ∃ q, LV h = some ((R g S).1, q) ∧ MX q L ((R g S).2.2.1 + 1, (R g S).2.2.2) ∧ q.2 188 58 = lN (R g S).2.1 ∧ q.1 188 = h.1 188 ∧ fr sZ h q
section G48
variable {h : wSt} {k : Nat} {L : gLib} {S : gSh} {u : gUn} {M : gMk} {Y : gYr} {N : gSn} {T : gTp}
theorem gRw_0 : gRw L (gLv gDr gDw L) := ⟨fun g S => gLv_week _ _ _ _ _, fun g S hg => gLv_lt _ gDr_lt _ _ hg, fun g S h0 => by unfold gLv; rw [if_pos h0]⟩
theorem gLvC_0 : gLvC L (gLv gDr gDw L) (fun h => fX6_liveByDraws h 34) := fun h S g hx hg hl h1 h2 => by
  obtain ⟨q, e, r⟩ := c_live gDWc_0 hx hg hl h1 h2
  exact ⟨q, (lvC_eq h 34).trans e, r⟩
theorem gLvM_0 : gLvM L (gLv gDr gDw L) fX11_livesWeek := fun h S g hx hg hl hw => by
  obtain ⟨q, e, r⟩ := r_live gDWm_0 hx hg hl hw
  exact ⟨q, (lvM_eq h).trans e, r⟩
theorem c_years {R : Nat → gSh → Bool × Nat × gSh} {LV : wSt → Option (Bool × wSt)} (hR : gRw L R) (hLV : gLvC L R LV) (hx : CX h L 34 S) {g w : Nat} (hg : h.2 134 0 = lN g) (hl : g < 2147483648) (hs : S.1 ≤ 1000) (hw : w ≤ 99) (x2 : Int32) : ∃ q, wit (fun v : (Int32 × Int32 × wSt) => ycC LV v.2.2 (nI w) x2 v.1 v.2.1) 3000 (nI 0, nI 0, h) = some (nI (gF (fun _ => gYs R) w (0, g, S)).1, q) ∧ CX q L 34 (gF (fun _ => gYs R) w (0, g, S)).2.2 ∧ fr sY h q := by
  have n1 := hx.1.1
  have n2 := hx.1.2.1
  obtain ⟨e, he, q, eq, xq, fq⟩ := wit_for (b := fun v : (Int32 × Int32 × wSt) => ycC LV v.2.2 (nI w) x2 v.1 v.2.1) (fun _ => gYs R) w
    (fun j a v => ∃ q, v = (nI a.1, nI j, q) ∧ CX q L 34 a.2.2 ∧ q.2 134 0 = lN a.2.1 ∧ a.2.1 < 2147483648 ∧ a.2.2.1 ≤ 1000 + j ∧ fr sY h q)
    (fun a e => ∃ q, e = (nI a.1, q) ∧ CX q L 34 a.2.2 ∧ fr sY h q)
    (by
      rintro j ⟨n, g, S2⟩ v hj ⟨q, rfl, xq, hg, hl, hs, fq⟩
      have xq : CX q L 34 S2 := xq
      have hg : q.2 134 0 = lN g := hg
      have hl : g < 2147483648 := hl
      have hs : S2.1 ≤ 1000 + j := hs
      have c1 := xq.2.1.1
      have c2 := xq.2.1.2.1
      have w1 := hR.1 g S2
      have w2 := hR.2.1 g S2 hl
      by_cases h0 : gnt L = 0 ∨ gns L = 0
      · have e0 := hR.2.2 g S2 h0
        obtain ⟨x1, f1⟩ := CX_week xq (by omega)
        have s0 := xq.2.2.2.1.1
        refine ⟨(nI n, nI (j + 1), wuI q 34 1 (nI (S2.1 + 1))), ?_, _, ?_, ?_, ?_, ?_, ?_, fr_tr fq (fr_mono f1 (fun c q => Or.inr q))⟩
        · rcases h0 with z | z
          · simp (disch := omega) only [↓reduceIte, wlet, Option.bind_some, true_and, and_true, not_true_eq_false, not_false_eq_true, reduceCtorEq, n0_, n1_, n2_, n3_, n4_, n5_, n6_, n7_, n8_, n9_, n10_, n12_, n16_, n18_, n20_, n21_, n22_, n24_, n25_, n26_, n27_, n28_, n29_, n30_, n31_, n32_, n40_, n41_, n42_, n43_, n45_, n48_, n54_, n57_, n58_, n59_, n60_, n61_, n63_, n96_, n97_, n99_, n100_, n122_, n126_, n200_, n255_, n375_, n400_, n1000_, n2000_, n9999_, n5764801_, n1000000_, n3000_, m1, m2, le_t, le_f, lt_t, lt_f, eq_t, eq_f, no_lt, no_le, le_no, lt_no, eq_no, no_eq, add_no, wib_t, clamp, nI_add, pk_mul, pk_sub, nor_, nand_, ndif_, shl_, sh1_, shr_, tbn, tb0, tb1, les_t, les_f, pk_div, rem_, remv, and31, wu1, wuc, wui, wu2, ws1, wsc, ws2, wv1, n11_, n13_, n14_, n15_, n17_, n19_, n23_, n56_, n64_, ycC, fX10_years_b101_58, c2, z, s0]
          · by_cases z2 : gnt L = 0
            · simp (disch := omega) only [↓reduceIte, wlet, Option.bind_some, true_and, and_true, not_true_eq_false, not_false_eq_true, reduceCtorEq, n0_, n1_, n2_, n3_, n4_, n5_, n6_, n7_, n8_, n9_, n10_, n12_, n16_, n18_, n20_, n21_, n22_, n24_, n25_, n26_, n27_, n28_, n29_, n30_, n31_, n32_, n40_, n41_, n42_, n43_, n45_, n48_, n54_, n57_, n58_, n59_, n60_, n61_, n63_, n96_, n97_, n99_, n100_, n122_, n126_, n200_, n255_, n375_, n400_, n1000_, n2000_, n9999_, n5764801_, n1000000_, n3000_, m1, m2, le_t, le_f, lt_t, lt_f, eq_t, eq_f, no_lt, no_le, le_no, lt_no, eq_no, no_eq, add_no, wib_t, clamp, nI_add, pk_mul, pk_sub, nor_, nand_, ndif_, shl_, sh1_, shr_, tbn, tb0, tb1, les_t, les_f, pk_div, rem_, remv, and31, wu1, wuc, wui, wu2, ws1, wsc, ws2, wv1, n11_, n13_, n14_, n15_, n17_, n19_, n23_, n56_, n64_, ycC, fX10_years_b101_58, c2, z2, s0]
            · simp (disch := omega) only [↓reduceIte, wlet, Option.bind_some, true_and, and_true, not_true_eq_false, not_false_eq_true, reduceCtorEq, n0_, n1_, n2_, n3_, n4_, n5_, n6_, n7_, n8_, n9_, n10_, n12_, n16_, n18_, n20_, n21_, n22_, n24_, n25_, n26_, n27_, n28_, n29_, n30_, n31_, n32_, n40_, n41_, n42_, n43_, n45_, n48_, n54_, n57_, n58_, n59_, n60_, n61_, n63_, n96_, n97_, n99_, n100_, n122_, n126_, n200_, n255_, n375_, n400_, n1000_, n2000_, n9999_, n5764801_, n1000000_, n3000_, m1, m2, le_t, le_f, lt_t, lt_f, eq_t, eq_f, no_lt, no_le, le_no, lt_no, eq_no, no_eq, add_no, wib_t, clamp, nI_add, pk_mul, pk_sub, nor_, nand_, ndif_, shl_, sh1_, shr_, tbn, tb0, tb1, les_t, les_f, pk_div, rem_, remv, and31, wu1, wuc, wui, wu2, ws1, wsc, ws2, wv1, n11_, n13_, n14_, n15_, n17_, n19_, n23_, n56_, n64_, ycC, fX10_years_b101_58, c1, c2, z, s0]
        · show _ = (nI (n + (R g S2).1.toNat), nI (j + 1), _)
          rw [e0]; rfl
        · show CX _ L 34 ((R g S2).2.2.1 + 1, (R g S2).2.2.2)
          rw [e0]; exact x1
        · show _ = lN (R g S2).2.1
          rw [e0]; exact hg
        · exact w2
        · show (R g S2).2.2.1 + 1 ≤ 1000 + (j + 1)
          rw [w1]; omega
      · obtain ⟨q2, e2, x2', g2, f2⟩ := hLV q S2 g xq hg hl (by omega) (by omega)
        obtain ⟨x3, f3⟩ := CX_week x2' (by rw [w1]; omega)
        have s0 := x2'.2.2.2.1.1
        refine ⟨(nI (n + (R g S2).1.toNat), nI (j + 1), wuI q2 34 1 (nI ((R g S2).2.2.1 + 1))), ?_, _, rfl, x3, ?_, w2, ?_, fr_tr fq (fr_tr f2 (fr_mono f3 (fun c q => Or.inr q)))⟩
        · cases hb : (R g S2).1 with
          | true =>
            rw [hb] at e2
            simp (disch := omega) only [↓reduceIte, wlet, Option.bind_some, true_and, and_true, not_true_eq_false, not_false_eq_true, reduceCtorEq, n0_, n1_, n2_, n3_, n4_, n5_, n6_, n7_, n8_, n9_, n10_, n12_, n16_, n18_, n20_, n21_, n22_, n24_, n25_, n26_, n27_, n28_, n29_, n30_, n31_, n32_, n40_, n41_, n42_, n43_, n45_, n48_, n54_, n57_, n58_, n59_, n60_, n61_, n63_, n96_, n97_, n99_, n100_, n122_, n126_, n200_, n255_, n375_, n400_, n1000_, n2000_, n9999_, n5764801_, n1000000_, n3000_, m1, m2, le_t, le_f, lt_t, lt_f, eq_t, eq_f, no_lt, no_le, le_no, lt_no, eq_no, no_eq, add_no, wib_t, clamp, nI_add, pk_mul, pk_sub, nor_, nand_, ndif_, shl_, sh1_, shr_, tbn, tb0, tb1, les_t, les_f, pk_div, rem_, remv, and31, wu1, wuc, wui, wu2, ws1, wsc, ws2, wv1, n11_, n13_, n14_, n15_, n17_, n19_, n23_, n56_, n64_, ycC, fX10_years_b101_58, c1, c2, e2, s0, Bool.toNat_true]
          | false =>
            rw [hb] at e2
            simp (disch := omega) only [↓reduceIte, wlet, Option.bind_some, true_and, and_true, not_true_eq_false, not_false_eq_true, reduceCtorEq, n0_, n1_, n2_, n3_, n4_, n5_, n6_, n7_, n8_, n9_, n10_, n12_, n16_, n18_, n20_, n21_, n22_, n24_, n25_, n26_, n27_, n28_, n29_, n30_, n31_, n32_, n40_, n41_, n42_, n43_, n45_, n48_, n54_, n57_, n58_, n59_, n60_, n61_, n63_, n96_, n97_, n99_, n100_, n122_, n126_, n200_, n255_, n375_, n400_, n1000_, n2000_, n9999_, n5764801_, n1000000_, n3000_, m1, m2, le_t, le_f, lt_t, lt_f, eq_t, eq_f, no_lt, no_le, le_no, lt_no, eq_no, no_eq, add_no, wib_t, clamp, nI_add, pk_mul, pk_sub, nor_, nand_, ndif_, shl_, sh1_, shr_, tbn, tb0, tb1, les_t, les_f, pk_div, rem_, remv, and31, wu1, wuc, wui, wu2, ws1, wsc, ws2, wv1, n11_, n13_, n14_, n15_, n17_, n19_, n23_, n56_, n64_, ycC, fX10_years_b101_58, c1, c2, e2, s0, Bool.toNat_false, Nat.add_zero, Option.isSome_none, Option.isSome_some, Bool.false_eq_true]
        · show (wuI q2 34 1 _).2 134 0 = lN (R g S2).2.1
          rw [wu2]; exact g2
        · show (R g S2).2.2.1 + 1 ≤ 1000 + (j + 1)
          rw [w1]; omega)
    (by
      rintro ⟨n, g, S2⟩ v ⟨q, rfl, xq, -, -, -, fq⟩
      refine ⟨_, ?_, q, rfl, xq, fq⟩
      simp (disch := omega) only [↓reduceIte, wlet, Option.bind_some, true_and, and_true, not_true_eq_false, not_false_eq_true, reduceCtorEq, n0_, n1_, n2_, n3_, n4_, n5_, n6_, n7_, n8_, n9_, n10_, n12_, n16_, n18_, n20_, n21_, n22_, n24_, n25_, n26_, n27_, n28_, n29_, n30_, n31_, n32_, n40_, n41_, n42_, n43_, n45_, n48_, n54_, n57_, n58_, n59_, n60_, n61_, n63_, n96_, n97_, n99_, n100_, n122_, n126_, n200_, n255_, n375_, n400_, n1000_, n2000_, n9999_, n5764801_, n1000000_, n3000_, m1, m2, le_t, le_f, lt_t, lt_f, eq_t, eq_f, no_lt, no_le, le_no, lt_no, eq_no, no_eq, add_no, wib_t, clamp, nI_add, pk_mul, pk_sub, nor_, nand_, ndif_, shl_, sh1_, shr_, tbn, tb0, tb1, les_t, les_f, pk_div, rem_, remv, and31, wu1, wuc, wui, wu2, ws1, wsc, ws2, wv1, n11_, n13_, n14_, n15_, n17_, n19_, n23_, n56_, n64_, ycC])
    (N := 3000) (by omega) (a0 := (0, g, S)) (v0 := (nI 0, nI 0, h)) ⟨h, rfl, hx, hg, hl, by show S.1 ≤ 1000 + 0; omega, fr_rf⟩
  exact ⟨q, by rw [he, eq], xq, fq⟩
theorem r_years {R : Nat → gSh → Bool × Nat × gSh} {LV : wSt → Option (Bool × wSt)} (hR : gRw L R) (hLV : gLvM L R LV) (hx : MX h L S) {g w : Nat} (hg : h.2 188 58 = lN g) (hl : g < 2147483648) (hs : S.1 ≤ 1000) (hw : w ≤ 99) (x2 : Int32) : ∃ q, wit (fun v : (Int32 × Int32 × wSt) => ycM LV v.2.2 (nI w) x2 v.1 v.2.1) 3000 (nI 0, nI 0, h) = some (nI (gF (fun _ => gYs R) w (0, g, S)).1, q) ∧ MX q L (gF (fun _ => gYs R) w (0, g, S)).2.2 ∧ q.1 188 = h.1 188 ∧ fr sZ h q := by
  obtain ⟨e, he, q, eq, xq, yq, fq⟩ := wit_for (b := fun v : (Int32 × Int32 × wSt) => ycM LV v.2.2 (nI w) x2 v.1 v.2.1) (fun _ => gYs R) w
    (fun j a v => ∃ q, v = (nI a.1, nI j, q) ∧ MX q L a.2.2 ∧ q.2 188 58 = lN a.2.1 ∧ a.2.1 < 2147483648 ∧ a.2.2.1 ≤ 1000 + j ∧ q.1 188 = h.1 188 ∧ fr sZ h q)
    (fun a e => ∃ q, e = (nI a.1, q) ∧ MX q L a.2.2 ∧ q.1 188 = h.1 188 ∧ fr sZ h q)
    (by
      rintro j ⟨n, g, S2⟩ v hj ⟨q, rfl, xq, hg, hl, hs, yq, fq⟩
      have xq : MX q L S2 := xq
      have hg : q.2 188 58 = lN g := hg
      have hl : g < 2147483648 := hl
      have hs : S2.1 ≤ 1000 + j := hs
      have w1 := hR.1 g S2
      have w2 := hR.2.1 g S2 hl
      obtain ⟨q2, e2, x2', g2, y2, f2⟩ := hLV q S2 g xq hg hl (by omega)
      refine ⟨(nI (n + (R g S2).1.toNat), nI (j + 1), q2), ?_, q2, rfl, x2', g2, w2, ?_, y2.trans yq, fr_tr fq f2⟩
      · cases hb : (R g S2).1 with
        | true =>
          rw [hb] at e2
          simp (disch := omega) only [↓reduceIte, wlet, Option.bind_some, true_and, and_true, not_true_eq_false, not_false_eq_true, reduceCtorEq, n0_, n1_, n2_, n3_, n4_, n5_, n6_, n7_, n8_, n9_, n10_, n12_, n16_, n18_, n20_, n21_, n22_, n24_, n25_, n26_, n27_, n28_, n29_, n30_, n31_, n32_, n40_, n41_, n42_, n43_, n45_, n48_, n54_, n57_, n58_, n59_, n60_, n61_, n63_, n96_, n97_, n99_, n100_, n122_, n126_, n200_, n255_, n375_, n400_, n1000_, n2000_, n9999_, n5764801_, n1000000_, n3000_, m1, m2, le_t, le_f, lt_t, lt_f, eq_t, eq_f, no_lt, no_le, le_no, lt_no, eq_no, no_eq, add_no, wib_t, clamp, nI_add, pk_mul, pk_sub, nor_, nand_, ndif_, shl_, sh1_, shr_, tbn, tb0, tb1, les_t, les_f, pk_div, rem_, remv, and31, wu1, wuc, wui, wu2, ws1, wsc, ws2, wv1, n11_, n13_, n14_, n15_, n17_, n19_, n23_, n56_, n64_, ycM, fX11_years_b82_62, e2, Bool.toNat_true]
        | false =>
          rw [hb] at e2
          simp (disch := omega) only [↓reduceIte, wlet, Option.bind_some, true_and, and_true, not_true_eq_false, not_false_eq_true, reduceCtorEq, n0_, n1_, n2_, n3_, n4_, n5_, n6_, n7_, n8_, n9_, n10_, n12_, n16_, n18_, n20_, n21_, n22_, n24_, n25_, n26_, n27_, n28_, n29_, n30_, n31_, n32_, n40_, n41_, n42_, n43_, n45_, n48_, n54_, n57_, n58_, n59_, n60_, n61_, n63_, n96_, n97_, n99_, n100_, n122_, n126_, n200_, n255_, n375_, n400_, n1000_, n2000_, n9999_, n5764801_, n1000000_, n3000_, m1, m2, le_t, le_f, lt_t, lt_f, eq_t, eq_f, no_lt, no_le, le_no, lt_no, eq_no, no_eq, add_no, wib_t, clamp, nI_add, pk_mul, pk_sub, nor_, nand_, ndif_, shl_, sh1_, shr_, tbn, tb0, tb1, les_t, les_f, pk_div, rem_, remv, and31, wu1, wuc, wui, wu2, ws1, wsc, ws2, wv1, n11_, n13_, n14_, n15_, n17_, n19_, n23_, n56_, n64_, ycM, fX11_years_b82_62, e2, Bool.toNat_false, Nat.add_zero, Option.isSome_none, Option.isSome_some, Bool.false_eq_true]
      · show (R g S2).2.2.1 + 1 ≤ 1000 + (j + 1)
        rw [w1]; omega)
    (by
      rintro ⟨n, g, S2⟩ v ⟨q, rfl, xq, -, -, -, yq, fq⟩
      refine ⟨_, ?_, q, rfl, xq, yq, fq⟩
      simp (disch := omega) only [↓reduceIte, wlet, Option.bind_some, true_and, and_true, not_true_eq_false, not_false_eq_true, reduceCtorEq, n0_, n1_, n2_, n3_, n4_, n5_, n6_, n7_, n8_, n9_, n10_, n12_, n16_, n18_, n20_, n21_, n22_, n24_, n25_, n26_, n27_, n28_, n29_, n30_, n31_, n32_, n40_, n41_, n42_, n43_, n45_, n48_, n54_, n57_, n58_, n59_, n60_, n61_, n63_, n96_, n97_, n99_, n100_, n122_, n126_, n200_, n255_, n375_, n400_, n1000_, n2000_, n9999_, n5764801_, n1000000_, n3000_, m1, m2, le_t, le_f, lt_t, lt_f, eq_t, eq_f, no_lt, no_le, le_no, lt_no, eq_no, no_eq, add_no, wib_t, clamp, nI_add, pk_mul, pk_sub, nor_, nand_, ndif_, shl_, sh1_, shr_, tbn, tb0, tb1, les_t, les_f, pk_div, rem_, remv, and31, wu1, wuc, wui, wu2, ws1, wsc, ws2, wv1, n11_, n13_, n14_, n15_, n17_, n19_, n23_, n56_, n64_, ycM])
    (N := 3000) (by omega) (a0 := (0, g, S)) (v0 := (nI 0, nI 0, h)) ⟨h, rfl, hx, hg, hl, by show S.1 ≤ 1000 + 0; omega, rfl, fr_rf⟩
  exact ⟨q, by rw [he, eq], xq, yq, fq⟩
/-- the two calls over loops left open -/
def yrC (A : wSt → Int32 → Int32 → Option (Int32 × wSt)) (h : wSt) (x0 x1 x2 : Int32) : Option (Int32 × wSt) :=
if x0 < 0 then
some ((-1 : Int32), h)
else
if 9999 < x0 then
some ((-1 : Int32), h)
else
if x1 < 1 then
some ((-1 : Int32), h)
else
if 99 < x1 then
some ((-1 : Int32), h)
else
if x2 < 0 then
some ((-1 : Int32), h)
else
if x2 ≤ 2 then
(fX6_copyFrom h 34 29).bind (fun yr21 =>
(fX1_start yr21 x0).bind (fun yr22 =>
(A yr22 x1 x2).bind (fun ye25 =>
if x2 = 0 then
some (ye25.1, ye25.2)
else
if x2 = 1 then
(fX6_damp ye25.2 34).bind (fun yr29 =>
(fX6_wholeTexts ye25.2 34 yr29).bind (fun yr30 =>
some (yr30.1, yr30.2)))
else
(fX6_thickTogether ye25.2 34).bind (fun yr28 =>
some (yr28, ye25.2)))))
else
some ((-1 : Int32), h)
def yrM (A : wSt → Int32 → Int32 → Option (Int32 × wSt)) (h : wSt) (x0 x1 x2 : Int32) : Option (Int32 × wSt) :=
wlet (wuI h 188 0 0) (fun yh21 =>
(fX11_within yh21 x0 (0 : Int32) (9999 : Int32)).bind (fun yr22 =>
if yr22 = true then
(fX11_within yh21 x1 (1 : Int32) (99 : Int32)).bind (fun yr23 =>
if yr23 = true then
(fX11_within yh21 x2 (0 : Int32) (2 : Int32)).bind (fun yr24 =>
if yr24 = true then
wlet (wuJ yh21 188 58 x0.toInt64) (fun yh25 =>
(fX11_copies yh25 225 25 (0 : Int32) 226 25 (0 : Int32)).bind (fun yr26 =>
(A yr26 x1 x2).bind (fun ye28 =>
(fX11_wholeNow ye28.2 ).bind (fun yr31 =>
(fX11_allThick yr31.2 ).bind (fun yr32 =>
(fX11_copies yr31.2 226 25 (0 : Int32) 225 25 (0 : Int32)).bind (fun yr33 =>
if x2 = 0 then
some (ye28.1, yr33)
else
if x2 = 1 then
some (yr31.1, yr33)
else
some (yr32, yr33)))))))
else
some ((-1 : Int32), yh21))
else
some ((-1 : Int32), yh21))
else
some ((-1 : Int32), yh21)))
def lpC (h : wSt) (x1 x2 : Int32) : Option (Int32 × wSt) := wit (fun v : (Int32 × Int32 × wSt) => fX10_years_l58 v.2.2 x1 x2 v.1 v.2.1) 3000 ((0 : Int32), (0 : Int32), h)
def lpM (h : wSt) (x1 x2 : Int32) : Option (Int32 × wSt) := wit (fun v : (Int32 × Int32 × wSt) => fX11_years_l62 v.2.2 x1 x2 v.1 v.2.1) 3000 ((0 : Int32), (0 : Int32), h)
theorem yrC_eq (h : wSt) (x0 x1 x2 : Int32) : fX10_years h x0 x1 x2 = yrC lpC h x0 x1 x2 := rfl
theorem yrM_eq (h : wSt) (x0 x1 x2 : Int32) : fX11_years h x0 x1 x2 = yrM lpM h x0 x1 x2 := rfl
/-- what the loops do -/
def gAc (L : gLib) (R : Nat → gSh → Bool × Nat × gSh) (A : wSt → Int32 → Int32 → Option (Int32 × wSt)) : Prop := ∀ (h : wSt) (S : gSh) (g w : Nat) (x2 : Int32), CX h L 34 S → h.2 134 0 = lN g → g < 2147483648 → S.1 ≤ 1000 → w ≤ 99 → ∃ q, A h (nI w) x2 = some (nI (gF (fun _ => gYs R) w (0, g, S)).1, q) ∧ CX q L 34 (gF (fun _ => gYs R) w (0, g, S)).2.2 ∧ fr sY h q
def gAm (L : gLib) (R : Nat → gSh → Bool × Nat × gSh) (A : wSt → Int32 → Int32 → Option (Int32 × wSt)) : Prop := ∀ (h : wSt) (S : gSh) (g w : Nat) (x2 : Int32), MX h L S → h.2 188 58 = lN g → g < 2147483648 → S.1 ≤ 1000 → w ≤ 99 → ∃ q, A h (nI w) x2 = some (nI (gF (fun _ => gYs R) w (0, g, S)).1, q) ∧ MX q L (gF (fun _ => gYs R) w (0, g, S)).2.2 ∧ q.1 188 = h.1 188 ∧ fr sZ h q
theorem gAc_0 : gAc L (gLv gDr gDw L) lpC := fun h S g w x2 hx hg hl hs hw => c_years gRw_0 gLvC_0 hx hg hl hs hw x2
theorem gAm_0 : gAm L (gLv gDr gDw L) lpM := fun h S g w x2 hx hg hl hs hw => r_years gRw_0 gLvM_0 hx hg hl hs hw x2
theorem sY_cs {c : Nat} (h : sY c) : cs c := by unfold sY at h; unfold cs; omega
theorem op_years0 {A B : wSt → Int32 → Int32 → Option (Int32 × wSt)} (R : gLib → Nat → gSh → Bool × Nat × gSh) (hA : ∀ L, gAc L (R L) A) (hB : ∀ L, gAm L (R L) B) (hI : Inv k h) (hk : k ≤ 1000) (x0 x1 x2 : Int32) : ∃ r h1 h2, yrC A h x0 x1 x2 = some (r, h1) ∧ yrM B h1 x0 x1 x2 = some (r, h2) ∧ Inv k h2 := by
  obtain ⟨L, S, u, M, Y, N, T, W, C, R'⟩ := hI
  have hk1 := W.2.2.1
  have R0 := MI_0 R' (nI 0)
  have a2 := r_within (wuI h 188 0 (nI 0)) x0 (a := 0) (b := 9999) (by omega) (by omega)
  have a3 := r_within (wuI h 188 0 (nI 0)) x1 (a := 1) (b := 99) (by omega) (by omega)
  have a4 := r_within (wuI h 188 0 (nI 0)) x2 (a := 0) (b := 2) (by omega) (by omega)
  cases e : gRg 0 9999 x0 with
  | none =>
    rw [e] at a2
    refine ⟨wno, h, _, ?_, ?_, Inv_q0 W C R' fr_rf⟩
    · rcases gRg_none e (by omega) (by omega) with q | ⟨q1, q2, q3⟩
      · simp (disch := omega) only [↓reduceIte, wlet, Option.bind_some, true_and, and_true, not_true_eq_false, not_false_eq_true, reduceCtorEq, n0_, n1_, n2_, n3_, n4_, n5_, n6_, n7_, n8_, n9_, n10_, n12_, n16_, n18_, n20_, n21_, n22_, n24_, n25_, n26_, n27_, n28_, n29_, n30_, n31_, n32_, n40_, n41_, n42_, n43_, n45_, n48_, n54_, n57_, n58_, n59_, n60_, n61_, n63_, n96_, n97_, n99_, n100_, n122_, n126_, n200_, n255_, n375_, n400_, n1000_, n2000_, n9999_, n5764801_, n1000000_, n3000_, m1, m2, le_t, le_f, lt_t, lt_f, eq_t, eq_f, no_lt, no_le, le_no, lt_no, eq_no, no_eq, add_no, wib_t, clamp, nI_add, pk_mul, pk_sub, nor_, nand_, ndif_, shl_, sh1_, shr_, tbn, tb0, tb1, les_t, les_f, pk_div, rem_, remv, and31, wu1, wuc, wui, wu2, ws1, wsc, ws2, wv1, n11_, n13_, n14_, n15_, n17_, n19_, n23_, n56_, n64_, yrC, q]
      · simp (disch := omega) only [↓reduceIte, wlet, Option.bind_some, true_and, and_true, not_true_eq_false, not_false_eq_true, reduceCtorEq, n0_, n1_, n2_, n3_, n4_, n5_, n6_, n7_, n8_, n9_, n10_, n12_, n16_, n18_, n20_, n21_, n22_, n24_, n25_, n26_, n27_, n28_, n29_, n30_, n31_, n32_, n40_, n41_, n42_, n43_, n45_, n48_, n54_, n57_, n58_, n59_, n60_, n61_, n63_, n96_, n97_, n99_, n100_, n122_, n126_, n200_, n255_, n375_, n400_, n1000_, n2000_, n9999_, n5764801_, n1000000_, n3000_, m1, m2, le_t, le_f, lt_t, lt_f, eq_t, eq_f, no_lt, no_le, le_no, lt_no, eq_no, no_eq, add_no, wib_t, clamp, nI_add, pk_mul, pk_sub, nor_, nand_, ndif_, shl_, sh1_, shr_, tbn, tb0, tb1, les_t, les_f, pk_div, rem_, remv, and31, wu1, wuc, wui, wu2, ws1, wsc, ws2, wv1, n11_, n13_, n14_, n15_, n17_, n19_, n23_, n56_, n64_, yrC, q1, q2]
    · simp (disch := omega) only [↓reduceIte, wlet, Option.bind_some, true_and, and_true, not_true_eq_false, not_false_eq_true, reduceCtorEq, n0_, n1_, n2_, n3_, n4_, n5_, n6_, n7_, n8_, n9_, n10_, n12_, n16_, n18_, n20_, n21_, n22_, n24_, n25_, n26_, n27_, n28_, n29_, n30_, n31_, n32_, n40_, n41_, n42_, n43_, n45_, n48_, n54_, n57_, n58_, n59_, n60_, n61_, n63_, n96_, n97_, n99_, n100_, n122_, n126_, n200_, n255_, n375_, n400_, n1000_, n2000_, n9999_, n5764801_, n1000000_, n3000_, m1, m2, le_t, le_f, lt_t, lt_f, eq_t, eq_f, no_lt, no_le, le_no, lt_no, eq_no, no_eq, add_no, wib_t, clamp, nI_add, pk_mul, pk_sub, nor_, nand_, ndif_, shl_, sh1_, shr_, tbn, tb0, tb1, les_t, les_f, pk_div, rem_, remv, and31, wu1, wuc, wui, wu2, ws1, wsc, ws2, wv1, n11_, n13_, n14_, n15_, n17_, n19_, n23_, n56_, n64_, yrM, a2, Option.isSome_none, Option.isSome_some, Bool.false_eq_true]
  | some s =>
    obtain ⟨rfl, -, hs⟩ := gRg_some e
    rw [e] at a2
    cases e1 : gRg 1 99 x1 with
    | none =>
      rw [e1] at a3
      refine ⟨wno, h, _, ?_, ?_, Inv_q0 W C R' fr_rf⟩
      · rcases gRg_none e1 (by omega) (by omega) with q | ⟨q1, q2, q3⟩
        · simp (disch := omega) only [↓reduceIte, wlet, Option.bind_some, true_and, and_true, not_true_eq_false, not_false_eq_true, reduceCtorEq, n0_, n1_, n2_, n3_, n4_, n5_, n6_, n7_, n8_, n9_, n10_, n12_, n16_, n18_, n20_, n21_, n22_, n24_, n25_, n26_, n27_, n28_, n29_, n30_, n31_, n32_, n40_, n41_, n42_, n43_, n45_, n48_, n54_, n57_, n58_, n59_, n60_, n61_, n63_, n96_, n97_, n99_, n100_, n122_, n126_, n200_, n255_, n375_, n400_, n1000_, n2000_, n9999_, n5764801_, n1000000_, n3000_, m1, m2, le_t, le_f, lt_t, lt_f, eq_t, eq_f, no_lt, no_le, le_no, lt_no, eq_no, no_eq, add_no, wib_t, clamp, nI_add, pk_mul, pk_sub, nor_, nand_, ndif_, shl_, sh1_, shr_, tbn, tb0, tb1, les_t, les_f, pk_div, rem_, remv, and31, wu1, wuc, wui, wu2, ws1, wsc, ws2, wv1, n11_, n13_, n14_, n15_, n17_, n19_, n23_, n56_, n64_, yrC, q]
        · simp (disch := omega) only [↓reduceIte, wlet, Option.bind_some, true_and, and_true, not_true_eq_false, not_false_eq_true, reduceCtorEq, n0_, n1_, n2_, n3_, n4_, n5_, n6_, n7_, n8_, n9_, n10_, n12_, n16_, n18_, n20_, n21_, n22_, n24_, n25_, n26_, n27_, n28_, n29_, n30_, n31_, n32_, n40_, n41_, n42_, n43_, n45_, n48_, n54_, n57_, n58_, n59_, n60_, n61_, n63_, n96_, n97_, n99_, n100_, n122_, n126_, n200_, n255_, n375_, n400_, n1000_, n2000_, n9999_, n5764801_, n1000000_, n3000_, m1, m2, le_t, le_f, lt_t, lt_f, eq_t, eq_f, no_lt, no_le, le_no, lt_no, eq_no, no_eq, add_no, wib_t, clamp, nI_add, pk_mul, pk_sub, nor_, nand_, ndif_, shl_, sh1_, shr_, tbn, tb0, tb1, les_t, les_f, pk_div, rem_, remv, and31, wu1, wuc, wui, wu2, ws1, wsc, ws2, wv1, n11_, n13_, n14_, n15_, n17_, n19_, n23_, n56_, n64_, yrC, q1, q2]
      · simp (disch := omega) only [↓reduceIte, wlet, Option.bind_some, true_and, and_true, not_true_eq_false, not_false_eq_true, reduceCtorEq, n0_, n1_, n2_, n3_, n4_, n5_, n6_, n7_, n8_, n9_, n10_, n12_, n16_, n18_, n20_, n21_, n22_, n24_, n25_, n26_, n27_, n28_, n29_, n30_, n31_, n32_, n40_, n41_, n42_, n43_, n45_, n48_, n54_, n57_, n58_, n59_, n60_, n61_, n63_, n96_, n97_, n99_, n100_, n122_, n126_, n200_, n255_, n375_, n400_, n1000_, n2000_, n9999_, n5764801_, n1000000_, n3000_, m1, m2, le_t, le_f, lt_t, lt_f, eq_t, eq_f, no_lt, no_le, le_no, lt_no, eq_no, no_eq, add_no, wib_t, clamp, nI_add, pk_mul, pk_sub, nor_, nand_, ndif_, shl_, sh1_, shr_, tbn, tb0, tb1, les_t, les_f, pk_div, rem_, remv, and31, wu1, wuc, wui, wu2, ws1, wsc, ws2, wv1, n11_, n13_, n14_, n15_, n17_, n19_, n23_, n56_, n64_, yrM, a2, a3, Option.isSome_none, Option.isSome_some, Bool.false_eq_true]
    | some w =>
      obtain ⟨rfl, hw1, hw2⟩ := gRg_some e1
      rw [e1] at a3
      cases e2 : gRg 0 2 x2 with
      | none =>
        rw [e2] at a4
        refine ⟨wno, h, _, ?_, ?_, Inv_q0 W C R' fr_rf⟩
        · rcases gRg_none e2 (by omega) (by omega) with q | ⟨q1, q2, q3⟩
          · simp (disch := omega) only [↓reduceIte, wlet, Option.bind_some, true_and, and_true, not_true_eq_false, not_false_eq_true, reduceCtorEq, n0_, n1_, n2_, n3_, n4_, n5_, n6_, n7_, n8_, n9_, n10_, n12_, n16_, n18_, n20_, n21_, n22_, n24_, n25_, n26_, n27_, n28_, n29_, n30_, n31_, n32_, n40_, n41_, n42_, n43_, n45_, n48_, n54_, n57_, n58_, n59_, n60_, n61_, n63_, n96_, n97_, n99_, n100_, n122_, n126_, n200_, n255_, n375_, n400_, n1000_, n2000_, n9999_, n5764801_, n1000000_, n3000_, m1, m2, le_t, le_f, lt_t, lt_f, eq_t, eq_f, no_lt, no_le, le_no, lt_no, eq_no, no_eq, add_no, wib_t, clamp, nI_add, pk_mul, pk_sub, nor_, nand_, ndif_, shl_, sh1_, shr_, tbn, tb0, tb1, les_t, les_f, pk_div, rem_, remv, and31, wu1, wuc, wui, wu2, ws1, wsc, ws2, wv1, n11_, n13_, n14_, n15_, n17_, n19_, n23_, n56_, n64_, yrC, q]
          · simp (disch := omega) only [↓reduceIte, wlet, Option.bind_some, true_and, and_true, not_true_eq_false, not_false_eq_true, reduceCtorEq, n0_, n1_, n2_, n3_, n4_, n5_, n6_, n7_, n8_, n9_, n10_, n12_, n16_, n18_, n20_, n21_, n22_, n24_, n25_, n26_, n27_, n28_, n29_, n30_, n31_, n32_, n40_, n41_, n42_, n43_, n45_, n48_, n54_, n57_, n58_, n59_, n60_, n61_, n63_, n96_, n97_, n99_, n100_, n122_, n126_, n200_, n255_, n375_, n400_, n1000_, n2000_, n9999_, n5764801_, n1000000_, n3000_, m1, m2, le_t, le_f, lt_t, lt_f, eq_t, eq_f, no_lt, no_le, le_no, lt_no, eq_no, no_eq, add_no, wib_t, clamp, nI_add, pk_mul, pk_sub, nor_, nand_, ndif_, shl_, sh1_, shr_, tbn, tb0, tb1, les_t, les_f, pk_div, rem_, remv, and31, wu1, wuc, wui, wu2, ws1, wsc, ws2, wv1, n11_, n13_, n14_, n15_, n17_, n19_, n23_, n56_, n64_, yrC, q1, q3]
        · simp (disch := omega) only [↓reduceIte, wlet, Option.bind_some, true_and, and_true, not_true_eq_false, not_false_eq_true, reduceCtorEq, n0_, n1_, n2_, n3_, n4_, n5_, n6_, n7_, n8_, n9_, n10_, n12_, n16_, n18_, n20_, n21_, n22_, n24_, n25_, n26_, n27_, n28_, n29_, n30_, n31_, n32_, n40_, n41_, n42_, n43_, n45_, n48_, n54_, n57_, n58_, n59_, n60_, n61_, n63_, n96_, n97_, n99_, n100_, n122_, n126_, n200_, n255_, n375_, n400_, n1000_, n2000_, n9999_, n5764801_, n1000000_, n3000_, m1, m2, le_t, le_f, lt_t, lt_f, eq_t, eq_f, no_lt, no_le, le_no, lt_no, eq_no, no_eq, add_no, wib_t, clamp, nI_add, pk_mul, pk_sub, nor_, nand_, ndif_, shl_, sh1_, shr_, tbn, tb0, tb1, les_t, les_f, pk_div, rem_, remv, and31, wu1, wuc, wui, wu2, ws1, wsc, ws2, wv1, n11_, n13_, n14_, n15_, n17_, n19_, n23_, n56_, n64_, yrM, a2, a3, a4, Option.isSome_none, Option.isSome_some, Bool.false_eq_true]
      | some o =>
        obtain ⟨rfl, -, ho⟩ := gRg_some e2
        obtain ⟨g1, c1, x1', y1, f1⟩ := c_trial (W_CX W C)
        have hls : (nI s).toInt64 = lN s := nI_l (by omega)
        obtain ⟨x2', f2⟩ := CX_134 x1' (lN s)
        obtain ⟨g3, c3, x3, f3⟩ := hA L (wuJ g1 134 0 (lN s)) S s w (nI o) x2' wv2 (by omega) (by omega) hw2
        have f13 : fr cs h g3 := fr_tr (fr_mono f1 (fun c => sk34_cs)) (fr_tr (fr_mono f2 (fun c q => sY_cs (Or.inl q))) (fr_mono f3 (fun c => sY_cs)))
        have d3 := c_dampNow x3
        obtain ⟨g4, c4, f4⟩ := c_whole x3 (w := gDamp L (gF (fun _ => gYs (R L)) w (0, s, S)).2.2.1) (gDamp_le W.1 _)
        have f14 : fr cs h g4 := fr_tr f13 (fr_mono f4 (fun c => sq_cs))
        have t3 := c_thick x3
        have key : ∀ g, fr cs h g → ∃ g6, yrM B g (nI s) (nI w) (nI o) = some ((if o = 0 then nI (gF (fun _ => gYs (R L)) w (0, s, S)).1 else if o = 1 then nI (gWhole L (gF (fun _ => gYs (R L)) w (0, s, S)).2.2 (gDamp L (gF (fun _ => gYs (R L)) w (0, s, S)).2.2.1)) else nI ((gF (fun _ => gYs (R L)) w (0, s, S)).2.2.2.1 0 + (gF (fun _ => gYs (R L)) w (0, s, S)).2.2.2.1 1 + (gF (fun _ => gYs (R L)) w (0, s, S)).2.2.2.1 2)), g6) ∧ Inv k g6 := by
          intro g fg
          have R1 := MI_0 (MI_cls R' (fr_mono fg (fun c => cs_cls))) (nI 0)
          have a2 := r_within (wuI g 188 0 (nI 0)) (nI s) (a := 0) (b := 9999) (by omega) (by omega)
          have a3 := r_within (wuI g 188 0 (nI 0)) (nI w) (a := 1) (b := 99) (by omega) (by omega)
          have a4 := r_within (wuI g 188 0 (nI 0)) (nI o) (a := 0) (b := 2) (by omega) (by omega)
          rw [e] at a2
          rw [e1] at a3
          rw [e2] at a4
          obtain ⟨z1, u1⟩ := MX_188 (W_MX W R1) (lN s)
          obtain ⟨p1, q1, m1', y1, t1⟩ := r_trial6 z1
          have l1 : p1.2 188 58 = lN s := by rw [(t1 188 (by omega)).2, wv2]
          obtain ⟨p3, q3, m3', y3, t3⟩ := hB L p1 S s w (nI o) m1' l1 (by omega) (by omega) hw2
          obtain ⟨p4, q4, t4⟩ := r_wholeNow m3'
          have q5 := r_thick (MX_sr m3' t4)
          obtain ⟨p6, q6, m6', t6⟩ := r_back6 (MX_sr m3' t4) W.2.1 (MS_fr (MS_fr y1 t3 (by unfold sZ; omega)) t4 (by unfold sr; omega))
          have ft : fr rs (wuI g 188 0 (nI 0)) p6 := fr_tr (fr_mono u1 (fun c q => Or.inl q)) (fr_tr (fr_mono t1 (fun c q => by unfold rs; omega)) (fr_tr (fr_mono t3 (fun c q => by unfold sZ at q; unfold rs; omega)) (fr_tr (fr_mono t4 (fun c => sr_rs)) (fr_mono t6 (fun c => s225_rs)))))
          have e188 : p6.1 188 = (wuI g 188 0 (nI 0)).1 188 := by
            rw [fr_at t6 (by unfold s225; omega), fr_at t4 (by unfold sr; omega), y3, fr_at t1 (by omega)]
            rfl
          refine ⟨p6, ?_, Inv_q W C R' fg ft (by rw [e188, wui (by omega)]) (by rw [e188, wui (by omega)]) m6'.2.2.2⟩
          rcases (show o = 0 ∨ o = 1 ∨ o = 2 by omega) with rfl | rfl | rfl
          · rw [if_pos rfl]
            simp (disch := omega) only [↓reduceIte, wlet, Option.bind_some, true_and, and_true, not_true_eq_false, not_false_eq_true, reduceCtorEq, n0_, n1_, n2_, n3_, n4_, n5_, n6_, n7_, n8_, n9_, n10_, n12_, n16_, n18_, n20_, n21_, n22_, n24_, n25_, n26_, n27_, n28_, n29_, n30_, n31_, n32_, n40_, n41_, n42_, n43_, n45_, n48_, n54_, n57_, n58_, n59_, n60_, n61_, n63_, n96_, n97_, n99_, n100_, n122_, n126_, n200_, n255_, n375_, n400_, n1000_, n2000_, n9999_, n5764801_, n1000000_, n3000_, m1, m2, le_t, le_f, lt_t, lt_f, eq_t, eq_f, no_lt, no_le, le_no, lt_no, eq_no, no_eq, add_no, wib_t, clamp, nI_add, pk_mul, pk_sub, nor_, nand_, ndif_, shl_, sh1_, shr_, tbn, tb0, tb1, les_t, les_f, pk_div, rem_, remv, and31, wu1, wuc, wui, wu2, ws1, wsc, ws2, wv1, n11_, n13_, n14_, n15_, n17_, n19_, n23_, n56_, n64_, yrM, a2, a3, a4, hls, q1, q3, q4, q5, q6, Option.isSome_none, Option.isSome_some, Bool.false_eq_true]
          · rw [if_neg (show ¬ (1 : Nat) = 0 by omega), if_pos rfl]
            simp (disch := omega) only [↓reduceIte, wlet, Option.bind_some, true_and, and_true, not_true_eq_false, not_false_eq_true, reduceCtorEq, n0_, n1_, n2_, n3_, n4_, n5_, n6_, n7_, n8_, n9_, n10_, n12_, n16_, n18_, n20_, n21_, n22_, n24_, n25_, n26_, n27_, n28_, n29_, n30_, n31_, n32_, n40_, n41_, n42_, n43_, n45_, n48_, n54_, n57_, n58_, n59_, n60_, n61_, n63_, n96_, n97_, n99_, n100_, n122_, n126_, n200_, n255_, n375_, n400_, n1000_, n2000_, n9999_, n5764801_, n1000000_, n3000_, m1, m2, le_t, le_f, lt_t, lt_f, eq_t, eq_f, no_lt, no_le, le_no, lt_no, eq_no, no_eq, add_no, wib_t, clamp, nI_add, pk_mul, pk_sub, nor_, nand_, ndif_, shl_, sh1_, shr_, tbn, tb0, tb1, les_t, les_f, pk_div, rem_, remv, and31, wu1, wuc, wui, wu2, ws1, wsc, ws2, wv1, n11_, n13_, n14_, n15_, n17_, n19_, n23_, n56_, n64_, yrM, a2, a3, a4, hls, q1, q3, q4, q5, q6, Option.isSome_none, Option.isSome_some, Bool.false_eq_true]
          · rw [if_neg (show ¬ (2 : Nat) = 0 by omega), if_neg (show ¬ (2 : Nat) = 1 by omega)]
            simp (disch := omega) only [↓reduceIte, wlet, Option.bind_some, true_and, and_true, not_true_eq_false, not_false_eq_true, reduceCtorEq, n0_, n1_, n2_, n3_, n4_, n5_, n6_, n7_, n8_, n9_, n10_, n12_, n16_, n18_, n20_, n21_, n22_, n24_, n25_, n26_, n27_, n28_, n29_, n30_, n31_, n32_, n40_, n41_, n42_, n43_, n45_, n48_, n54_, n57_, n58_, n59_, n60_, n61_, n63_, n96_, n97_, n99_, n100_, n122_, n126_, n200_, n255_, n375_, n400_, n1000_, n2000_, n9999_, n5764801_, n1000000_, n3000_, m1, m2, le_t, le_f, lt_t, lt_f, eq_t, eq_f, no_lt, no_le, le_no, lt_no, eq_no, no_eq, add_no, wib_t, clamp, nI_add, pk_mul, pk_sub, nor_, nand_, ndif_, shl_, sh1_, shr_, tbn, tb0, tb1, les_t, les_f, pk_div, rem_, remv, and31, wu1, wuc, wui, wu2, ws1, wsc, ws2, wv1, n11_, n13_, n14_, n15_, n17_, n19_, n23_, n56_, n64_, yrM, a2, a3, a4, hls, q1, q3, q4, q5, q6, Option.isSome_none, Option.isSome_some, Bool.false_eq_true]
        rcases (show o = 0 ∨ o = 1 ∨ o = 2 by omega) with rfl | rfl | rfl
        · obtain ⟨g6, k1, k2⟩ := key g3 f13
          refine ⟨_, g3, g6, ?_, k1, k2⟩
          rw [if_pos rfl]
          simp (disch := omega) only [↓reduceIte, wlet, Option.bind_some, true_and, and_true, not_true_eq_false, not_false_eq_true, reduceCtorEq, n0_, n1_, n2_, n3_, n4_, n5_, n6_, n7_, n8_, n9_, n10_, n12_, n16_, n18_, n20_, n21_, n22_, n24_, n25_, n26_, n27_, n28_, n29_, n30_, n31_, n32_, n40_, n41_, n42_, n43_, n45_, n48_, n54_, n57_, n58_, n59_, n60_, n61_, n63_, n96_, n97_, n99_, n100_, n122_, n126_, n200_, n255_, n375_, n400_, n1000_, n2000_, n9999_, n5764801_, n1000000_, n3000_, m1, m2, le_t, le_f, lt_t, lt_f, eq_t, eq_f, no_lt, no_le, le_no, lt_no, eq_no, no_eq, add_no, wib_t, clamp, nI_add, pk_mul, pk_sub, nor_, nand_, ndif_, shl_, sh1_, shr_, tbn, tb0, tb1, les_t, les_f, pk_div, rem_, remv, and31, wu1, wuc, wui, wu2, ws1, wsc, ws2, wv1, n11_, n13_, n14_, n15_, n17_, n19_, n23_, n56_, n64_, yrC, fX1_start, c1, hls, c3]
        · obtain ⟨g6, k1, k2⟩ := key g4 f14
          refine ⟨_, g4, g6, ?_, k1, k2⟩
          rw [if_neg (show ¬ (1 : Nat) = 0 by omega), if_pos rfl]
          simp (disch := omega) only [↓reduceIte, wlet, Option.bind_some, true_and, and_true, not_true_eq_false, not_false_eq_true, reduceCtorEq, n0_, n1_, n2_, n3_, n4_, n5_, n6_, n7_, n8_, n9_, n10_, n12_, n16_, n18_, n20_, n21_, n22_, n24_, n25_, n26_, n27_, n28_, n29_, n30_, n31_, n32_, n40_, n41_, n42_, n43_, n45_, n48_, n54_, n57_, n58_, n59_, n60_, n61_, n63_, n96_, n97_, n99_, n100_, n122_, n126_, n200_, n255_, n375_, n400_, n1000_, n2000_, n9999_, n5764801_, n1000000_, n3000_, m1, m2, le_t, le_f, lt_t, lt_f, eq_t, eq_f, no_lt, no_le, le_no, lt_no, eq_no, no_eq, add_no, wib_t, clamp, nI_add, pk_mul, pk_sub, nor_, nand_, ndif_, shl_, sh1_, shr_, tbn, tb0, tb1, les_t, les_f, pk_div, rem_, remv, and31, wu1, wuc, wui, wu2, ws1, wsc, ws2, wv1, n11_, n13_, n14_, n15_, n17_, n19_, n23_, n56_, n64_, yrC, fX1_start, c1, hls, c3, d3, c4]
        · obtain ⟨g6, k1, k2⟩ := key g3 f13
          refine ⟨_, g3, g6, ?_, k1, k2⟩
          rw [if_neg (show ¬ (2 : Nat) = 0 by omega), if_neg (show ¬ (2 : Nat) = 1 by omega)]
          simp (disch := omega) only [↓reduceIte, wlet, Option.bind_some, true_and, and_true, not_true_eq_false, not_false_eq_true, reduceCtorEq, n0_, n1_, n2_, n3_, n4_, n5_, n6_, n7_, n8_, n9_, n10_, n12_, n16_, n18_, n20_, n21_, n22_, n24_, n25_, n26_, n27_, n28_, n29_, n30_, n31_, n32_, n40_, n41_, n42_, n43_, n45_, n48_, n54_, n57_, n58_, n59_, n60_, n61_, n63_, n96_, n97_, n99_, n100_, n122_, n126_, n200_, n255_, n375_, n400_, n1000_, n2000_, n9999_, n5764801_, n1000000_, n3000_, m1, m2, le_t, le_f, lt_t, lt_f, eq_t, eq_f, no_lt, no_le, le_no, lt_no, eq_no, no_eq, add_no, wib_t, clamp, nI_add, pk_mul, pk_sub, nor_, nand_, ndif_, shl_, sh1_, shr_, tbn, tb0, tb1, les_t, les_f, pk_div, rem_, remv, and31, wu1, wuc, wui, wu2, ws1, wsc, ws2, wv1, n11_, n13_, n14_, n15_, n17_, n19_, n23_, n56_, n64_, yrC, fX1_start, c1, hls, c3, t3]
theorem op_years (hI : Inv k h) (hk : k ≤ 1000) (x0 x1 x2 : Int32) : ∃ r h1 h2, fX10_years h x0 x1 x2 = some (r, h1) ∧ fX11_years h1 x0 x1 x2 = some (r, h2) ∧ Inv k h2 := by
  obtain ⟨r, h1, h2, e1, e2, hI2⟩ := op_years0 (gLv gDr gDw) (fun L => gAc_0) (fun L => gAm_0) hI hk x0 x1 x2
  exact ⟨r, h1, h2, (yrC_eq h x0 x1 x2).trans e1, (yrM_eq h1 x0 x1 x2).trans e2, hI2⟩
end G48

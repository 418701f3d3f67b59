/-! LAYING, text by text: this side -/
def grd : List Nat → Nat → Nat → List (Option Nat)
  | [], _, _ => []
  | l :: ls, F, n => match (if n = 0 then none else gFn (fun p => fit F p l && decide (n - 1 ≤ bst ls (bdf F (blk p l)))) 18 0) with
    | some p => some p :: grd ls (bdf F (blk p l)) (n - 1)
    | none => none :: grd ls F n
theorem blk_lt {p l : Nat} (hp : p < 18) (hl : l ≤ 6) : blk p l < 16777216 := by
  unfold blk
  have h1 : 2 ^ l ≤ 2 ^ 6 := Nat.pow_le_pow_right (by decide) hl
  have h2 : 2 ^ p ≤ 2 ^ 17 := Nat.pow_le_pow_right (by decide) (by omega)
  have := Nat.mul_le_mul (show 2 ^ l - 1 ≤ 63 by omega) h2
  omega
section G53
variable {h : wSt} {L : gLib}
theorem c_linesOf (hW : WL L) (hC : CL h L) {t p : Nat} (ht : t < gnt L) (hp : p < 18) : fX3_linesOf h (nI t) (nI p) = some (nI (blk p (gtl L t))) := by
  have n2 := hW.2.1
  have c2 := (hC.2.2.2.2.1 t ht).2.2.1
  obtain ⟨-, -, t1, t2, -⟩ := hW.2.2.2.2.1 t ht
  have p1 : 2 ^ gtl L t ≤ 64 := pow_le_64 t2
  have p2 : 1 ≤ 2 ^ gtl L t := Nat.one_le_two_pow
  have p4 := blk_lt hp t2
  unfold blk at p4 ⊢
  simp (disch := omega) only [↓reduceIte, wlet, Option.bind_some, true_and, and_true, not_true_eq_false, not_false_eq_true, reduceCtorEq, n0_, n1_, n2_, n3_, n4_, n5_, n6_, n7_, n8_, n9_, n10_, n12_, n16_, n18_, n20_, n21_, n22_, n24_, n25_, n26_, n27_, n28_, n29_, n30_, n31_, n32_, n40_, n41_, n42_, n43_, n45_, n48_, n54_, n57_, n58_, n59_, n60_, n61_, n63_, n96_, n97_, n99_, n100_, n122_, n126_, n200_, n255_, n375_, n400_, n1000_, n2000_, n9999_, n5764801_, n1000000_, n3000_, m1, m2, le_t, le_f, lt_t, lt_f, eq_t, eq_f, no_lt, no_le, le_no, lt_no, eq_no, no_eq, add_no, wib_t, clamp, nI_add, pk_mul, pk_sub, nor_, nand_, ndif_, shl_, sh1_, shr_, tbn, tb0, tb1, les_t, les_f, pk_div, rem_, remv, and31, wu1, wuc, wui, wu2, ws1, wsc, ws2, wv1, n11_, n13_, n14_, n15_, n17_, n19_, n23_, n56_, n64_, fX3_linesOf, c2, Nat.one_mul]
theorem c_first (hW : WL L) (hC : CL h L) {r H F : Nat} (hr : r + 1 ≤ gnt L) (hH : H ≤ 6) (hF : F < 262144) : ∃ g, fX3_firstPlaceLeaving h (nI H) (nI (gnt L - (r + 1))) (nI F) = some (rI (gFn (fun p => fit F p (gtl L (gnt L - (r + 1))) && decide (H ≤ bst (tlr L r) (bdf F (blk p (gtl L (gnt L - (r + 1))))))) 18 0), g) ∧ fr sL h g ∧ g.1 130 1 = h.1 130 1 := by
  have n2 := hW.2.1
  have ht : gnt L - (r + 1) < gnt L := by omega
  obtain ⟨-, -, t1, t2, -⟩ := hW.2.2.2.2.1 _ ht
  obtain ⟨e, he, g, fg, gj, eg⟩ := wit_find (b := fun v : (Int32 × wSt) => fX3_firstPlaceLeaving_l3 v.2 (nI H) (nI (gnt L - (r + 1))) (nI F) v.1) (fun p => fit F p (gtl L (gnt L - (r + 1))) && decide (H ≤ bst (tlr L r) (bdf F (blk p (gtl L (gnt L - (r + 1))))))) 18
    (fun p v => ∃ g, v = (nI p, g) ∧ fr sL h g ∧ g.1 130 1 = h.1 130 1)
    (fun o e => ∃ g, fr sL h g ∧ g.1 130 1 = h.1 130 1 ∧ e = (match o with | none => Sum.inl g | some p => Sum.inr (nI p, g)))
    (by
      rintro p v hp ⟨g, rfl, fg, gj⟩
      have hC2 := CL_fr hC fg (fun c _ _ => by unfold sL; omega)
      have c2 := (hC2.2.2.2.2.1 _ ht).2.2.1
      have e1 := c_linesOf hW hC2 ht hp
      have p4 := blk_lt hp t2
      have p5 : bdf (blk p (gtl L (gnt L - (r + 1)))) F < 2 ^ 24 := bdf_lt (by omega)
      have p6 : bdf F (blk p (gtl L (gnt L - (r + 1)))) < 2 ^ 18 := bdf_lt (by omega)
      obtain ⟨b, g2, e2, hb, f2, j2⟩ := c_canLay hW hC2 (n := r) (H := H) (F := bdf F (blk p (gtl L (gnt L - (r + 1))))) (by omega) hH p6
      rw [show gnt L - r = gnt L - (r + 1) + 1 by omega] at e2
      revert c2 e1 p4 p5 p6 e2 hb t1 t2
      generalize gtl L (gnt L - (r + 1)) = l
      generalize gnt L - (r + 1) = t at ht ⊢
      intro t1 t2 c2 e1 p4 p5 p6 e2 hb
      have hf := fit_spec (F := F) (p := p) (l := l)
      refine ⟨fun hq => ?_, fun hq => ?_⟩
      · simp only [Bool.and_eq_true, decide_eq_true_eq] at hq
        obtain ⟨q1, q2⟩ := hf.mp hq.1
        have hbt := hb.mpr hq.2
        rw [hbt] at e2
        refine ⟨.inr (nI p, g2), ?_, g2, fr_tr fg f2, j2.trans gj, rfl⟩
        simp (disch := omega) only [↓reduceIte, wlet, Option.bind_some, true_and, and_true, not_true_eq_false, not_false_eq_true, reduceCtorEq, n0_, n1_, n2_, n3_, n4_, n5_, n6_, n7_, n8_, n9_, n10_, n12_, n16_, n18_, n20_, n21_, n22_, n24_, n25_, n26_, n27_, n28_, n29_, n30_, n31_, n32_, n40_, n41_, n42_, n43_, n45_, n48_, n54_, n57_, n58_, n59_, n60_, n61_, n63_, n96_, n97_, n99_, n100_, n122_, n126_, n200_, n255_, n375_, n400_, n1000_, n2000_, n9999_, n5764801_, n1000000_, n3000_, m1, m2, le_t, le_f, lt_t, lt_f, eq_t, eq_f, no_lt, no_le, le_no, lt_no, eq_no, no_eq, add_no, wib_t, clamp, nI_add, pk_mul, pk_sub, nor_, nand_, ndif_, shl_, sh1_, shr_, tbn, tb0, tb1, les_t, les_f, pk_div, rem_, remv, and31, wu1, wuc, wui, wu2, ws1, wsc, ws2, wv1, n11_, n13_, n14_, n15_, n17_, n19_, n23_, n56_, n64_, fX3_firstPlaceLeaving_l3, fX3_firstPlaceLeaving_b44_3, fX3_firstPlaceLeaving_b80_3, e1, c2, q2, e2]
      · by_cases q1 : p % 6 + l ≤ 6
        · by_cases q2 : bdf (blk p l) F = 0
          · have hff := hf.mpr ⟨q1, q2⟩
            rw [hff, Bool.true_and] at hq
            have hq : ¬ H ≤ bst (tlr L r) (bdf F (blk p l)) := by simpa using hq
            have hbf : b = false := by
              cases b with
              | false => rfl
              | true => exact absurd (hb.mp rfl) hq
            rw [hbf] at e2
            refine ⟨(nI (p + 1), g2), ?_, g2, rfl, fr_tr fg f2, j2.trans gj⟩
            simp (disch := omega) only [↓reduceIte, wlet, Option.bind_some, true_and, and_true, not_true_eq_false, not_false_eq_true, reduceCtorEq, n0_, n1_, n2_, n3_, n4_, n5_, n6_, n7_, n8_, n9_, n10_, n12_, n16_, n18_, n20_, n21_, n22_, n24_, n25_, n26_, n27_, n28_, n29_, n30_, n31_, n32_, n40_, n41_, n42_, n43_, n45_, n48_, n54_, n57_, n58_, n59_, n60_, n61_, n63_, n96_, n97_, n99_, n100_, n122_, n126_, n200_, n255_, n375_, n400_, n1000_, n2000_, n9999_, n5764801_, n1000000_, n3000_, m1, m2, le_t, le_f, lt_t, lt_f, eq_t, eq_f, no_lt, no_le, le_no, lt_no, eq_no, no_eq, add_no, wib_t, clamp, nI_add, pk_mul, pk_sub, nor_, nand_, ndif_, shl_, sh1_, shr_, tbn, tb0, tb1, les_t, les_f, pk_div, rem_, remv, and31, wu1, wuc, wui, wu2, ws1, wsc, ws2, wv1, n11_, n13_, n14_, n15_, n17_, n19_, n23_, n56_, n64_, fX3_firstPlaceLeaving_l3, fX3_firstPlaceLeaving_b44_3, fX3_firstPlaceLeaving_b80_3, e1, c2, q2, e2, Option.isSome_none, Option.isSome_some, Bool.false_eq_true]
          · refine ⟨(nI (p + 1), g), ?_, g, rfl, fg, gj⟩
            simp (disch := omega) only [↓reduceIte, wlet, Option.bind_some, true_and, and_true, not_true_eq_false, not_false_eq_true, reduceCtorEq, n0_, n1_, n2_, n3_, n4_, n5_, n6_, n7_, n8_, n9_, n10_, n12_, n16_, n18_, n20_, n21_, n22_, n24_, n25_, n26_, n27_, n28_, n29_, n30_, n31_, n32_, n40_, n41_, n42_, n43_, n45_, n48_, n54_, n57_, n58_, n59_, n60_, n61_, n63_, n96_, n97_, n99_, n100_, n122_, n126_, n200_, n255_, n375_, n400_, n1000_, n2000_, n9999_, n5764801_, n1000000_, n3000_, m1, m2, le_t, le_f, lt_t, lt_f, eq_t, eq_f, no_lt, no_le, le_no, lt_no, eq_no, no_eq, add_no, wib_t, clamp, nI_add, pk_mul, pk_sub, nor_, nand_, ndif_, shl_, sh1_, shr_, tbn, tb0, tb1, les_t, les_f, pk_div, rem_, remv, and31, wu1, wuc, wui, wu2, ws1, wsc, ws2, wv1, n11_, n13_, n14_, n15_, n17_, n19_, n23_, n56_, n64_, fX3_firstPlaceLeaving_l3, fX3_firstPlaceLeaving_b44_3, fX3_firstPlaceLeaving_b80_3, e1, c2]
        · refine ⟨(nI (p + 1), g), ?_, g, rfl, fg, gj⟩
          simp (disch := omega) only [↓reduceIte, wlet, Option.bind_some, true_and, and_true, not_true_eq_false, not_false_eq_true, reduceCtorEq, n0_, n1_, n2_, n3_, n4_, n5_, n6_, n7_, n8_, n9_, n10_, n12_, n16_, n18_, n20_, n21_, n22_, n24_, n25_, n26_, n27_, n28_, n29_, n30_, n31_, n32_, n40_, n41_, n42_, n43_, n45_, n48_, n54_, n57_, n58_, n59_, n60_, n61_, n63_, n96_, n97_, n99_, n100_, n122_, n126_, n200_, n255_, n375_, n400_, n1000_, n2000_, n9999_, n5764801_, n1000000_, n3000_, m1, m2, le_t, le_f, lt_t, lt_f, eq_t, eq_f, no_lt, no_le, le_no, lt_no, eq_no, no_eq, add_no, wib_t, clamp, nI_add, pk_mul, pk_sub, nor_, nand_, ndif_, shl_, sh1_, shr_, tbn, tb0, tb1, les_t, les_f, pk_div, rem_, remv, and31, wu1, wuc, wui, wu2, ws1, wsc, ws2, wv1, n11_, n13_, n14_, n15_, n17_, n19_, n23_, n56_, n64_, fX3_firstPlaceLeaving_l3, fX3_firstPlaceLeaving_b44_3, fX3_firstPlaceLeaving_b80_3, e1, c2])
    (by
      rintro v ⟨g, rfl, fg, gj⟩
      refine ⟨.inl g, ?_, g, fg, gj, rfl⟩
      simp (disch := omega) only [↓reduceIte, wlet, Option.bind_some, true_and, and_true, not_true_eq_false, not_false_eq_true, reduceCtorEq, n0_, n1_, n2_, n3_, n4_, n5_, n6_, n7_, n8_, n9_, n10_, n12_, n16_, n18_, n20_, n21_, n22_, n24_, n25_, n26_, n27_, n28_, n29_, n30_, n31_, n32_, n40_, n41_, n42_, n43_, n45_, n48_, n54_, n57_, n58_, n59_, n60_, n61_, n63_, n96_, n97_, n99_, n100_, n122_, n126_, n200_, n255_, n375_, n400_, n1000_, n2000_, n9999_, n5764801_, n1000000_, n3000_, m1, m2, le_t, le_f, lt_t, lt_f, eq_t, eq_f, no_lt, no_le, le_no, lt_no, eq_no, no_eq, add_no, wib_t, clamp, nI_add, pk_mul, pk_sub, nor_, nand_, ndif_, shl_, sh1_, shr_, tbn, tb0, tb1, les_t, les_f, pk_div, rem_, remv, and31, wu1, wuc, wui, wu2, ws1, wsc, ws2, wv1, n11_, n13_, n14_, n15_, n17_, n19_, n23_, n56_, n64_, fX3_firstPlaceLeaving_l3])
    (N := 3000) (by omega) (v0 := (nI 0, h)) ⟨h, rfl, fr_rf, rfl⟩
  refine ⟨g, ?_, fg, gj⟩
  unfold fX3_firstPlaceLeaving
  rw [n0_, he, eg]
  generalize gFn (fun p => fit F p (gtl L (gnt L - (r + 1))) && decide (H ≤ bst (tlr L r) (bdf F (blk p (gtl L (gnt L - (r + 1))))))) 18 0 = o
  cases o <;> rfl
def sLa (c : Nat) : Prop := 130 ≤ c ∧ c ≤ 133
theorem sL_a {c : Nat} (h : sL c) : sLa c := by unfold sL at h; unfold sLa; omega
theorem c_find (hW : WL L) (hC : CL h L) {F : Nat} (hF : F < 262144) : ∃ g, fX3_find h (nI F) = some g ∧ fr sLa h g ∧ g.1 130 1 = nI (bst (tlr L (gnt L)) F) ∧ ∀ j, j < gnt L → g.1 131 j = rI ((grd (tlr L (gnt L)) F (bst (tlr L (gnt L)) F)).getD j none) := by
  have n2 := hW.2.1
  have c0 := hC.2.1
  have hB := bst_le (tlr L (gnt L)) F
  rw [tlr_len] at hB
  generalize hbs : bst (tlr L (gnt L)) F = B
  rw [hbs] at hB
  have f0 : fr sLa h (wuI h 130 1 (nI (gnt L))) := fr_wuI (by unfold sLa; omega)
  obtain ⟨g1, e1, m1', f1⟩ := wit_or (b := fun v : wSt => fX3_find_l13 v (nI F)) (gnt L)
    (fun i g => g.1 130 1 = nI (gnt L - i) ∧ B ≤ gnt L - i ∧ fr sLa h g) (fun g => g.1 130 1 = nI B ∧ fr sLa h g)
    (by
      rintro i g hi ⟨g0, gb, fg⟩
      have hC2 := CL_fr hC fg (fun c _ _ => by unfold sLa; omega)
      obtain ⟨b, g2, e2, hb, f2, j2⟩ := c_canLay hW hC2 (n := gnt L) (H := gnt L - i) (F := F) (Nat.le_refl _) (by omega) hF
      rw [Nat.sub_self] at e2
      rw [hbs] at hb
      have j3 := j2.trans g0
      cases b with
      | true =>
        right
        have := hb.mp rfl
        refine ⟨g2, ?_, by rw [j3, show gnt L - i = B by omega], fr_tr fg (fr_mono f2 (fun c => sL_a))⟩
        simp (disch := omega) only [↓reduceIte, wlet, Option.bind_some, true_and, and_true, not_true_eq_false, not_false_eq_true, reduceCtorEq, n0_, n1_, n2_, n3_, n4_, n5_, n6_, n7_, n8_, n9_, n10_, n12_, n16_, n18_, n20_, n21_, n22_, n24_, n25_, n26_, n27_, n28_, n29_, n30_, n31_, n32_, n40_, n41_, n42_, n43_, n45_, n48_, n54_, n57_, n58_, n59_, n60_, n61_, n63_, n96_, n97_, n99_, n100_, n122_, n126_, n200_, n255_, n375_, n400_, n1000_, n2000_, n9999_, n5764801_, n1000000_, n3000_, m1, m2, le_t, le_f, lt_t, lt_f, eq_t, eq_f, no_lt, no_le, le_no, lt_no, eq_no, no_eq, add_no, wib_t, clamp, nI_add, pk_mul, pk_sub, nor_, nand_, ndif_, shl_, sh1_, shr_, tbn, tb0, tb1, les_t, les_f, pk_div, rem_, remv, and31, wu1, wuc, wui, wu2, ws1, wsc, ws2, wv1, n11_, n13_, n14_, n15_, n17_, n19_, n23_, n56_, n64_, fX3_find_l13, g0, e2]
      | false =>
        left
        have : ¬ gnt L - i ≤ B := fun q => by cases hb.mpr q
        refine ⟨wuI g2 130 1 (nI (gnt L - (i + 1))), ?_, wu1, by omega, fr_tr fg (fr_tr (fr_mono f2 (fun c => sL_a)) (fr_wuI (by unfold sLa; omega)))⟩
        simp (disch := omega) only [↓reduceIte, wlet, Option.bind_some, true_and, and_true, not_true_eq_false, not_false_eq_true, reduceCtorEq, n0_, n1_, n2_, n3_, n4_, n5_, n6_, n7_, n8_, n9_, n10_, n12_, n16_, n18_, n20_, n21_, n22_, n24_, n25_, n26_, n27_, n28_, n29_, n30_, n31_, n32_, n40_, n41_, n42_, n43_, n45_, n48_, n54_, n57_, n58_, n59_, n60_, n61_, n63_, n96_, n97_, n99_, n100_, n122_, n126_, n200_, n255_, n375_, n400_, n1000_, n2000_, n9999_, n5764801_, n1000000_, n3000_, m1, m2, le_t, le_f, lt_t, lt_f, eq_t, eq_f, no_lt, no_le, le_no, lt_no, eq_no, no_eq, add_no, wib_t, clamp, nI_add, pk_mul, pk_sub, nor_, nand_, ndif_, shl_, sh1_, shr_, tbn, tb0, tb1, les_t, les_f, pk_div, rem_, remv, and31, wu1, wuc, wui, wu2, ws1, wsc, ws2, wv1, n11_, n13_, n14_, n15_, n17_, n19_, n23_, n56_, n64_, fX3_find_l13, g0, e2, j3, Option.isSome_none, Option.isSome_some, Bool.false_eq_true]
        rw [show gnt L - i - 1 = gnt L - (i + 1) by omega])
    (by
      rintro g ⟨g0, gb, fg⟩
      rw [Nat.sub_self] at g0 gb
      refine ⟨g, ?_, by rw [g0, show B = 0 by omega], fg⟩
      simp (disch := omega) only [↓reduceIte, wlet, Option.bind_some, true_and, and_true, not_true_eq_false, not_false_eq_true, reduceCtorEq, n0_, n1_, n2_, n3_, n4_, n5_, n6_, n7_, n8_, n9_, n10_, n12_, n16_, n18_, n20_, n21_, n22_, n24_, n25_, n26_, n27_, n28_, n29_, n30_, n31_, n32_, n40_, n41_, n42_, n43_, n45_, n48_, n54_, n57_, n58_, n59_, n60_, n61_, n63_, n96_, n97_, n99_, n100_, n122_, n126_, n200_, n255_, n375_, n400_, n1000_, n2000_, n9999_, n5764801_, n1000000_, n3000_, m1, m2, le_t, le_f, lt_t, lt_f, eq_t, eq_f, no_lt, no_le, le_no, lt_no, eq_no, no_eq, add_no, wib_t, clamp, nI_add, pk_mul, pk_sub, nor_, nand_, ndif_, shl_, sh1_, shr_, tbn, tb0, tb1, les_t, les_f, pk_div, rem_, remv, and31, wu1, wuc, wui, wu2, ws1, wsc, ws2, wv1, n11_, n13_, n14_, n15_, n17_, n19_, n23_, n56_, n64_, fX3_find_l13, g0])
    (N := 3000) (by omega) (v := wuI h 130 1 (nI (gnt L))) ⟨by rw [wu1, Nat.sub_zero], by omega, f0⟩
  generalize hfu : grd (tlr L (gnt L)) F B = full
  obtain ⟨g2, e2, m2', f2, p2⟩ := wit_for (b := fun v : (Int32 × Int32 × Int32 × wSt) => fX3_find_l54 v.2.2.2 v.1 v.2.1 v.2.2.1) (fun _ (u : Unit) => u) (gnt L)
    (fun t _ v => ∃ F2 n g, v = (nI F2, nI n, nI t, g) ∧ F2 < 262144 ∧ n ≤ 6 ∧ g.1 130 1 = nI B ∧ fr sLa h g ∧ (∀ j, j < t → g.1 131 j = rI (full.getD j none)) ∧ full.drop t = grd (tlr L (gnt L - t)) F2 n)
    (fun _ g => g.1 130 1 = nI B ∧ fr sLa h g ∧ ∀ j, j < gnt L → g.1 131 j = rI (full.getD j none))
    (by
      rintro t _ v ht ⟨F2, n, g, rfl, hF2, hn, g0, fg, gp, gd⟩
      have hC2 := CL_fr hC fg (fun c _ _ => by unfold sLa; omega)
      have c1 := hC2.2.1
      rw [show gnt L - t = (gnt L - (t + 1)) + 1 by omega, tlr, show gnt L - (gnt L - (t + 1) + 1) = t by omega, grd] at gd
      have step : ∀ (o : Option Nat) (rest : List (Option Nat)), full.drop t = o :: rest → full.getD t none = o ∧ full.drop (t + 1) = rest := by
        intro o rest e
        constructor
        · have := congrArg (fun l => l.head?) e
          simp only [List.head?_drop, List.head?_cons] at this
          rw [List.getD_eq_getElem?_getD, this]
          rfl
        · rw [← List.tail_drop, e]
          rfl
      have pl : ∀ (g3 : wSt) (o : Option Nat), g3.1 131 = g.1 131 → full.getD t none = o → ∀ j, j < t + 1 → (wuI g3 131 t (rI o)).1 131 j = rI (full.getD j none) := by
        intro g3 o e1 e2 j hj
        rw [wuS]
        by_cases e : j = t
        · rw [if_pos e, e, e2]
        · rw [if_neg e, e1]; exact gp j (by omega)
      by_cases h0 : n = 0
      · rw [if_pos h0] at gd
        obtain ⟨s1, s2⟩ := step _ _ gd
        refine ⟨(nI F2, nI n, nI (t + 1), wuI g 131 t wno), ?_, F2, n, _, rfl, hF2, hn, by rw [wuc (by omega)]; exact g0, fr_tr fg (fr_wuI (by unfold sLa; omega)), pl g none rfl s1, s2⟩
        simp (disch := omega) only [↓reduceIte, wlet, Option.bind_some, true_and, and_true, not_true_eq_false, not_false_eq_true, reduceCtorEq, n0_, n1_, n2_, n3_, n4_, n5_, n6_, n7_, n8_, n9_, n10_, n12_, n16_, n18_, n20_, n21_, n22_, n24_, n25_, n26_, n27_, n28_, n29_, n30_, n31_, n32_, n40_, n41_, n42_, n43_, n45_, n48_, n54_, n57_, n58_, n59_, n60_, n61_, n63_, n96_, n97_, n99_, n100_, n122_, n126_, n200_, n255_, n375_, n400_, n1000_, n2000_, n9999_, n5764801_, n1000000_, n3000_, m1, m2, le_t, le_f, lt_t, lt_f, eq_t, eq_f, no_lt, no_le, le_no, lt_no, eq_no, no_eq, add_no, wib_t, clamp, nI_add, pk_mul, pk_sub, nor_, nand_, ndif_, shl_, sh1_, shr_, tbn, tb0, tb1, les_t, les_f, pk_div, rem_, remv, and31, wu1, wuc, wui, wu2, ws1, wsc, ws2, wv1, n11_, n13_, n14_, n15_, n17_, n19_, n23_, n56_, n64_, fX3_find_l54, fX3_find_b90_54, fX3_find_b123_54, c1, h0]
      · rw [if_neg h0] at gd
        obtain ⟨g3, e3, f3, j3⟩ := c_first hW hC2 (r := gnt L - (t + 1)) (H := n - 1) (F := F2) (by omega) (by omega) hF2
        rw [show gnt L - (gnt L - (t + 1) + 1) = t by omega] at e3
        have e131 : g3.1 131 = g.1 131 := fr_at f3 (by unfold sL; omega)
        have hC3 := CL_fr hC2 f3 (fun c _ _ => by unfold sL; omega)
        have fb : ∀ x, gFn (fun p => fit F2 p (gtl L t) && decide (n - 1 ≤ bst (tlr L (gnt L - (t + 1))) (bdf F2 (blk p (gtl L t))))) 18 0 = some x → x < 18 := fun x hx => by have := (gFn_some hx).2.1; omega
        revert e3 gd fb
        generalize gFn (fun p => fit F2 p (gtl L t) && decide (n - 1 ≤ bst (tlr L (gnt L - (t + 1))) (bdf F2 (blk p (gtl L t))))) 18 0 = o
        intro gd e3 fb
        cases o with
        | none =>
          obtain ⟨s1, s2⟩ := step _ _ gd
          refine ⟨(nI F2, nI n, nI (t + 1), wuI g3 131 t wno), ?_, F2, n, _, rfl, hF2, hn, by rw [wuc (by omega), j3]; exact g0, fr_tr fg (fr_tr (fr_mono f3 (fun c => sL_a)) (fr_wuI (by unfold sLa; omega))), pl g3 none e131 s1, s2⟩
          simp (disch := omega) only [↓reduceIte, wlet, Option.bind_some, true_and, and_true, not_true_eq_false, not_false_eq_true, reduceCtorEq, n0_, n1_, n2_, n3_, n4_, n5_, n6_, n7_, n8_, n9_, n10_, n12_, n16_, n18_, n20_, n21_, n22_, n24_, n25_, n26_, n27_, n28_, n29_, n30_, n31_, n32_, n40_, n41_, n42_, n43_, n45_, n48_, n54_, n57_, n58_, n59_, n60_, n61_, n63_, n96_, n97_, n99_, n100_, n122_, n126_, n200_, n255_, n375_, n400_, n1000_, n2000_, n9999_, n5764801_, n1000000_, n3000_, m1, m2, le_t, le_f, lt_t, lt_f, eq_t, eq_f, no_lt, no_le, le_no, lt_no, eq_no, no_eq, add_no, wib_t, clamp, nI_add, pk_mul, pk_sub, nor_, nand_, ndif_, shl_, sh1_, shr_, tbn, tb0, tb1, les_t, les_f, pk_div, rem_, remv, and31, wu1, wuc, wui, wu2, ws1, wsc, ws2, wv1, n11_, n13_, n14_, n15_, n17_, n19_, n23_, n56_, n64_, fX3_find_l54, fX3_find_b90_54, fX3_find_b123_54, c1, e3, rI]
        | some x =>
          have hx := fb x rfl
          obtain ⟨s1, s2⟩ := step _ _ gd
          have f4 : fr sLa g3 (wuI g3 131 t (nI x)) := fr_wuI (by unfold sLa; omega)
          have e4 := c_linesOf hW (CL_fr hC3 f4 (fun c _ _ => by unfold sLa; omega)) ht hx
          have p6 : bdf F2 (blk x (gtl L t)) < 2 ^ 18 := bdf_lt (by omega)
          refine ⟨(nI (bdf F2 (blk x (gtl L t))), nI (n - 1), nI (t + 1), wuI g3 131 t (nI x)), ?_, _, n - 1, _, rfl, p6, by omega, by rw [wuc (by omega), j3]; exact g0, fr_tr fg (fr_tr (fr_mono f3 (fun c => sL_a)) f4), pl g3 (some x) e131 s1, s2⟩
          simp (disch := omega) only [↓reduceIte, wlet, Option.bind_some, true_and, and_true, not_true_eq_false, not_false_eq_true, reduceCtorEq, n0_, n1_, n2_, n3_, n4_, n5_, n6_, n7_, n8_, n9_, n10_, n12_, n16_, n18_, n20_, n21_, n22_, n24_, n25_, n26_, n27_, n28_, n29_, n30_, n31_, n32_, n40_, n41_, n42_, n43_, n45_, n48_, n54_, n57_, n58_, n59_, n60_, n61_, n63_, n96_, n97_, n99_, n100_, n122_, n126_, n200_, n255_, n375_, n400_, n1000_, n2000_, n9999_, n5764801_, n1000000_, n3000_, m1, m2, le_t, le_f, lt_t, lt_f, eq_t, eq_f, no_lt, no_le, le_no, lt_no, eq_no, no_eq, add_no, wib_t, clamp, nI_add, pk_mul, pk_sub, nor_, nand_, ndif_, shl_, sh1_, shr_, tbn, tb0, tb1, les_t, les_f, pk_div, rem_, remv, and31, wu1, wuc, wui, wu2, ws1, wsc, ws2, wv1, n11_, n13_, n14_, n15_, n17_, n19_, n23_, n56_, n64_, fX3_find_l54, fX3_find_b90_54, fX3_find_b123_54, c1, e3, e4, rI])
    (by
      rintro _ v ⟨F2, n, g, rfl, hF2, hn, g0, fg, gp, gd⟩
      have c1 := (CL_fr hC fg (fun c _ _ => by unfold sLa; omega)).2.1
      refine ⟨g, ?_, g0, fg, gp⟩
      simp (disch := omega) only [↓reduceIte, wlet, Option.bind_some, true_and, and_true, not_true_eq_false, not_false_eq_true, reduceCtorEq, n0_, n1_, n2_, n3_, n4_, n5_, n6_, n7_, n8_, n9_, n10_, n12_, n16_, n18_, n20_, n21_, n22_, n24_, n25_, n26_, n27_, n28_, n29_, n30_, n31_, n32_, n40_, n41_, n42_, n43_, n45_, n48_, n54_, n57_, n58_, n59_, n60_, n61_, n63_, n96_, n97_, n99_, n100_, n122_, n126_, n200_, n255_, n375_, n400_, n1000_, n2000_, n9999_, n5764801_, n1000000_, n3000_, m1, m2, le_t, le_f, lt_t, lt_f, eq_t, eq_f, no_lt, no_le, le_no, lt_no, eq_no, no_eq, add_no, wib_t, clamp, nI_add, pk_mul, pk_sub, nor_, nand_, ndif_, shl_, sh1_, shr_, tbn, tb0, tb1, les_t, les_f, pk_div, rem_, remv, and31, wu1, wuc, wui, wu2, ws1, wsc, ws2, wv1, n11_, n13_, n14_, n15_, n17_, n19_, n23_, n56_, n64_, fX3_find_l54, c1])
    (N := 3000) (by omega) (a0 := ()) (v0 := (nI F, nI B, nI 0, g1)) ⟨F, B, g1, rfl, hF, by omega, m1', f1, fun j hj => absurd hj (Nat.not_lt_zero _), by rw [List.drop_zero, Nat.sub_zero]; exact hfu.symm⟩
  refine ⟨g2, ?_, f2, m2', p2⟩
  simp (disch := omega) only [↓reduceIte, wlet, Option.bind_some, true_and, and_true, not_true_eq_false, not_false_eq_true, reduceCtorEq, n0_, n1_, n2_, n3_, n4_, n5_, n6_, n7_, n8_, n9_, n10_, n12_, n16_, n18_, n20_, n21_, n22_, n24_, n25_, n26_, n27_, n28_, n29_, n30_, n31_, n32_, n40_, n41_, n42_, n43_, n45_, n48_, n54_, n57_, n58_, n59_, n60_, n61_, n63_, n96_, n97_, n99_, n100_, n122_, n126_, n200_, n255_, n375_, n400_, n1000_, n2000_, n9999_, n5764801_, n1000000_, n3000_, m1, m2, le_t, le_f, lt_t, lt_f, eq_t, eq_f, no_lt, no_le, le_no, lt_no, eq_no, no_eq, add_no, wib_t, clamp, nI_add, pk_mul, pk_sub, nor_, nand_, ndif_, shl_, sh1_, shr_, tbn, tb0, tb1, les_t, les_f, pk_div, rem_, remv, and31, wu1, wuc, wui, wu2, ws1, wsc, ws2, wv1, n11_, n13_, n14_, n15_, n17_, n19_, n23_, n56_, n64_, fX3_find, c0, e1, m1', e2]
end G53

/-! A HOLE'S LINE, the other side -/
section G75
variable {h : wSt} {T : gTp} {b : Nat} {D : gLib}
theorem DM_ho {g : wSt} (hD : DM h D) {i x : Nat} (g20 : ∀ j, g.1 195 j = if j = 3 + i then nI x else h.1 195 j) (go : ∀ c, 190 ≤ c → c ≤ 199 → c ≠ 195 → g.1 c = h.1 c ∧ g.2 c = h.2 c) : DM g (dHo D i x) := by
  obtain ⟨d1, d2, d3, d4, d5, d6⟩ := hD
  have o := fun c h1 h2 h3 => (go c h1 h2 h3).1
  refine ⟨by rw [o 190 (by omega) (by omega) (by omega)]; exact d1, by rw [o 190 (by omega) (by omega) (by omega)]; exact d2, by rw [o 190 (by omega) (by omega) (by omega)]; exact d3, fun j hj => ?_, fun t ht => ?_, fun j hj => ?_⟩
  · have := d4 j hj
    rw [o 193 (by omega) (by omega) (by omega), o 194 (by omega) (by omega) (by omega), g20, (go 191 (by omega) (by omega) (by omega)).2]
    by_cases e : j = i
    · rw [if_pos (by omega)]
      unfold gln gtk gho gnm dHo
      simp only [e, if_true, and_self, if_false, false_and, Nat.reduceEqDiff]
      rw [e] at this
      exact ⟨this.1, this.2.1, trivial, this.2.2.2⟩
    · rw [if_neg (by omega)]
      unfold gln gtk gho gnm dHo
      simp only [e, and_false, if_false, Nat.reduceEqDiff]
      exact this
  · have := d5 t ht
    rw [o 196 (by omega) (by omega) (by omega), o 197 (by omega) (by omega) (by omega), o 198 (by omega) (by omega) (by omega), (go 192 (by omega) (by omega) (by omega)).2]
    exact this
  · have := d6 j hj
    rw [o 199 (by omega) (by omega) (by omega)]
    exact this
theorem r_readsHole (hW : WL D) (hD : DM h D) (hs : SM h T b) : ∃ r g, fX11_readsHole h = some (r, g) ∧ OK g T (gHo D T (b, 0)).1 r ∧ RTd h g ∧ (r = true → DM g (gHo D T (b, 0)).2) := by
  obtain ⟨g1, e1, s1', j1⟩ := r_next hs
  have k1 := RK_J j1
  have en : nx T (b, 0) = (gTe T b, 0) := by unfold nx; rfl
  have D1 := DM_fr hD k1.1 (fun c _ _ => by unfold s188; omega)
  obtain ⟨r2, g2, e2, o2, v2, k2⟩ := r_needsSkin s1' (nm := gnm D 0) (n := gns D) (r := 1) (by omega) D1.1 (fun i hi => ⟨(hW.2.2.2.1 i hi).2.2.2.2.2, (D1.2.2.2.1 i hi).2.2.2⟩) hW.1
  have eH1 : gTo T (gnm D 0) (gns D) (gTe T b, 0) = gH1 D T (b, 0) := by unfold gH1; rw [en]
  rw [eH1] at o2
  have D2 := DM_fr D1 k2.1 (fun c _ _ => by unfold s188; omega)
  have k12 := RK_tr k1 k2
  by_cases q1 : (gH1 D T (b, 0)).2 = 0
  · obtain ⟨hr2, s2⟩ := o2.1 q1
    subst hr2
    obtain ⟨-, i, hi, hi2⟩ := gTo_2 (show (gTo T (gnm D 0) (gns D) (nx T (b, 0))).2 = 0 from q1)
    have ei : gHi D T (b, 0) = i := by unfold gHi; rw [hi]; rfl
    rw [en] at hi
    have v2 : g2.1 188 36 = nI i := by rw [v2 rfl, show gNf (gnm D 0) (gns D) (gTw T (gTe T b)) = some i from hi]; rfl
    have t6 : g2.1 188 6 = nI (gTk T (gH1 D T (b, 0)).1) := s2.2.2.2.1
    have eH2 : gH2 D T (b, 0) = gNw T 0 (gln D i - 1) (gH1 D T (b, 0)) := by unfold gH2; rw [ei]
    obtain ⟨w1, w2, w3, w4, w5, w6⟩ := hW.2.2.2.1 i hi2
    obtain ⟨x1, x2, x3, x4⟩ := D2.2.2.2.1 i hi2
    have n3 := hW.1
    have hk4 := gTk_0 s2.2.2.1
    have hho : gho D i < 64 := Nat.lt_of_lt_of_le w5 (Nat.pow_le_pow_right (by omega) w2)
    by_cases hk : gTk T (gH1 D T (b, 0)).1 = 2
    · have t8 := s2.2.2.2.2.2.2.1 hk
      obtain ⟨-, -, hn⟩ := gTk_2 s2.2.2.1 hk
      by_cases hl : gTn T (gH1 D T (b, 0)).1 < gln D i
      · have q2 : (gH2 D T (b, 0)).2 = 0 := by
          rw [eH2]; unfold gNw; rw [if_pos hk, if_pos ⟨Nat.zero_le _, by omega⟩]; exact q1
        cases ht : (gho D (gHi D T (b, 0))).testBit (gTn T (gH1 D T (b, 0)).1) with
        | true =>
          rw [gHo_3 q2 ht]; dsimp only
          rw [ei] at ht
          obtain ⟨g4, e4, g9, k4⟩ := r_fails s2 3
          rw [← eta0 q1] at g9
          refine ⟨false, g4, ?_, ⟨fun q => absurd q (fl_ne (by omega)), fun _ => ⟨rfl, g9⟩⟩, RTd_K (RK_tr k12 k4), (by intro q; cases q)⟩
          simp (disch := omega) only [↓reduceIte, wlet, Option.bind_some, true_and, and_true, not_true_eq_false, not_false_eq_true, reduceCtorEq, n0_, n1_, n2_, n3_, n4_, n5_, n6_, n7_, n8_, n9_, n10_, n12_, n16_, n18_, n20_, n21_, n22_, n24_, n25_, n26_, n27_, n28_, n29_, n30_, n31_, n32_, n40_, n41_, n42_, n43_, n45_, n48_, n54_, n57_, n58_, n59_, n60_, n61_, n63_, n96_, n97_, n99_, n100_, n122_, n126_, n200_, n255_, n375_, n400_, n1000_, n2000_, n9999_, n5764801_, n1000000_, n3000_, m1, m2, le_t, le_f, lt_t, lt_f, eq_t, eq_f, no_lt, no_le, le_no, lt_no, eq_no, no_eq, add_no, wib_t, clamp, nI_add, pk_mul, pk_sub, nor_, nand_, ndif_, shl_, sh1_, shr_, tbn, tb0, tb1, les_t, les_f, pk_div, rem_, remv, and31, wu1, wuc, wui, wu2, ws1, wsc, ws2, wv1, n11_, n13_, n14_, n15_, n17_, n19_, n23_, n56_, n64_, fX11_readsHole, e1, e2, v2, t6, hk, t8, x1, x3, ht, e4]
        | false =>
          rw [gHo_4 q2 ht, ei]; dsimp only
          rw [ei] at ht
          have f4 : fr (fun c => c = 195) g2 (wuI g2 195 (3 + i) (nI (gho D i ||| 2 ^ gTn T (gH1 D T (b, 0)).1))) := fr_wuI rfl
          obtain ⟨g5, e5, s5, j5⟩ := r_next (SM_fr s2 f4 (by omega) (by omega))
          obtain ⟨r6, g6, e6, o6, k6⟩ := r_closes s5
          rw [← nx_0 q1] at o6
          refine ⟨r6, g6, ?_, o6, RTd_tr (RTd_K k12) (RTd_tr (RTd_I (c := 195) (i := 3 + i) (by omega) (by omega) (by unfold dlo; rw [if_pos (by omega)]; omega)) (RTd_K (RK_tr (RK_J j5) k6))), fun _ => ?_⟩
          · simp (disch := omega) only [↓reduceIte, wlet, Option.bind_some, true_and, and_true, not_true_eq_false, not_false_eq_true, reduceCtorEq, n0_, n1_, n2_, n3_, n4_, n5_, n6_, n7_, n8_, n9_, n10_, n12_, n16_, n18_, n20_, n21_, n22_, n24_, n25_, n26_, n27_, n28_, n29_, n30_, n31_, n32_, n40_, n41_, n42_, n43_, n45_, n48_, n54_, n57_, n58_, n59_, n60_, n61_, n63_, n96_, n97_, n99_, n100_, n122_, n126_, n200_, n255_, n375_, n400_, n1000_, n2000_, n9999_, n5764801_, n1000000_, n3000_, m1, m2, le_t, le_f, lt_t, lt_f, eq_t, eq_f, no_lt, no_le, le_no, lt_no, eq_no, no_eq, add_no, wib_t, clamp, nI_add, pk_mul, pk_sub, nor_, nand_, ndif_, shl_, sh1_, shr_, tbn, tb0, tb1, les_t, les_f, pk_div, rem_, remv, and31, wu1, wuc, wui, wu2, ws1, wsc, ws2, wv1, n11_, n13_, n14_, n15_, n17_, n19_, n23_, n56_, n64_, fX11_readsHole, e1, e2, v2, t6, hk, t8, x1, x3, ht, e5, e6, Option.isSome_none, Option.isSome_some, Bool.false_eq_true]
          · have k56 := RK_tr (RK_J j5) k6
            refine DM_ho D2 (fun j => ?_) (fun c h1 h2 h3 => ⟨?_, ?_⟩)
            · rw [fr_at k56.1 (by unfold s188; omega), wuS]
            · rw [fr_at k56.1 (by unfold s188; omega), wuc h3]
            · rw [(k56.1 c (by unfold s188; omega)).2]; rfl
      · have eN' : gH2 D T (b, 0) = fl T 4 (gH1 D T (b, 0)) := by
          rw [eH2]; unfold gNw; rw [if_pos hk, if_neg (by omega)]
        have q2 : (gH2 D T (b, 0)).2 ≠ 0 := by rw [eN']; exact fl_ne (by omega)
        rw [gHo_2 q2, eN']; dsimp only
        obtain ⟨g4, e4, g9, k4⟩ := r_fails s2 4
        rw [← eta0 q1] at g9
        refine ⟨false, g4, ?_, ⟨fun q => absurd q (fl_ne (by omega)), fun _ => ⟨rfl, g9⟩⟩, RTd_K (RK_tr k12 k4), (by intro q; cases q)⟩
        simp (disch := omega) only [↓reduceIte, wlet, Option.bind_some, true_and, and_true, not_true_eq_false, not_false_eq_true, reduceCtorEq, n0_, n1_, n2_, n3_, n4_, n5_, n6_, n7_, n8_, n9_, n10_, n12_, n16_, n18_, n20_, n21_, n22_, n24_, n25_, n26_, n27_, n28_, n29_, n30_, n31_, n32_, n40_, n41_, n42_, n43_, n45_, n48_, n54_, n57_, n58_, n59_, n60_, n61_, n63_, n96_, n97_, n99_, n100_, n122_, n126_, n200_, n255_, n375_, n400_, n1000_, n2000_, n9999_, n5764801_, n1000000_, n3000_, m1, m2, le_t, le_f, lt_t, lt_f, eq_t, eq_f, no_lt, no_le, le_no, lt_no, eq_no, no_eq, add_no, wib_t, clamp, nI_add, pk_mul, pk_sub, nor_, nand_, ndif_, shl_, sh1_, shr_, tbn, tb0, tb1, les_t, les_f, pk_div, rem_, remv, and31, wu1, wuc, wui, wu2, ws1, wsc, ws2, wv1, n11_, n13_, n14_, n15_, n17_, n19_, n23_, n56_, n64_, fX11_readsHole, e1, e2, v2, t6, hk, t8, x1, e4]
    · have eN' : gH2 D T (b, 0) = fl T 1 (gH1 D T (b, 0)) := by
        rw [eH2]; unfold gNw; rw [if_neg hk]
      have q2 : (gH2 D T (b, 0)).2 ≠ 0 := by rw [eN']; exact fl_ne (by omega)
      rw [gHo_2 q2, eN']; dsimp only
      obtain ⟨g4, e4, g9, k4⟩ := r_fails s2 1
      rw [← eta0 q1] at g9
      refine ⟨false, g4, ?_, ⟨fun q => absurd q (fl_ne (by omega)), fun _ => ⟨rfl, g9⟩⟩, RTd_K (RK_tr k12 k4), (by intro q; cases q)⟩
      simp (disch := omega) only [↓reduceIte, wlet, Option.bind_some, true_and, and_true, not_true_eq_false, not_false_eq_true, reduceCtorEq, n0_, n1_, n2_, n3_, n4_, n5_, n6_, n7_, n8_, n9_, n10_, n12_, n16_, n18_, n20_, n21_, n22_, n24_, n25_, n26_, n27_, n28_, n29_, n30_, n31_, n32_, n40_, n41_, n42_, n43_, n45_, n48_, n54_, n57_, n58_, n59_, n60_, n61_, n63_, n96_, n97_, n99_, n100_, n122_, n126_, n200_, n255_, n375_, n400_, n1000_, n2000_, n9999_, n5764801_, n1000000_, n3000_, m1, m2, le_t, le_f, lt_t, lt_f, eq_t, eq_f, no_lt, no_le, le_no, lt_no, eq_no, no_eq, add_no, wib_t, clamp, nI_add, pk_mul, pk_sub, nor_, nand_, ndif_, shl_, sh1_, shr_, tbn, tb0, tb1, les_t, les_f, pk_div, rem_, remv, and31, wu1, wuc, wui, wu2, ws1, wsc, ws2, wv1, n11_, n13_, n14_, n15_, n17_, n19_, n23_, n56_, n64_, fX11_readsHole, e1, e2, t6, e4]
  · obtain ⟨hr2, s9⟩ := o2.2 q1
    subst hr2
    have eH2 : gH2 D T (b, 0) = gH1 D T (b, 0) := gNw_f q1
    rw [gHo_2 (by rw [eH2]; exact q1), eH2]; dsimp only
    refine ⟨false, g2, ?_, o2, RTd_K k12, (by intro q; cases q)⟩
    simp (disch := omega) only [↓reduceIte, wlet, Option.bind_some, true_and, and_true, not_true_eq_false, not_false_eq_true, reduceCtorEq, n0_, n1_, n2_, n3_, n4_, n5_, n6_, n7_, n8_, n9_, n10_, n12_, n16_, n18_, n20_, n21_, n22_, n24_, n25_, n26_, n27_, n28_, n29_, n30_, n31_, n32_, n40_, n41_, n42_, n43_, n45_, n48_, n54_, n57_, n58_, n59_, n60_, n61_, n63_, n96_, n97_, n99_, n100_, n122_, n126_, n200_, n255_, n375_, n400_, n1000_, n2000_, n9999_, n5764801_, n1000000_, n3000_, m1, m2, le_t, le_f, lt_t, lt_f, eq_t, eq_f, no_lt, no_le, le_no, lt_no, eq_no, no_eq, add_no, wib_t, clamp, nI_add, pk_mul, pk_sub, nor_, nand_, ndif_, shl_, sh1_, shr_, tbn, tb0, tb1, les_t, les_f, pk_div, rem_, remv, and31, wu1, wuc, wui, wu2, ws1, wsc, ws2, wv1, n11_, n13_, n14_, n15_, n17_, n19_, n23_, n56_, n64_, fX11_readsHole, e1, e2, Option.isSome_none, Option.isSome_some, Bool.false_eq_true]
theorem gHo_W (hW : WL D) (q : (gHo D T (b, 0)).1.2 = 0) : WL (gHo D T (b, 0)).2 := by
  by_cases q2 : (gH2 D T (b, 0)).2 = 0
  · cases ht : (gho D (gHi D T (b, 0))).testBit (gTn T (gH1 D T (b, 0)).1) with
    | true =>
      rw [gHo_3 q2 ht] at q
      exact absurd q (fl_ne (by omega))
    | false =>
      rw [gHo_4 q2 ht]; dsimp only
      have q2' := q2
      unfold gH2 at q2'
      obtain ⟨q1, hk, -, hu, -⟩ := gNw_2 q2'
      obtain ⟨-, i, hi, hi2⟩ := gTo_2 (show (gTo T (gnm D 0) (gns D) (nx T (b, 0))).2 = 0 from q1)
      have ei : gHi D T (b, 0) = i := by unfold gHi; rw [hi]; rfl
      have w1 := (hW.2.2.2.1 i hi2).1
      rw [ei] at hu ⊢
      exact WL_ho hW hi2 (by omega)
  · rw [gHo_2 q2] at q
    exact absurd q q2
end G75

/-! THE LAW'S TEXT, the other side: parts, levels -/
section G81
variable {h g : wSt} {T : gTp} {b c d : Nat} {o : Nat → Nat}
theorem gd_c {x : Int32} {l : List Int32} {i : Nat} : (x :: l).getD (i + 1) 0 = l.getD i 0 := rfl
theorem gd_0 {x : Int32} {l : List Int32} : (x :: l).getD 0 0 = x := rfl
theorem OS_n {l : Nat} {dn : Nat} {X : gPc} (f : X.1.2 ≠ 0) (q : ∃ n g, b + n ≤ T.1 + 1 ∧ (∀ N, wit grB (N + n) (nI d, nI 1, h) = some (false, g)) ∧ g.1 188 9 = nI X.1.2 ∧ RQ c d h g) : OS l T h d c dn b X := ⟨fun z => absurd z f, fun _ => q⟩
theorem OS_y {l : Nat} {dn : Nat} {X : gPc} (f : X.1.2 = 0) (q : ∃ n g, b + n ≤ X.1.1 ∧ (∀ N, wit grB (N + n) (nI d, nI 1, h) = wit grB N (nI dn, nI 0, g)) ∧ SM g T X.1.1 ∧ g.1 188 23 = nI (c + X.2.2.1.length) ∧ (∀ i, i < X.2.2.1.length → g.1 202 (c + i) = X.2.2.1.getD i 0) ∧ RQ c d h g ∧ gEq l T h g d X.1.1) : OS l T h d c dn b X := ⟨fun _ => q, fun z => absurd f z⟩
theorem r_not {x : gPc} (a : MR h T b c d o) (hd : d ≤ 4) (hq : gStt T b = true) (hn : gIs T b 18 = true) (hx : ∀ g o', MR g T (gTe T b) (c + 1) (d + 1) o' → OS 4 T g (d + 1) (c + 1) (uw o' (d + 1)) (gTe T b) x) : OS 4 T h d c (uw o d) b (gPn x) := by
  obtain ⟨g1, g3, e1, e3, a3, r3, q1, q2, q3⟩ := r_open a hd (gSt_k hq) (nI 30) (w := 1) (by omega)
  obtain ⟨t1, t2⟩ := gTe_s a.1.2.2.1 (gSt_k hq)
  have st : grB (nI d, nI 1, h) = some (.inl (nI (d + 1), nI 1, g3)) := by
    show fX11_reads_l11 h (nI d) (nI 1) = _
    rw [r_b65 a.1 hq, hn]
    have b1 : wb true = nI 1 := rfl
    simp (disch := omega) only [↓reduceIte, wlet, Option.bind_some, true_and, and_true, not_true_eq_false, not_false_eq_true, reduceCtorEq, n0_, n1_, n2_, n3_, n4_, n5_, n6_, n7_, n8_, n9_, n10_, n12_, n16_, n18_, n20_, n21_, n22_, n24_, n25_, n26_, n27_, n28_, n29_, n30_, n31_, n32_, n40_, n41_, n42_, n43_, n45_, n48_, n54_, n57_, n58_, n59_, n60_, n61_, n63_, n96_, n97_, n99_, n100_, n122_, n126_, n200_, n255_, n375_, n400_, n1000_, n2000_, n9999_, n5764801_, n1000000_, n3000_, m1, m2, le_t, le_f, lt_t, lt_f, eq_t, eq_f, no_lt, no_le, le_no, lt_no, eq_no, no_eq, add_no, wib_t, clamp, nI_add, pk_mul, pk_sub, nor_, nand_, ndif_, shl_, sh1_, shr_, tbn, tb0, tb1, les_t, les_f, pk_div, rem_, remv, and31, wu1, wuc, wui, wu2, ws1, wsc, ws2, wv1, n11_, n13_, n14_, n15_, n17_, n19_, n23_, n56_, n64_, fX11_reads_b65_11, fX11_reads_b86_11, fX11_reads_b99_11, fX11_reads_b120_11, fX11_reads_b172_11, b1, e1, nar_0, e3]
  have ou := hx g3 _ a3
  have eu : uw (fun i => if i = d + 1 then 1 else o i) (d + 1) = uw o d := by
    rw [uw, if_pos (if_pos rfl)]
    exact uw_cong (fun i h1 h2 => if_neg (by omega))
  rw [eu] at ou
  by_cases q : x.1.2 = 0
  · obtain ⟨n, f, n1, n2, n3, n4, n5, n6, n7⟩ := ou.1 q
    refine OS_y q ⟨n + 1, f, ?_, fun N => ?_, n3, ?_, fun i hi => ?_, RQ_tr (by omega) (by omega) r3 n6, fun z => by omega, fun z => by omega, fun z => by omega, fun z => by omega, fun _ => ?_⟩
    · show b + (n + 1) ≤ x.1.1
      omega
    · rw [← Nat.add_assoc, rB_1 st, n2]
    · rw [n4]
      show nI (c + 1 + x.2.2.1.length) = nI (c + (nI 30 :: x.2.2.1).length)
      rw [List.length_cons]
      congr 1
      omega
    · show f.1 202 (c + i) = (nI 30 :: x.2.2.1).getD i 0
      have hi : i < (nI 30 :: x.2.2.1).length := hi
      rw [List.length_cons] at hi
      cases i with
      | zero => rw [Nat.add_zero, n6.2.2.1 c (by omega), q3]; rfl
      | succ i => rw [gd_c, ← n5 i (by omega), show c + (i + 1) = c + 1 + i by omega]
    · rw [n6.2.2.2.2 d (by omega), q2]
  · obtain ⟨n, f, n1, n2, n3, n4⟩ := ou.2 q
    exact OS_n q ⟨n + 1, f, by omega, fun N => by rw [← Nat.add_assoc, rB_1 st, n2], n3, RQ_tr (by omega) (by omega) r3 n4⟩
theorem r_stop (hs : SM g T b) (hd : d ≤ 5) (q3 : gJo T 3 b = 0) (q2 : gJo T 2 b = 0) (q1 : gJo T 1 b ≠ 0 → g.1 204 d = nI 1) (q0 : gJo T 0 b = 0) (hn : gIg T b 41 = false ∨ d = 0) (hz : gIg T b 59 = false ∨ d ≠ 0) : ∃ f, grB (nI d, nI 0, g) = some (.inr (false, f)) ∧ f.1 188 9 = nI (fl T 1 (b, 0)).2 ∧ RK g f := by
  obtain ⟨f, e1, g9, k1⟩ := r_fails hs 1
  refine ⟨f, ?_, g9, k1⟩
  show fX11_reads_l11 g (nI d) (nI 0) = _
  rw [r_304 hs hd q3 q2 q1]
  have e19 := r_w19 hs
  have e20 := r_w20 hs
  have e41 := r_isSign hs (s := 41) (by omega)
  have e59 := r_isSign hs (s := 59) (by omega)
  rw [(gJ_0 q0).1] at e19
  rw [(gJ_0 q0).2] at e20
  by_cases h0 : d = 0
  · subst h0
    have z : gIg T b 59 = false := by
      rcases hz with z | z
      · exact z
      · exact absurd rfl z
    rw [z] at e59
    cases z4 : gIg T b 41 with
    | true =>
      rw [z4] at e41
      simp (disch := omega) only [↓reduceIte, wlet, Option.bind_some, true_and, and_true, not_true_eq_false, not_false_eq_true, reduceCtorEq, n0_, n1_, n2_, n3_, n4_, n5_, n6_, n7_, n8_, n9_, n10_, n12_, n16_, n18_, n20_, n21_, n22_, n24_, n25_, n26_, n27_, n28_, n29_, n30_, n31_, n32_, n40_, n41_, n42_, n43_, n45_, n48_, n54_, n57_, n58_, n59_, n60_, n61_, n63_, n96_, n97_, n99_, n100_, n122_, n126_, n200_, n255_, n375_, n400_, n1000_, n2000_, n9999_, n5764801_, n1000000_, n3000_, m1, m2, le_t, le_f, lt_t, lt_f, eq_t, eq_f, no_lt, no_le, le_no, lt_no, eq_no, no_eq, add_no, wib_t, clamp, nI_add, pk_mul, pk_sub, nor_, nand_, ndif_, shl_, sh1_, shr_, tbn, tb0, tb1, les_t, les_f, pk_div, rem_, remv, and31, wu1, wuc, wui, wu2, ws1, wsc, ws2, wv1, n11_, n13_, n14_, n15_, n17_, n19_, n23_, n56_, n64_, fX11_reads_b304_11, fX11_reads_b399_11, fX11_reads_b418_11, e19, e20, e41, e59, e1, Option.isSome_none, Option.isSome_some, Bool.false_eq_true]
    | false =>
      rw [z4] at e41
      simp (disch := omega) only [↓reduceIte, wlet, Option.bind_some, true_and, and_true, not_true_eq_false, not_false_eq_true, reduceCtorEq, n0_, n1_, n2_, n3_, n4_, n5_, n6_, n7_, n8_, n9_, n10_, n12_, n16_, n18_, n20_, n21_, n22_, n24_, n25_, n26_, n27_, n28_, n29_, n30_, n31_, n32_, n40_, n41_, n42_, n43_, n45_, n48_, n54_, n57_, n58_, n59_, n60_, n61_, n63_, n96_, n97_, n99_, n100_, n122_, n126_, n200_, n255_, n375_, n400_, n1000_, n2000_, n9999_, n5764801_, n1000000_, n3000_, m1, m2, le_t, le_f, lt_t, lt_f, eq_t, eq_f, no_lt, no_le, le_no, lt_no, eq_no, no_eq, add_no, wib_t, clamp, nI_add, pk_mul, pk_sub, nor_, nand_, ndif_, shl_, sh1_, shr_, tbn, tb0, tb1, les_t, les_f, pk_div, rem_, remv, and31, wu1, wuc, wui, wu2, ws1, wsc, ws2, wv1, n11_, n13_, n14_, n15_, n17_, n19_, n23_, n56_, n64_, fX11_reads_b304_11, fX11_reads_b399_11, fX11_reads_b418_11, e19, e20, e41, e59, e1, Option.isSome_none, Option.isSome_some, Bool.false_eq_true]
  · have z : gIg T b 41 = false := by
      rcases hn with z | z
      · exact z
      · exact absurd z h0
    rw [z] at e41
    simp (disch := omega) only [↓reduceIte, wlet, Option.bind_some, true_and, and_true, not_true_eq_false, not_false_eq_true, reduceCtorEq, n0_, n1_, n2_, n3_, n4_, n5_, n6_, n7_, n8_, n9_, n10_, n12_, n16_, n18_, n20_, n21_, n22_, n24_, n25_, n26_, n27_, n28_, n29_, n30_, n31_, n32_, n40_, n41_, n42_, n43_, n45_, n48_, n54_, n57_, n58_, n59_, n60_, n61_, n63_, n96_, n97_, n99_, n100_, n122_, n126_, n200_, n255_, n375_, n400_, n1000_, n2000_, n9999_, n5764801_, n1000000_, n3000_, m1, m2, le_t, le_f, lt_t, lt_f, eq_t, eq_f, no_lt, no_le, le_no, lt_no, eq_no, no_eq, add_no, wib_t, clamp, nI_add, pk_mul, pk_sub, nor_, nand_, ndif_, shl_, sh1_, shr_, tbn, tb0, tb1, les_t, les_f, pk_div, rem_, remv, and31, wu1, wuc, wui, wu2, ws1, wsc, ws2, wv1, n11_, n13_, n14_, n15_, n17_, n19_, n23_, n56_, n64_, fX11_reads_b304_11, fX11_reads_b399_11, fX11_reads_b418_11, e19, e20, e41, e1, Option.isSome_none, Option.isSome_some, Bool.false_eq_true]
theorem r_par {x : gPc} (a : MR h T b c d o) (hd : d ≤ 4) (hq : gStt T b = true) (hn : gIs T b 18 = false) (ho : gIg T b 40 = true) (hxl : gLg (gTe T b, 0) T x) (hx : ∀ g o', o' (d + 1) = 2 → g.1 204 (d + 1) = nI 0 → MR g T (gTe T b) (c + 1) (d + 1) o' → OS 0 T g (d + 1) (c + 1) (d + 1) (gTe T b) x) : OS 4 T h d c (uw o d) b (gPo T x) := by
  obtain ⟨g1, g3, e1, e3, a3, r3, q1, q2, q3⟩ := r_open a hd (gSt_k hq) (nI 28) (w := 2) (by omega)
  obtain ⟨t1, t2⟩ := gTe_s a.1.2.2.1 (gSt_k hq)
  have w0 := a.1.2.1.1
  have c2 := a.2.2.2.1
  have st : grB (nI d, nI 1, h) = some (.inl (nI (d + 1), nI 1, g3)) := by
    show fX11_reads_l11 h (nI d) (nI 1) = _
    rw [r_b65 a.1 hq, hn, ho]
    have b1 : wb true = nI 1 := rfl
    have b0 : wb false = nI 0 := rfl
    simp (disch := omega) only [↓reduceIte, wlet, Option.bind_some, true_and, and_true, not_true_eq_false, not_false_eq_true, reduceCtorEq, n0_, n1_, n2_, n3_, n4_, n5_, n6_, n7_, n8_, n9_, n10_, n12_, n16_, n18_, n20_, n21_, n22_, n24_, n25_, n26_, n27_, n28_, n29_, n30_, n31_, n32_, n40_, n41_, n42_, n43_, n45_, n48_, n54_, n57_, n58_, n59_, n60_, n61_, n63_, n96_, n97_, n99_, n100_, n122_, n126_, n200_, n255_, n375_, n400_, n1000_, n2000_, n9999_, n5764801_, n1000000_, n3000_, m1, m2, le_t, le_f, lt_t, lt_f, eq_t, eq_f, no_lt, no_le, le_no, lt_no, eq_no, no_eq, add_no, wib_t, clamp, nI_add, pk_mul, pk_sub, nor_, nand_, ndif_, shl_, sh1_, shr_, tbn, tb0, tb1, les_t, les_f, pk_div, rem_, remv, and31, wu1, wuc, wui, wu2, ws1, wsc, ws2, wv1, n11_, n13_, n14_, n15_, n17_, n19_, n23_, n56_, n64_, fX11_reads_b65_11, fX11_reads_b86_11, fX11_reads_b99_11, fX11_reads_b120_11, fX11_reads_b172_11, b1, b0, e1, nar_0, e3]
  have ou := hx g3 (fun i => if i = d + 1 then 2 else o i) (if_pos rfl) q1 a3
  by_cases q : x.1.2 = 0
  · obtain ⟨n, f, n1, n2, n3, n4, n5, n6, p3, p2, p1, p0, -⟩ := ou.1 q
    obtain ⟨l1, l2⟩ := hxl.2 q
    have l2 : gTe T b + x.2.2.1.length ≤ x.1.1 := l2
    cases z : gIg T x.1.1 41 with
    | true =>
      have hk : gTk T x.1.1 ≠ 0 := by rw [(gIg_3 z).1]; omega
      obtain ⟨u1, u2⟩ := gTe_s n3.2.2.1 hk
      obtain ⟨f1, y1, y2, y3, y4, y5, y6, y7⟩ := r_puts (T := T) (b := x.1.1) n4 (by omega) (nI 29)
      obtain ⟨f2, y8, y9, j2⟩ := r_next (y7 n3)
      have k2 := RK_J j2
      have pw := r_uw (h := f1) (o := o) (x := nI 0) d 3000 (by omega) (by omega) (fun i h1 h2 => by
        rw [y5, n6.2.2.2.1 i (by omega), r3.2.2.2.1 i (by omega)]
        exact a.2.2.2.2 i h1 h2)
      have pw : wit (fun v : Int32 => fX11_reads_l379 f1 (nI 0) v) 3000 (nI d) = some (nI (uw o d)) := pw
      have st2 : grB (nI (d + 1), nI 0, f) = some (.inl (nI (uw o d), nI 0, f2)) := by
        show fX11_reads_l11 f (nI (d + 1)) (nI 0) = _
        rw [r_304 n3 (by omega) (p3 (by omega)) (p2 (by omega)) (p1 (by omega))]
        have e19 := r_w19 n3
        have e20 := r_w20 n3
        have e41 := r_isSign n3 (s := 41) (by omega)
        rw [(gJ_0 (p0 rfl)).1] at e19
        rw [(gJ_0 (p0 rfl)).2] at e20
        rw [z] at e41
        simp (disch := omega) only [↓reduceIte, wlet, Option.bind_some, true_and, and_true, not_true_eq_false, not_false_eq_true, reduceCtorEq, n0_, n1_, n2_, n3_, n4_, n5_, n6_, n7_, n8_, n9_, n10_, n12_, n16_, n18_, n20_, n21_, n22_, n24_, n25_, n26_, n27_, n28_, n29_, n30_, n31_, n32_, n40_, n41_, n42_, n43_, n45_, n48_, n54_, n57_, n58_, n59_, n60_, n61_, n63_, n96_, n97_, n99_, n100_, n122_, n126_, n200_, n255_, n375_, n400_, n1000_, n2000_, n9999_, n5764801_, n1000000_, n3000_, m1, m2, le_t, le_f, lt_t, lt_f, eq_t, eq_f, no_lt, no_le, le_no, lt_no, eq_no, no_eq, add_no, wib_t, clamp, nI_add, pk_mul, pk_sub, nor_, nand_, ndif_, shl_, sh1_, shr_, tbn, tb0, tb1, les_t, les_f, pk_div, rem_, remv, and31, wu1, wuc, wui, wu2, ws1, wsc, ws2, wv1, n11_, n13_, n14_, n15_, n17_, n19_, n23_, n56_, n64_, fX11_reads_b304_11, fX11_reads_b424_11, e19, e20, e41, y1, Nat.add_sub_cancel, pw, y8, Option.isSome_none, Option.isSome_some, Bool.false_eq_true]
      have eX : gTs T 41 x.1 = (gTe T x.1.1, 0) := by unfold gTs; rw [z, if_pos (show true = true from rfl), nx_0 q]
      refine OS_y (show (gTs T 41 x.1).2 = 0 by rw [eX]) ⟨n + 2, f2, ?_, fun N => ?_, ?_, ?_, fun i hi => ?_, ?_, fun z => by omega, fun z => by omega, fun z => by omega, fun z => by omega, fun _ => ?_⟩
      · show b + (n + 2) ≤ (gTs T 41 x.1).1
        rw [eX]
        show b + (n + 2) ≤ gTe T x.1.1
        omega
      · rw [show N + (n + 2) = (N + 1 + n) + 1 by omega, rB_1 st, n2, rB_1 st2]
      · show SM f2 T (gTs T 41 x.1).1
        rw [eX]; exact y9
      · rw [k2.2.1 23 (by omega) (by omega) (by omega) (by omega) (by omega) (by omega), y2]
        show nI (c + 1 + x.2.2.1.length + 1) = nI (c + (nI 28 :: (x.2.2.1 ++ [nI 29])).length)
        rw [List.length_cons, List.length_append, List.length_cons, List.length_nil]
        congr 1
        omega
      · show f2.1 202 (c + i) = (nI 28 :: (x.2.2.1 ++ [nI 29])).getD i 0
        have hi : i < (nI 28 :: (x.2.2.1 ++ [nI 29])).length := hi
        rw [List.length_cons, List.length_append, List.length_cons, List.length_nil] at hi
        rw [fr_at k2.1 (by unfold s188; omega), y3]
        cases i with
        | zero => rw [if_neg (by omega), Nat.add_zero, n6.2.2.1 c (by omega), q3]; rfl
        | succ i =>
          rw [gd_c]
          by_cases e : i = x.2.2.1.length
          · rw [if_pos (by omega), e]
            exact gd_e.symm
          · rw [if_neg (by omega), gd_l (by omega), ← n5 i (by omega), show c + (i + 1) = c + 1 + i by omega]
      · exact RQ_tr (by omega) (by omega) r3 (RQ_tr (by omega) (by omega) n6 (RQ_tr (by omega) (Nat.le_refl _) (y4 (d + 1)) (RQ_K (c := c + 1 + x.2.2.1.length) k2)))
      · rw [fr_at k2.1 (by unfold s188; omega), y6, n6.2.2.2.2 d (by omega), q2]
    | false =>
      obtain ⟨f2, st2, y9, k2⟩ := r_stop n3 (d := d + 1) (by omega) (p3 (by omega)) (p2 (by omega)) (p1 (by omega)) (p0 rfl) (Or.inl z) (Or.inr (by omega))
      have eX : gTs T 41 x.1 = fl T 1 x.1 := by unfold gTs; rw [z, if_neg (by decide)]
      refine OS_n (show (gTs T 41 x.1).2 ≠ 0 by rw [eX]; exact fl_ne (by omega)) ⟨n + 2, f2, ?_, fun N => ?_, ?_, ?_⟩
      · have := n3.2.2.1
        omega
      · rw [show N + (n + 2) = (N + 1 + n) + 1 by omega, rB_1 st, n2, rB_2 st2]
      · show f2.1 188 9 = nI (gTs T 41 x.1).2
        rw [eX, eta0 q]; exact y9
      · exact RQ_tr (by omega) (by omega) r3 (RQ_tr (Nat.le_refl _) (Nat.le_refl _) n6 (RQ_K k2))
  · obtain ⟨n, f, n1, n2, n3, n4⟩ := ou.2 q
    refine OS_n (show (gTs T 41 x.1).2 ≠ 0 by rw [gTs_f q]; exact q) ⟨n + 1, f, by omega, fun N => by rw [← Nat.add_assoc, rB_1 st, n2], ?_, RQ_tr (by omega) (by omega) r3 n4⟩
    show f.1 188 9 = nI (gTs T 41 x.1).2
    rw [gTs_f q]; exact n3
theorem r_atom (a : MR h T b c d o) (hd : d ≤ 4) (hq : gStt T b = true) (hn : gIs T b 18 = false) (ho : gIg T b 40 = false) : OS 4 T h d c (uw o d) b (gPa T (b, 0)) := by
  obtain ⟨t1, t2⟩ := gTe_s a.1.2.2.1 (gSt_k hq)
  have w0 := a.1.2.1.1
  have c2 := a.2.2.2.1
  obtain ⟨f1, y1, y2, y3, y4, y5, y6, y7⟩ := r_puts (T := T) (b := b) a.2.1 (by omega) (gAr T b)
  obtain ⟨f2, y8, y9, j2⟩ := r_next (y7 a.1)
  have k2 := RK_J j2
  have pw := r_uw (h := f1) (o := o) (x := nI 0) d 3000 (by omega) (by omega) (fun i h1 h2 => by
    rw [y5]
    exact a.2.2.2.2 i h1 h2)
  have st : grB (nI d, nI 1, h) = some (.inl (nI (uw o d), nI 0, f2)) := by
    show fX11_reads_l11 h (nI d) (nI 1) = _
    rw [r_b65 a.1 hq, hn, ho]
    have b0 : wb false = nI 0 := rfl
    have hf4 := gFa_le (T := T) (b := b)
    unfold gAr at y1
    by_cases hf : gFa T b = 0
    · rw [if_pos hf] at y1
      have hk : gTk T b = 2 := by
        unfold gStt at hq
        rw [hf, hn, ho] at hq
        simpa using hq
      have t8 := a.1.2.2.2.2.2.2.1 hk
      rw [hf]
      simp (disch := omega) only [↓reduceIte, wlet, Option.bind_some, true_and, and_true, not_true_eq_false, not_false_eq_true, reduceCtorEq, n0_, n1_, n2_, n3_, n4_, n5_, n6_, n7_, n8_, n9_, n10_, n12_, n16_, n18_, n20_, n21_, n22_, n24_, n25_, n26_, n27_, n28_, n29_, n30_, n31_, n32_, n40_, n41_, n42_, n43_, n45_, n48_, n54_, n57_, n58_, n59_, n60_, n61_, n63_, n96_, n97_, n99_, n100_, n122_, n126_, n200_, n255_, n375_, n400_, n1000_, n2000_, n9999_, n5764801_, n1000000_, n3000_, m1, m2, le_t, le_f, lt_t, lt_f, eq_t, eq_f, no_lt, no_le, le_no, lt_no, eq_no, no_eq, add_no, wib_t, clamp, nI_add, pk_mul, pk_sub, nor_, nand_, ndif_, shl_, sh1_, shr_, tbn, tb0, tb1, les_t, les_f, pk_div, rem_, remv, and31, wu1, wuc, wui, wu2, ws1, wsc, ws2, wv1, n11_, n13_, n14_, n15_, n17_, n19_, n23_, n56_, n64_, fX11_reads_b65_11, fX11_reads_b147_11, fX11_reads_b172_11, b0, t8, y1, pw, y8]
    · rw [if_neg hf] at y1
      simp (disch := omega) only [↓reduceIte, wlet, Option.bind_some, true_and, and_true, not_true_eq_false, not_false_eq_true, reduceCtorEq, n0_, n1_, n2_, n3_, n4_, n5_, n6_, n7_, n8_, n9_, n10_, n12_, n16_, n18_, n20_, n21_, n22_, n24_, n25_, n26_, n27_, n28_, n29_, n30_, n31_, n32_, n40_, n41_, n42_, n43_, n45_, n48_, n54_, n57_, n58_, n59_, n60_, n61_, n63_, n96_, n97_, n99_, n100_, n122_, n126_, n200_, n255_, n375_, n400_, n1000_, n2000_, n9999_, n5764801_, n1000000_, n3000_, m1, m2, le_t, le_f, lt_t, lt_f, eq_t, eq_f, no_lt, no_le, le_no, lt_no, eq_no, no_eq, add_no, wib_t, clamp, nI_add, pk_mul, pk_sub, nor_, nand_, ndif_, shl_, sh1_, shr_, tbn, tb0, tb1, les_t, les_f, pk_div, rem_, remv, and31, wu1, wuc, wui, wu2, ws1, wsc, ws2, wv1, n11_, n13_, n14_, n15_, n17_, n19_, n23_, n56_, n64_, fX11_reads_b65_11, fX11_reads_b147_11, fX11_reads_b172_11, b0, y1, pw, y8]
  refine OS_y rfl ⟨1, f2, ?_, fun N => rB_1 st N, y9, ?_, fun i hi => ?_, ?_, fun z => by omega, fun z => by omega, fun z => by omega, fun z => by omega, fun _ => ?_⟩
  · show b + 1 ≤ gTe T b
    omega
  · rw [k2.2.1 23 (by omega) (by omega) (by omega) (by omega) (by omega) (by omega), y2]; rfl
  · have hi : i < 1 := hi
    have : i = 0 := by omega
    subst this
    rw [fr_at k2.1 (by unfold s188; omega), y3, if_pos (by omega)]; rfl
  · exact RQ_tr (Nat.le_refl _) (Nat.le_refl _) (y4 d) (RQ_K k2)
  · rw [fr_at k2.1 (by unfold s188; omega), y6]
theorem r_part {r0 r1 : Nat → Nat × Nat → gPc} (hd5 : d ≤ 5) (hn : ∀ s, s.1 ≤ T.1 → gLg s T (r0 (d + 1) s))
    (h1 : d ≤ 4 → ∀ g b c o, MR g T b c (d + 1) o → OS 4 T g (d + 1) c (uw o (d + 1)) b (r1 (d + 1) (b, 0)))
    (h0 : d ≤ 4 → ∀ g b c o, o (d + 1) = 2 → g.1 204 (d + 1) = nI 0 → MR g T b c (d + 1) o → OS 0 T g (d + 1) c (d + 1) b (r0 (d + 1) (b, 0))) (a : MR h T b c d o) : OS 4 T h d c (uw o d) b (gPart r0 r1 T d (b, 0)) := by
  have en : nx T (b, 0) = (gTe T b, 0) := by unfold nx; rfl
  have hb := a.1.2.2.1
  refine gP_c (fun x => OS 4 T h d c (uw o d) b x) (fun q => absurd rfl q) (fun _ hq => ?_) (fun _ hq hd => ?_) (fun _ hq hd h18 => ?_) (fun _ hq hd h18 h40 => ?_) (fun _ hq hd h18 h40 => r_atom a hd hq h18 h40)
  · obtain ⟨f, st, y9, k1⟩ := r_bad1 (d := d) a.1 hq
    exact OS_n (fl_ne (by omega)) ⟨1, f, by omega, fun N => rB_2 st N, y9, RQ_K k1⟩
  · obtain ⟨f, e1, y9, k1⟩ := r_fails a.1 5
    have h5 : d = 5 := by omega
    have st : grB (nI d, nI 1, h) = some (.inr (false, f)) := by
      show fX11_reads_l11 h (nI d) (nI 1) = _
      rw [r_b65 a.1 hq]
      simp (disch := omega) only [↓reduceIte, wlet, Option.bind_some, true_and, and_true, not_true_eq_false, not_false_eq_true, reduceCtorEq, n0_, n1_, n2_, n3_, n4_, n5_, n6_, n7_, n8_, n9_, n10_, n12_, n16_, n18_, n20_, n21_, n22_, n24_, n25_, n26_, n27_, n28_, n29_, n30_, n31_, n32_, n40_, n41_, n42_, n43_, n45_, n48_, n54_, n57_, n58_, n59_, n60_, n61_, n63_, n96_, n97_, n99_, n100_, n122_, n126_, n200_, n255_, n375_, n400_, n1000_, n2000_, n9999_, n5764801_, n1000000_, n3000_, m1, m2, le_t, le_f, lt_t, lt_f, eq_t, eq_f, no_lt, no_le, le_no, lt_no, eq_no, no_eq, add_no, wib_t, clamp, nI_add, pk_mul, pk_sub, nor_, nand_, ndif_, shl_, sh1_, shr_, tbn, tb0, tb1, les_t, les_f, pk_div, rem_, remv, and31, wu1, wuc, wui, wu2, ws1, wsc, ws2, wv1, n11_, n13_, n14_, n15_, n17_, n19_, n23_, n56_, n64_, fX11_reads_b65_11, e1]
    exact OS_n (fl_ne (by omega)) ⟨1, f, by omega, fun N => rB_2 st N, y9, RQ_K k1⟩
  · rw [en]
    exact r_not a hd hq h18 (fun g o' a' => h1 hd g _ _ o' a')
  · rw [en]
    exact r_par a hd hq h18 h40 (hn _ (gTe_b hb).2.1) (fun g o' z1 z2 a' => h0 hd g _ _ o' z1 z2 a')
theorem r_loop {r : Nat × Nat → gPc} {l : Nat} (hl : l ≤ 3) (hd5 : d ≤ 5) (hr : ∀ g b c, MR g T b c d o → (l = 0 → g.1 204 d = nI 0) → OS (l + 1) T g d c d b (r (b, 0))) (hn : ∀ s, s.1 ≤ T.1 → gLg s T (r s)) (hc : 1000 ≤ c) (ho : ∀ i, 1 ≤ i → i ≤ d → h.1 203 i = nI (o i) ∧ o i ≤ 2) :
    ∀ (m : Nat) (a : gPc) (n : Nat) (g : wSt), a.1.2 = 0 → b + n ≤ a.1.1 → (∀ N, wit grB (N + n) (nI d, nI 1, h) = wit grB N (nI d, nI 0, g)) → SM g T a.1.1 → g.1 188 23 = nI (c + a.2.2.1.length) → (∀ i, i < a.2.2.1.length → g.1 202 (c + i) = a.2.2.1.getD i 0) → RQ c d h g → c + a.2.2.1.length ≤ 1000 + a.1.1 →
      (l ≤ 2 → gJo T 3 a.1.1 = 0) → (l ≤ 1 → gJo T 2 a.1.1 = 0) → (l = 0 → gJo T 1 a.1.1 ≠ 0 → g.1 204 d = nI 1) → (l = 1 → m ≤ 1 ∧ (m = 1 → g.1 204 d = nI 0) ∧ (m = 0 → g.1 204 d = nI 1)) → (2 ≤ l → g.1 204 d = h.1 204 d) → (l ≠ 1 → 1000 ≤ m + a.1.1) → OS l T h d c d b (gLp r T l m a) := by
  intro m
  induction m with
  | zero =>
    intro a n g a0 n1 n2 n3 n4 n5 n6 lc p3 p2 p1 pm p5 pk
    have jz : l ≠ 1 → gJo T l a.1.1 = 0 := fun z => by
      by_cases q : gJo T l a.1.1 = 0
      · exact q
      · have := (gTe_s n3.2.2.1 (gJ_k q))
        have := pk z
        have := n3.2.1.1
        omega
    refine OS_y a0 ⟨n, g, n1, n2, n3, n4, n5, n6, fun z => ?_, fun z => ?_, fun z w => ?_, fun z => ?_, p5⟩
    · by_cases e : l = 3
      · subst e; exact jz (by omega)
      · exact p3 (by omega)
    · by_cases e : l = 2
      · subst e; exact jz (by omega)
      · exact p2 (by omega)
    · by_cases e : l = 1
      · exact (pm e).2.2 rfl
      · exact p1 (by omega) w
    · subst z; exact jz (by omega)
  | succ m ih =>
    intro a n g a0 n1 n2 n3 n4 n5 n6 lc p3 p2 p1 pm p5 pk
    by_cases hj : gJo T l a.1.1 = 0
    · rw [gLp_0 (Or.inr hj)]
      refine OS_y a0 ⟨n, g, n1, n2, n3, n4, n5, n6, fun z => ?_, fun z => ?_, fun z w => ?_, fun z => ?_, p5⟩
      · by_cases e : l = 3
        · subst e; exact hj
        · exact p3 (by omega)
      · by_cases e : l = 2
        · subst e; exact hj
        · exact p2 (by omega)
      · by_cases e : l = 1
        · subst e; exact absurd hj w
        · exact p1 (by omega) w
      · subst z; exact hj
    · rw [gLp_s (by exact fun z => z.elim (fun z => z a0) (fun z => hj z))]
      have w0 := n3.2.1.1
      obtain ⟨t1, t2⟩ := gTe_s n3.2.2.1 (gJ_k hj)
      obtain ⟨f, st, f1, f2, f3, f4, f5⟩ := r_joint (d := d) n3 hl hd5 hj n4 (by omega) (fun z => (pm z).2.1 (by have := (pm z).1; omega))
      have a1 : MR f T (gTe T a.1.1) (c + a.2.2.1.length + 1) d o := ⟨f1, f2, by omega, by omega, fun i h1 h2 => by rw [f4.2.2.2.1 i h2, n6.2.2.2.1 i h2]; exact ho i h1 h2⟩
      have ou := hr f _ _ a1 (fun z => by rw [f5, if_pos z])
      have hx := hn (gTe T a.1.1, 0) t2
      rw [nx_0 a0]
      revert ou hx
      generalize r (gTe T a.1.1, 0) = x
      intro ou hx
      have n6f : RQ c d h f := RQ_tr (by omega) (Nat.le_refl _) n6 f4
      by_cases q : x.1.2 = 0
      · obtain ⟨k, f', k1, k2, k3, k4, k5, k6, z3, z2, z1, z0, z5⟩ := ou.1 q
        obtain ⟨l1, l2⟩ := hx.2 q
        have l2 : gTe T a.1.1 + x.2.2.1.length ≤ x.1.1 := l2
        have eL : (gJn T l a x).2.2.1.length = a.2.2.1.length + (x.2.2.1.length + 1) := by
          show (a.2.2.1 ++ (nI (gJo T l a.1.1) :: x.2.2.1)).length = _
          rw [List.length_append, List.length_cons]
        refine ih (gJn T l a x) (n + 1 + k) f' q ?_ (fun N => ?_) k3 ?_ (fun i hi => ?_) (RQ_tr (by omega) (Nat.le_refl _) n6f k6) ?_ (fun z => z3 (by omega)) (fun z => z2 (by omega)) (fun z w => z1 (by omega) w) (fun z => ⟨by have := (pm z).1; omega, fun y => by have := (pm z).1; omega, fun _ => ?_⟩) (fun z => ?_) (fun z => ?_)
        · show b + (n + 1 + k) ≤ x.1.1
          omega
        · rw [show N + (n + 1 + k) = (N + k + 1) + n by omega, n2, rB_1 st, k2]
        · rw [k4, eL]; congr 1; omega
        · show f'.1 202 (c + i) = (a.2.2.1 ++ (nI (gJo T l a.1.1) :: x.2.2.1)).getD i 0
          rw [eL] at hi
          by_cases e : i < a.2.2.1.length
          · rw [gd_l e, k6.2.2.1 _ (by omega), f4.2.2.1 _ (by omega)]
            exact n5 i e
          · obtain ⟨j, rfl⟩ : ∃ j, i = a.2.2.1.length + j := ⟨i - a.2.2.1.length, by omega⟩
            rw [gd_r]
            cases j with
            | zero => rw [Nat.add_zero, k6.2.2.1 _ (by omega), f3]; rfl
            | succ j => rw [gd_c, ← k5 j (by omega), show c + (a.2.2.1.length + (j + 1)) = c + a.2.2.1.length + 1 + j by omega]
        · rw [eL]
          show c + (a.2.2.1.length + (x.2.2.1.length + 1)) ≤ 1000 + x.1.1
          omega
        · rw [z5 (by omega), f5, if_neg (by omega), if_pos z]
        · rw [z5 (by omega), f5, if_neg (by omega), if_neg (by omega)]; exact p5 z
        · show 1000 ≤ m + x.1.1
          have := pk z
          omega
      · obtain ⟨k, f', k1, k2, k3, k4⟩ := ou.2 q
        have q' : (gJn T l a x).1.2 ≠ 0 := q
        rw [gLp_0 (Or.inl q')]
        exact OS_n q' ⟨n + 1 + k, f', by omega, fun N => by rw [show N + (n + 1 + k) = (N + k + 1) + n by omega, n2, rB_1 st, k2], k3, RQ_tr (by omega) (Nat.le_refl _) n6f k4⟩
theorem r_lev {r : Nat × Nat → gPc} {l : Nat} (hl : l ≤ 3) (hd5 : d ≤ 5) (hr : ∀ g b c, MR g T b c d o → (l = 0 → g.1 204 d = nI 0) → OS (l + 1) T g d c d b (r (b, 0))) (hn : ∀ s, s.1 ≤ T.1 → gLg s T (r s)) (a : MR h T b c d o) (h204 : l ≤ 1 → h.1 204 d = nI 0) : OS l T h d c d b (gLp r T l (gMo l) (r (b, 0))) := by
  have ou := hr h b c a (fun z => h204 (by omega))
  have hx := hn (b, 0) a.1.2.2.1
  by_cases q : (r (b, 0)).1.2 = 0
  · obtain ⟨k, f', k1, k2, k3, k4, k5, k6, z3, z2, z1, z0, z5⟩ := ou.1 q
    obtain ⟨l1, l2⟩ := hx.2 q
    have l2 : b + (r (b, 0)).2.2.1.length ≤ (r (b, 0)).1.1 := l2
    have c2 := a.2.2.2.1
    exact r_loop hl hd5 hr hn a.2.2.1 a.2.2.2.2 (gMo l) (r (b, 0)) k f' q k1 k2 k3 k4 k5 k6 (by omega) (fun z => z3 (by omega)) (fun z => z2 (by omega)) (fun z w => z1 (by omega) w) (fun z => by
      subst z
      exact ⟨Nat.le_refl 1, fun _ => by rw [z5 (by omega)]; exact h204 (by omega), fun y => by cases y⟩) (fun z => z5 (by omega)) (fun z => by unfold gMo; rw [if_neg z]; omega)
  · rw [gLp_0 (Or.inl q)]
    exact OS_n q (ou.2 q)
theorem r_rr : ∀ (n : Nat), (∀ d h b c o, d ≤ 5 → gFp d ≤ n → MR h T b c d o → OS 4 T h d c (uw o d) b (gX T n false 0 d (b, 0)))
    ∧ ∀ l d h b c o, l ≤ 4 → d ≤ 5 → gFl l d ≤ n → uw o d = d → (l ≤ 1 → h.1 204 d = nI 0) → MR h T b c d o → OS l T h d c d b (gX T n true l d (b, 0))
  | 0 => ⟨fun d h b c o _ q => by unfold gFp at q; omega, fun l d h b c o _ _ q => by unfold gFl gFp at q; omega⟩
  | n + 1 => by
    obtain ⟨i1, i2⟩ := r_rr n
    refine ⟨fun d h b c o hd hf a => ?_, fun l d h b c o hl hd hf hu h204 a => ?_⟩
    · rw [gX_p]
      exact r_part hd (fun s hs => (gX_n n).2 0 (d + 1) s hs) (fun hd4 g b c o a => i1 (d + 1) g b c o (by omega) (by unfold gFp at hf ⊢; omega) a) (fun hd4 g b c o z1 z2 a => i2 0 (d + 1) g b c o (by omega) (by omega) (by unfold gFl; unfold gFp at hf ⊢; omega) (by rw [uw, if_neg (by rw [z1]; omega)]) (fun _ => z2) a) a
    · by_cases cl : 3 < l
      · have : l = 4 := by omega
        subst this
        rw [gX_4 cl]
        have := i1 d h b c o hd (by unfold gFl at hf; omega) a
        rw [hu] at this
        exact this
      · rw [gX_l (by omega)]
        exact r_lev (o := o) (by omega) hd (fun g b c a z => i2 (l + 1) d g b c o (by omega) hd (by unfold gFl at hf ⊢; omega) hu (fun y => z (by omega)) a) (fun s hs => (gX_n n).2 (l + 1) d s hs) a h204
/-- the law's E and its sign, the other side -/
def gLx (T : gTp) (b : Nat) : gPc := gX T 64 true 0 0 (b, 0)
theorem r_reads (hs : SM h T b) (h23 : h.1 188 23 = nI c) (c1 : 1000 ≤ c) (c2 : c ≤ 1000 + b) : ∃ r g, fX11_reads h = some (r, g) ∧ OK g T (gTs T 59 (gLx T b).1) r ∧ RQ c 0 h g ∧ (r = true → g.1 188 23 = nI (c + (gLx T b).2.2.1.length) ∧ ∀ i, i < (gLx T b).2.2.1.length → g.1 202 (c + i) = (gLx T b).2.2.1.getD i 0) := by
  have f0 : fr (fun c => c = 204) h (wuI h 204 0 (nI 0)) := fr_wuI rfl
  have r0 : RQ c 0 h (wuI h 204 0 (nI 0)) := ⟨fr_mono f0 (fun x q => by omega), fun j _ _ _ _ _ _ _ => by rw [wuc (by omega)], fun i _ => by rw [wuc (by omega)], fun i hi => by rw [wuc (by omega)], fun i hi => by omega⟩
  have a : MR (wuI h 204 0 (nI 0)) T b c 0 (fun _ => 0) := ⟨SM_fr hs f0 (by omega) (by omega), by rw [wuc (by omega)]; exact h23, c1, c2, fun i h1 h2 => by omega⟩
  have ou := (r_rr (T := T) 64).2 0 0 (wuI h 204 0 (nI 0)) b c (fun _ => 0) (by omega) (by omega) (by decide) rfl (fun _ => wu1) a
  have ou : OS 0 T (wuI h 204 0 (nI 0)) 0 c 0 b (gLx T b) := ou
  revert ou
  generalize gLx T b = x
  intro ou
  have w0 := hs.2.1.1
  have fin : ∀ {z : Bool × wSt}, wit grB 3000 (nI 0, nI 1, wuI h 204 0 (nI 0)) = some z → fX11_reads h = some z := by
    intro z hz
    have hz : wit (fun v : (Int32 × Int32 × wSt) => fX11_reads_l11 v.2.2 v.1 v.2.1) 3000 (nI 0, nI 1, wuI h 204 0 (nI 0)) = some z := hz
    simp (disch := omega) only [↓reduceIte, wlet, Option.bind_some, true_and, and_true, not_true_eq_false, not_false_eq_true, reduceCtorEq, n0_, n1_, n2_, n3_, n4_, n5_, n6_, n7_, n8_, n9_, n10_, n12_, n16_, n18_, n20_, n21_, n22_, n24_, n25_, n26_, n27_, n28_, n29_, n30_, n31_, n32_, n40_, n41_, n42_, n43_, n45_, n48_, n54_, n57_, n58_, n59_, n60_, n61_, n63_, n96_, n97_, n99_, n100_, n122_, n126_, n200_, n255_, n375_, n400_, n1000_, n2000_, n9999_, n5764801_, n1000000_, n3000_, m1, m2, le_t, le_f, lt_t, lt_f, eq_t, eq_f, no_lt, no_le, le_no, lt_no, eq_no, no_eq, add_no, wib_t, clamp, nI_add, pk_mul, pk_sub, nor_, nand_, ndif_, shl_, sh1_, shr_, tbn, tb0, tb1, les_t, les_f, pk_div, rem_, remv, and31, wu1, wuc, wui, wu2, ws1, wsc, ws2, wv1, n11_, n13_, n14_, n15_, n17_, n19_, n23_, n56_, n64_, fX11_reads, nar_0, hz]
  by_cases q : x.1.2 = 0
  · obtain ⟨n, f, n1, n2, n3, n4, n5, n6, p3, p2, p1, p0, -⟩ := ou.1 q
    have hb := n3.2.2.1
    have rf := RQ_tr (Nat.le_refl _) (Nat.le_refl _) r0 n6
    cases z : gIg T x.1.1 59 with
    | true =>
      obtain ⟨f2, y8, y9, j2⟩ := r_next n3
      have k2 := RK_J j2
      have eX : gTs T 59 x.1 = (gTe T x.1.1, 0) := by unfold gTs; rw [z, if_pos (show true = true from rfl), nx_0 q]
      have st2 : grB (nI 0, nI 0, f) = some (.inr (true, f2)) := by
        show fX11_reads_l11 f (nI 0) (nI 0) = _
        rw [r_304 n3 (by omega) (p3 (by omega)) (p2 (by omega)) (p1 (by omega))]
        have e19 := r_w19 n3
        have e20 := r_w20 n3
        have e41 := r_isSign n3 (s := 41) (by omega)
        have e59 := r_isSign n3 (s := 59) (by omega)
        rw [(gJ_0 (p0 rfl)).1] at e19
        rw [(gJ_0 (p0 rfl)).2] at e20
        rw [gIg_ne (j := 41) (by omega) z] at e41
        rw [z] at e59
        simp (disch := omega) only [↓reduceIte, wlet, Option.bind_some, true_and, and_true, not_true_eq_false, not_false_eq_true, reduceCtorEq, n0_, n1_, n2_, n3_, n4_, n5_, n6_, n7_, n8_, n9_, n10_, n12_, n16_, n18_, n20_, n21_, n22_, n24_, n25_, n26_, n27_, n28_, n29_, n30_, n31_, n32_, n40_, n41_, n42_, n43_, n45_, n48_, n54_, n57_, n58_, n59_, n60_, n61_, n63_, n96_, n97_, n99_, n100_, n122_, n126_, n200_, n255_, n375_, n400_, n1000_, n2000_, n9999_, n5764801_, n1000000_, n3000_, m1, m2, le_t, le_f, lt_t, lt_f, eq_t, eq_f, no_lt, no_le, le_no, lt_no, eq_no, no_eq, add_no, wib_t, clamp, nI_add, pk_mul, pk_sub, nor_, nand_, ndif_, shl_, sh1_, shr_, tbn, tb0, tb1, les_t, les_f, pk_div, rem_, remv, and31, wu1, wuc, wui, wu2, ws1, wsc, ws2, wv1, n11_, n13_, n14_, n15_, n17_, n19_, n23_, n56_, n64_, fX11_reads_b304_11, fX11_reads_b399_11, e19, e20, e41, e59, y8, Option.isSome_none, Option.isSome_some, Bool.false_eq_true]
      refine ⟨true, f2, fin ?_, ?_, RQ_tr (Nat.le_refl _) (Nat.le_refl _) rf (RQ_K k2), fun _ => ⟨?_, fun i hi => ?_⟩⟩
      · rw [show 3000 = (3000 - n - 1 + 1) + n by omega, n2, rB_2 st2]
      · rw [eX]; exact ⟨fun _ => ⟨rfl, y9⟩, fun w => absurd rfl w⟩
      · rw [k2.2.1 23 (by omega) (by omega) (by omega) (by omega) (by omega) (by omega)]; exact n4
      · rw [fr_at k2.1 (by unfold s188; omega)]; exact n5 i hi
    | false =>
      obtain ⟨f2, st2, y9, k2⟩ := r_stop n3 (d := 0) (by omega) (p3 (by omega)) (p2 (by omega)) (p1 (by omega)) (p0 rfl) (Or.inr rfl) (Or.inl z)
      have eX : gTs T 59 x.1 = fl T 1 x.1 := by unfold gTs; rw [z, if_neg (by decide)]
      refine ⟨false, f2, fin ?_, ?_, RQ_tr (Nat.le_refl _) (Nat.le_refl _) rf (RQ_K k2), (by intro w; cases w)⟩
      · rw [show 3000 = (3000 - n - 1 + 1) + n by omega, n2, rB_2 st2]
      · rw [eX]
        refine ⟨fun w => absurd w (fl_ne (by omega)), fun _ => ⟨rfl, ?_⟩⟩
        rw [eta0 q]; exact y9
  · obtain ⟨n, f, n1, n2, n3, n4⟩ := ou.2 q
    refine ⟨false, f, fin ?_, ?_, RQ_tr (Nat.le_refl _) (Nat.le_refl _) r0 n4, (by intro w; cases w)⟩
    · rw [show 3000 = (3000 - n) + n by omega, n2]
    · rw [gTs_f q]
      exact ⟨fun w => absurd w q, fun _ => ⟨rfl, n3⟩⟩
end G81

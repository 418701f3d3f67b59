/-! THE DAMP'S LINE, the other side -/
section G77
variable {h : wSt} {T : gTp} {b : Nat} {D : gLib}
theorem r_damps (X : (Nat × Nat) × gLib) {g1 : wSt} (hX : X = gDl T 12 ((b, 0), D)) (hD : DM g1 D) (hn : gnd D = 0) (hs : SM g1 T b) : ∃ e, wit (fun v : wSt => fX11_readsDamp_l19 v) 3000 g1 = some e ∧
    match e with
    | .inl g => ∃ b' D', SM g T b' ∧ gTk T b' ≠ 2 ∧ DM g D' ∧ RTd g1 g ∧ X = ((b', 0), D')
    | .inr z => z.1 = false ∧ (gDz T X.1).2 ≠ 0 ∧ z.2.1 188 9 = nI (gDz T X.1).2 ∧ RTd g1 z.2 := by
  exact wit_or (b := fun v : wSt => fX11_readsDamp_l19 v) 12
    (fun i v => ∃ b' D', SM v T b' ∧ RTd g1 v ∧ DM v D' ∧ gnd D' = i ∧ gDl T (12 - i) ((b', 0), D') = X)
    (fun e => match e with
    | .inl g => ∃ b' D', SM g T b' ∧ gTk T b' ≠ 2 ∧ DM g D' ∧ RTd g1 g ∧ X = ((b', 0), D')
    | .inr z => z.1 = false ∧ (gDz T X.1).2 ≠ 0 ∧ z.2.1 188 9 = nI (gDz T X.1).2 ∧ RTd g1 z.2)
    (by
      rintro i v hi ⟨b', D', sv, rv, dv, nv, gx⟩
      have d5 : v.1 190 5 = nI i := by rw [dv.2.2.1, nv]
      have t6 : v.1 188 6 = nI (gTk T b') := sv.2.2.2.1
      have hk4 := gTk_0 sv.2.2.1
      by_cases hc : i ≠ 0 ∧ gTk T b' ≠ 2
      · right
        rw [gDl_0 (Or.inr ⟨by show gnd D' ≠ 0; rw [nv]; exact hc.1, hc.2⟩)] at gx
        refine ⟨.inl v, ?_, b', D', sv, hc.2, dv, rv, gx.symm⟩
        obtain ⟨hi0, hk⟩ := hc
        simp (disch := omega) only [↓reduceIte, wlet, Option.bind_some, true_and, and_true, not_true_eq_false, not_false_eq_true, reduceCtorEq, n0_, n1_, n2_, n3_, n4_, n5_, n6_, n7_, n8_, n9_, n10_, n12_, n16_, n18_, n20_, n21_, n22_, n24_, n25_, n26_, n27_, n28_, n29_, n30_, n31_, n32_, n40_, n41_, n42_, n43_, n45_, n48_, n54_, n57_, n58_, n59_, n60_, n61_, n63_, n96_, n97_, n99_, n100_, n122_, n126_, n200_, n255_, n375_, n400_, n1000_, n2000_, n9999_, n5764801_, n1000000_, n3000_, m1, m2, le_t, le_f, lt_t, lt_f, eq_t, eq_f, no_lt, no_le, le_no, lt_no, eq_no, no_eq, add_no, wib_t, clamp, nI_add, pk_mul, pk_sub, nor_, nand_, ndif_, shl_, sh1_, shr_, tbn, tb0, tb1, les_t, les_f, pk_div, rem_, remv, and31, wu1, wuc, wui, wu2, ws1, wsc, ws2, wv1, n11_, n13_, n14_, n15_, n17_, n19_, n23_, n56_, n64_, fX11_readsDamp_l19, d5, t6]
      · rw [show 12 - i = (12 - (i + 1)) + 1 by omega, gDl_s (by show ¬ ((0 : Nat) ≠ 0 ∨ (gnd D' ≠ 0 ∧ gTk T b' ≠ 2)); rw [nv]; exact fun z => z.elim (fun z => z rfl) (fun z => hc z))] at gx
        dsimp only at gx
        have bad : ∀ k, 1 ≤ k → gNw T 0 9 (b', 0) = fl T k (b', 0) → ∀ g : wSt, g.1 188 9 = nI (fl T k (b', 0)).2 → (gDz T X.1).2 ≠ 0 ∧ g.1 188 9 = nI (gDz T X.1).2 := by
          intro k hk e g g9
          rw [e, nx_f (fl_ne hk), gDl_0 (Or.inl (fl_ne hk))] at gx
          rw [← gx, gDz_f (fl_ne hk)]
          exact ⟨fl_ne hk, g9⟩
        by_cases hk : gTk T b' = 2
        · have t8 := sv.2.2.2.2.2.2.1 hk
          obtain ⟨-, -, hn9⟩ := gTk_2 sv.2.2.1 hk
          by_cases h9 : gTn T b' ≤ 9
          · left
            have eN' : gNw T 0 9 (b', 0) = (b', 0) := by unfold gNw; rw [if_pos hk, if_pos ⟨Nat.zero_le _, h9⟩]
            rw [eN', nx_0 rfl] at gx
            have f3 : fr (fun c => c = 199 ∨ c = 190) v (wuI (wuI v 199 (12 + i) (nI (gTn T b'))) 190 5 (nI (i + 1))) := fr_tr (fr_wuI (Or.inl rfl)) (fr_wuI (Or.inr rfl))
            obtain ⟨g, e2, s2, j2⟩ := r_next (SM_fr sv f3 (by omega) (by omega))
            have k2 := RK_J j2
            refine ⟨g, ?_, gTe T b', dDp D' (gTn T b'), s2, ?_, ?_, ?_, gx⟩
            · by_cases hi0 : i = 0
              · subst hi0
                simp (disch := omega) only [↓reduceIte, wlet, Option.bind_some, true_and, and_true, not_true_eq_false, not_false_eq_true, reduceCtorEq, n0_, n1_, n2_, n3_, n4_, n5_, n6_, n7_, n8_, n9_, n10_, n12_, n16_, n18_, n20_, n21_, n22_, n24_, n25_, n26_, n27_, n28_, n29_, n30_, n31_, n32_, n40_, n41_, n42_, n43_, n45_, n48_, n54_, n57_, n58_, n59_, n60_, n61_, n63_, n96_, n97_, n99_, n100_, n122_, n126_, n200_, n255_, n375_, n400_, n1000_, n2000_, n9999_, n5764801_, n1000000_, n3000_, m1, m2, le_t, le_f, lt_t, lt_f, eq_t, eq_f, no_lt, no_le, le_no, lt_no, eq_no, no_eq, add_no, wib_t, clamp, nI_add, pk_mul, pk_sub, nor_, nand_, ndif_, shl_, sh1_, shr_, tbn, tb0, tb1, les_t, les_f, pk_div, rem_, remv, and31, wu1, wuc, wui, wu2, ws1, wsc, ws2, wv1, n11_, n13_, n14_, n15_, n17_, n19_, n23_, n56_, n64_, fX11_readsDamp_l19, fX11_readsDamp_b36_19, d5, t6, hk, t8, e2, Nat.add_zero]
              · simp (disch := omega) only [↓reduceIte, wlet, Option.bind_some, true_and, and_true, not_true_eq_false, not_false_eq_true, reduceCtorEq, n0_, n1_, n2_, n3_, n4_, n5_, n6_, n7_, n8_, n9_, n10_, n12_, n16_, n18_, n20_, n21_, n22_, n24_, n25_, n26_, n27_, n28_, n29_, n30_, n31_, n32_, n40_, n41_, n42_, n43_, n45_, n48_, n54_, n57_, n58_, n59_, n60_, n61_, n63_, n96_, n97_, n99_, n100_, n122_, n126_, n200_, n255_, n375_, n400_, n1000_, n2000_, n9999_, n5764801_, n1000000_, n3000_, m1, m2, le_t, le_f, lt_t, lt_f, eq_t, eq_f, no_lt, no_le, le_no, lt_no, eq_no, no_eq, add_no, wib_t, clamp, nI_add, pk_mul, pk_sub, nor_, nand_, ndif_, shl_, sh1_, shr_, tbn, tb0, tb1, les_t, les_f, pk_div, rem_, remv, and31, wu1, wuc, wui, wu2, ws1, wsc, ws2, wv1, n11_, n13_, n14_, n15_, n17_, n19_, n23_, n56_, n64_, fX11_readsDamp_l19, fX11_readsDamp_b36_19, d5, t6, hk, t8, e2]
            · refine RTd_tr rv (RTd_tr (RTd_I (c := 199) (i := 12 + i) (by omega) (by omega) (by rw [show dlo 199 = 12 by decide]; omega)) (RTd_tr (RTd_I (c := 190) (i := 5) (by omega) (by omega) (by decide)) (RTd_K k2)))
            · refine DM_dp dv ?_ (fun j hj => ?_) (fun j => ?_) (fun c h1 h2 => ⟨?_, ?_⟩)
              · rw [fr_at k2.1 (by unfold s188; omega), nv]; exact wu1
              · rw [fr_at k2.1 (by unfold s188; omega), wui hj, wuc (by omega)]
              · rw [fr_at k2.1 (by unfold s188; omega), wuc (by omega), wuS, nv]
              · rw [fr_at k2.1 (by unfold s188; omega), wuc (by omega), wuc (by omega)]
              · rw [(k2.1 c (by unfold s188; omega)).2]; rfl
            · show gnd D' + 1 = i + 1
              rw [nv]
          · right
            obtain ⟨g, e4, g9, k4⟩ := r_fails sv 4
            have eN' : gNw T 0 9 (b', 0) = fl T 4 (b', 0) := by unfold gNw; rw [if_pos hk, if_neg (fun z => h9 z.2)]
            obtain ⟨z1, z2⟩ := bad 4 (by omega) eN' g g9
            refine ⟨.inr (false, g), ?_, rfl, z1, z2, RTd_tr rv (RTd_K k4)⟩
            by_cases hi0 : i = 0
            · subst hi0
              simp (disch := omega) only [↓reduceIte, wlet, Option.bind_some, true_and, and_true, not_true_eq_false, not_false_eq_true, reduceCtorEq, n0_, n1_, n2_, n3_, n4_, n5_, n6_, n7_, n8_, n9_, n10_, n12_, n16_, n18_, n20_, n21_, n22_, n24_, n25_, n26_, n27_, n28_, n29_, n30_, n31_, n32_, n40_, n41_, n42_, n43_, n45_, n48_, n54_, n57_, n58_, n59_, n60_, n61_, n63_, n96_, n97_, n99_, n100_, n122_, n126_, n200_, n255_, n375_, n400_, n1000_, n2000_, n9999_, n5764801_, n1000000_, n3000_, m1, m2, le_t, le_f, lt_t, lt_f, eq_t, eq_f, no_lt, no_le, le_no, lt_no, eq_no, no_eq, add_no, wib_t, clamp, nI_add, pk_mul, pk_sub, nor_, nand_, ndif_, shl_, sh1_, shr_, tbn, tb0, tb1, les_t, les_f, pk_div, rem_, remv, and31, wu1, wuc, wui, wu2, ws1, wsc, ws2, wv1, n11_, n13_, n14_, n15_, n17_, n19_, n23_, n56_, n64_, fX11_readsDamp_l19, fX11_readsDamp_b36_19, d5, t6, hk, t8, e4]
            · simp (disch := omega) only [↓reduceIte, wlet, Option.bind_some, true_and, and_true, not_true_eq_false, not_false_eq_true, reduceCtorEq, n0_, n1_, n2_, n3_, n4_, n5_, n6_, n7_, n8_, n9_, n10_, n12_, n16_, n18_, n20_, n21_, n22_, n24_, n25_, n26_, n27_, n28_, n29_, n30_, n31_, n32_, n40_, n41_, n42_, n43_, n45_, n48_, n54_, n57_, n58_, n59_, n60_, n61_, n63_, n96_, n97_, n99_, n100_, n122_, n126_, n200_, n255_, n375_, n400_, n1000_, n2000_, n9999_, n5764801_, n1000000_, n3000_, m1, m2, le_t, le_f, lt_t, lt_f, eq_t, eq_f, no_lt, no_le, le_no, lt_no, eq_no, no_eq, add_no, wib_t, clamp, nI_add, pk_mul, pk_sub, nor_, nand_, ndif_, shl_, sh1_, shr_, tbn, tb0, tb1, les_t, les_f, pk_div, rem_, remv, and31, wu1, wuc, wui, wu2, ws1, wsc, ws2, wv1, n11_, n13_, n14_, n15_, n17_, n19_, n23_, n56_, n64_, fX11_readsDamp_l19, fX11_readsDamp_b36_19, d5, t6, hk, t8, e4]
        · right
          obtain ⟨g, e4, g9, k4⟩ := r_fails sv 1
          have eN' : gNw T 0 9 (b', 0) = fl T 1 (b', 0) := by unfold gNw; rw [if_neg hk]
          obtain ⟨z1, z2⟩ := bad 1 (by omega) eN' g g9
          have hi0 : i = 0 := by
            by_cases z : i = 0
            · exact z
            · exact absurd ⟨z, hk⟩ hc
          subst hi0
          refine ⟨.inr (false, g), ?_, rfl, z1, z2, RTd_tr rv (RTd_K k4)⟩
          simp (disch := omega) only [↓reduceIte, wlet, Option.bind_some, true_and, and_true, not_true_eq_false, not_false_eq_true, reduceCtorEq, n0_, n1_, n2_, n3_, n4_, n5_, n6_, n7_, n8_, n9_, n10_, n12_, n16_, n18_, n20_, n21_, n22_, n24_, n25_, n26_, n27_, n28_, n29_, n30_, n31_, n32_, n40_, n41_, n42_, n43_, n45_, n48_, n54_, n57_, n58_, n59_, n60_, n61_, n63_, n96_, n97_, n99_, n100_, n122_, n126_, n200_, n255_, n375_, n400_, n1000_, n2000_, n9999_, n5764801_, n1000000_, n3000_, m1, m2, le_t, le_f, lt_t, lt_f, eq_t, eq_f, no_lt, no_le, le_no, lt_no, eq_no, no_eq, add_no, wib_t, clamp, nI_add, pk_mul, pk_sub, nor_, nand_, ndif_, shl_, sh1_, shr_, tbn, tb0, tb1, les_t, les_f, pk_div, rem_, remv, and31, wu1, wuc, wui, wu2, ws1, wsc, ws2, wv1, n11_, n13_, n14_, n15_, n17_, n19_, n23_, n56_, n64_, fX11_readsDamp_l19, fX11_readsDamp_b36_19, d5, t6, e4])
    (by
      rintro v ⟨b', D', sv, rv, dv, nv, gx⟩
      have gx : ((b', 0), D') = X := gx
      have d5 : v.1 190 5 = nI 12 := by rw [dv.2.2.1, nv]
      have t6 : v.1 188 6 = nI (gTk T b') := sv.2.2.2.1
      have hk4 := gTk_0 sv.2.2.1
      by_cases hk : gTk T b' = 2
      · have t8 := sv.2.2.2.2.2.2.1 hk
        obtain ⟨-, -, hn9⟩ := gTk_2 sv.2.2.1 hk
        by_cases h9 : gTn T b' ≤ 9
        · obtain ⟨g, e4, g9, k4⟩ := r_fails sv 5
          have z : gDz T X.1 = fl T 5 (b', 0) := by
            rw [← gx]; dsimp only
            unfold gDz
            rw [if_pos hk, show gNw T 0 9 (b', 0) = (b', 0) by unfold gNw; rw [if_pos hk, if_pos ⟨Nat.zero_le _, h9⟩], gTs_f (fl_ne (by omega))]
          rw [← z] at g9
          refine ⟨.inr (false, g), ?_, rfl, by rw [z]; exact fl_ne (by omega), g9, RTd_tr rv (RTd_K k4)⟩
          simp (disch := omega) only [↓reduceIte, wlet, Option.bind_some, true_and, and_true, not_true_eq_false, not_false_eq_true, reduceCtorEq, n0_, n1_, n2_, n3_, n4_, n5_, n6_, n7_, n8_, n9_, n10_, n12_, n16_, n18_, n20_, n21_, n22_, n24_, n25_, n26_, n27_, n28_, n29_, n30_, n31_, n32_, n40_, n41_, n42_, n43_, n45_, n48_, n54_, n57_, n58_, n59_, n60_, n61_, n63_, n96_, n97_, n99_, n100_, n122_, n126_, n200_, n255_, n375_, n400_, n1000_, n2000_, n9999_, n5764801_, n1000000_, n3000_, m1, m2, le_t, le_f, lt_t, lt_f, eq_t, eq_f, no_lt, no_le, le_no, lt_no, eq_no, no_eq, add_no, wib_t, clamp, nI_add, pk_mul, pk_sub, nor_, nand_, ndif_, shl_, sh1_, shr_, tbn, tb0, tb1, les_t, les_f, pk_div, rem_, remv, and31, wu1, wuc, wui, wu2, ws1, wsc, ws2, wv1, n11_, n13_, n14_, n15_, n17_, n19_, n23_, n56_, n64_, fX11_readsDamp_l19, fX11_readsDamp_b36_19, d5, t6, hk, t8, e4]
        · obtain ⟨g, e4, g9, k4⟩ := r_fails sv 4
          have z : gDz T X.1 = fl T 4 (b', 0) := by
            rw [← gx]; dsimp only
            unfold gDz
            rw [if_pos hk, show gNw T 0 9 (b', 0) = fl T 4 (b', 0) by unfold gNw; rw [if_pos hk, if_neg (fun z => h9 z.2)], fl_f (fl_ne (by omega)), gTs_f (fl_ne (by omega))]
          rw [← z] at g9
          refine ⟨.inr (false, g), ?_, rfl, by rw [z]; exact fl_ne (by omega), g9, RTd_tr rv (RTd_K k4)⟩
          simp (disch := omega) only [↓reduceIte, wlet, Option.bind_some, true_and, and_true, not_true_eq_false, not_false_eq_true, reduceCtorEq, n0_, n1_, n2_, n3_, n4_, n5_, n6_, n7_, n8_, n9_, n10_, n12_, n16_, n18_, n20_, n21_, n22_, n24_, n25_, n26_, n27_, n28_, n29_, n30_, n31_, n32_, n40_, n41_, n42_, n43_, n45_, n48_, n54_, n57_, n58_, n59_, n60_, n61_, n63_, n96_, n97_, n99_, n100_, n122_, n126_, n200_, n255_, n375_, n400_, n1000_, n2000_, n9999_, n5764801_, n1000000_, n3000_, m1, m2, le_t, le_f, lt_t, lt_f, eq_t, eq_f, no_lt, no_le, le_no, lt_no, eq_no, no_eq, add_no, wib_t, clamp, nI_add, pk_mul, pk_sub, nor_, nand_, ndif_, shl_, sh1_, shr_, tbn, tb0, tb1, les_t, les_f, pk_div, rem_, remv, and31, wu1, wuc, wui, wu2, ws1, wsc, ws2, wv1, n11_, n13_, n14_, n15_, n17_, n19_, n23_, n56_, n64_, fX11_readsDamp_l19, fX11_readsDamp_b36_19, d5, t6, hk, t8, e4]
      · refine ⟨.inl v, ?_, b', D', sv, hk, dv, rv, gx.symm⟩
        simp (disch := omega) only [↓reduceIte, wlet, Option.bind_some, true_and, and_true, not_true_eq_false, not_false_eq_true, reduceCtorEq, n0_, n1_, n2_, n3_, n4_, n5_, n6_, n7_, n8_, n9_, n10_, n12_, n16_, n18_, n20_, n21_, n22_, n24_, n25_, n26_, n27_, n28_, n29_, n30_, n31_, n32_, n40_, n41_, n42_, n43_, n45_, n48_, n54_, n57_, n58_, n59_, n60_, n61_, n63_, n96_, n97_, n99_, n100_, n122_, n126_, n200_, n255_, n375_, n400_, n1000_, n2000_, n9999_, n5764801_, n1000000_, n3000_, m1, m2, le_t, le_f, lt_t, lt_f, eq_t, eq_f, no_lt, no_le, le_no, lt_no, eq_no, no_eq, add_no, wib_t, clamp, nI_add, pk_mul, pk_sub, nor_, nand_, ndif_, shl_, sh1_, shr_, tbn, tb0, tb1, les_t, les_f, pk_div, rem_, remv, and31, wu1, wuc, wui, wu2, ws1, wsc, ws2, wv1, n11_, n13_, n14_, n15_, n17_, n19_, n23_, n56_, n64_, fX11_readsDamp_l19, d5, t6])
    (N := 3000) (by omega) (v := g1) ⟨b, D, hs, RTd_K RK_rf, hD, hn, hX.symm⟩
theorem r_readsDamp (hW : WL D) (hD : DM h D) (hs : SM h T b) : ∃ r g, fX11_readsDamp h = some (r, g) ∧ OK g T (gDp D T (b, 0)).1 r ∧ RTd h g ∧ (r = true → DM g (gDp D T (b, 0)).2) := by
  have d0 := hD.2.2.1
  have n12 := hW.2.2.1
  by_cases hn : gnd D = 0
  · rw [gDp_s hn]; dsimp only
    obtain ⟨g1, e1, s1', j1⟩ := r_next hs
    have k1 := RK_J j1
    have en : nx T (b, 0) = (gTe T b, 0) := by unfold nx; rfl
    obtain ⟨e, he, P⟩ := r_damps (gDl T 12 (nx T (b, 0), D)) (by rw [en]) (DM_fr hD k1.1 (fun c _ _ => by unfold s188; omega)) hn s1'
    revert P
    generalize gDl T 12 (nx T (b, 0), D) = X
    intro P
    rw [hn] at d0
    cases e with
    | inl g =>
      obtain ⟨b', D', sv, hk, dv, rv, hX⟩ : ∃ b' D', SM g T b' ∧ gTk T b' ≠ 2 ∧ DM g D' ∧ RTd g1 g ∧ X = ((b', 0), D') := P
      subst hX
      dsimp only
      have z : gDz T (b', 0) = gTs T 59 (b', 0) := by unfold gDz; rw [if_neg hk]
      rw [z]
      obtain ⟨r, g2, e2, o2, k2⟩ := r_closes sv
      refine ⟨r, g2, ?_, o2, RTd_tr (RTd_K k1) (RTd_tr rv (RTd_K k2)), fun _ => DM_fr dv k2.1 (fun c _ _ => by unfold s188; omega)⟩
      simp (disch := omega) only [↓reduceIte, wlet, Option.bind_some, true_and, and_true, not_true_eq_false, not_false_eq_true, reduceCtorEq, n0_, n1_, n2_, n3_, n4_, n5_, n6_, n7_, n8_, n9_, n10_, n12_, n16_, n18_, n20_, n21_, n22_, n24_, n25_, n26_, n27_, n28_, n29_, n30_, n31_, n32_, n40_, n41_, n42_, n43_, n45_, n48_, n54_, n57_, n58_, n59_, n60_, n61_, n63_, n96_, n97_, n99_, n100_, n122_, n126_, n200_, n255_, n375_, n400_, n1000_, n2000_, n9999_, n5764801_, n1000000_, n3000_, m1, m2, le_t, le_f, lt_t, lt_f, eq_t, eq_f, no_lt, no_le, le_no, lt_no, eq_no, no_eq, add_no, wib_t, clamp, nI_add, pk_mul, pk_sub, nor_, nand_, ndif_, shl_, sh1_, shr_, tbn, tb0, tb1, les_t, les_f, pk_div, rem_, remv, and31, wu1, wuc, wui, wu2, ws1, wsc, ws2, wv1, n11_, n13_, n14_, n15_, n17_, n19_, n23_, n56_, n64_, fX11_readsDamp, d0, e1, he, e2]
    | inr z =>
      obtain ⟨z1, z2, z3, z4⟩ : z.1 = false ∧ (gDz T X.1).2 ≠ 0 ∧ z.2.1 188 9 = nI (gDz T X.1).2 ∧ RTd g1 z.2 := P
      obtain ⟨r, g⟩ := z
      have z1 : r = false := z1
      subst z1
      refine ⟨false, g, ?_, ⟨fun q => absurd q z2, fun _ => ⟨rfl, z3⟩⟩, RTd_tr (RTd_K k1) z4, (by intro q; cases q)⟩
      simp (disch := omega) only [↓reduceIte, wlet, Option.bind_some, true_and, and_true, not_true_eq_false, not_false_eq_true, reduceCtorEq, n0_, n1_, n2_, n3_, n4_, n5_, n6_, n7_, n8_, n9_, n10_, n12_, n16_, n18_, n20_, n21_, n22_, n24_, n25_, n26_, n27_, n28_, n29_, n30_, n31_, n32_, n40_, n41_, n42_, n43_, n45_, n48_, n54_, n57_, n58_, n59_, n60_, n61_, n63_, n96_, n97_, n99_, n100_, n122_, n126_, n200_, n255_, n375_, n400_, n1000_, n2000_, n9999_, n5764801_, n1000000_, n3000_, m1, m2, le_t, le_f, lt_t, lt_f, eq_t, eq_f, no_lt, no_le, le_no, lt_no, eq_no, no_eq, add_no, wib_t, clamp, nI_add, pk_mul, pk_sub, nor_, nand_, ndif_, shl_, sh1_, shr_, tbn, tb0, tb1, les_t, les_f, pk_div, rem_, remv, and31, wu1, wuc, wui, wu2, ws1, wsc, ws2, wv1, n11_, n13_, n14_, n15_, n17_, n19_, n23_, n56_, n64_, fX11_readsDamp, d0, e1, he]
  · rw [gDp_f hn]; dsimp only
    obtain ⟨g, e1, g9, k1⟩ := r_fails hs 3
    refine ⟨false, g, ?_, ⟨fun q => absurd q (fl_ne (by omega)), fun _ => ⟨rfl, g9⟩⟩, RTd_K k1, (by intro q; cases q)⟩
    simp (disch := omega) only [↓reduceIte, wlet, Option.bind_some, true_and, and_true, not_true_eq_false, not_false_eq_true, reduceCtorEq, n0_, n1_, n2_, n3_, n4_, n5_, n6_, n7_, n8_, n9_, n10_, n12_, n16_, n18_, n20_, n21_, n22_, n24_, n25_, n26_, n27_, n28_, n29_, n30_, n31_, n32_, n40_, n41_, n42_, n43_, n45_, n48_, n54_, n57_, n58_, n59_, n60_, n61_, n63_, n96_, n97_, n99_, n100_, n122_, n126_, n200_, n255_, n375_, n400_, n1000_, n2000_, n9999_, n5764801_, n1000000_, n3000_, m1, m2, le_t, le_f, lt_t, lt_f, eq_t, eq_f, no_lt, no_le, le_no, lt_no, eq_no, no_eq, add_no, wib_t, clamp, nI_add, pk_mul, pk_sub, nor_, nand_, ndif_, shl_, sh1_, shr_, tbn, tb0, tb1, les_t, les_f, pk_div, rem_, remv, and31, wu1, wuc, wui, wu2, ws1, wsc, ws2, wv1, n11_, n13_, n14_, n15_, n17_, n19_, n23_, n56_, n64_, fX11_readsDamp, d0, e1]
end G77

/-! A TEXT'S LINE ON THE OTHER SIDE -/
section G69
variable {h : wSt} {T : gTp} {b : Nat} {D : gLib}
theorem dlo_t {c i : Nat} (h1 : c = 192 ∨ (196 ≤ c ∧ c ≤ 198)) (hi : 6 ≤ i) : dlo c ≤ i := by
  unfold dlo; rw [if_neg (by omega), if_pos h1]; exact hi
theorem gTq_n {s : Nat × Nat} : gTq T none s = nx T (fl T 1 s) := by unfold gTq; rfl
theorem gTq_s {s : Nat × Nat} {i : Nat} : gTq T (some i) s = nx T s := by unfold gTq; rfl
theorem r_t151 (hs : SM h T b) {m : Nat} (hm : m < 6) {o : Option Nat} (ho : ∀ i, o = some i → i < 100) {X : Int64} (x37 : h.2 188 37 = X) (d0 : h.1 190 4 = nI m) : ∃ r g, fX11_readsText_b151 h (nI (6 + m)) (nI (6 + m)) (rI o) = some (r, g) ∧ OK g T (gTs T 59 (nx T (gNw T 1 6 (gTd T 2 (gTq T o (b, 0)))))) r ∧ RTd h g ∧ (r = true → g.1 190 4 = nI (m + 1) ∧ (∀ i, i ≠ 4 → g.1 190 i = h.1 190 i) ∧ (∀ i, g.1 197 i = if i = 6 + m then nI (o.getD 0) else h.1 197 i) ∧ (∀ i, g.1 198 i = if i = 6 + m then nI (gTn T (gTd T 2 (gTq T o (b, 0))).1) else h.1 198 i) ∧ (∀ i, g.2 192 i = if i = 6 + m then X else h.2 192 i) ∧ (∀ c, c ≠ 188 → c ≠ 190 → c ≠ 197 → c ≠ 198 → g.1 c = h.1 c) ∧ ∀ c, c ≠ 188 → c ≠ 192 → g.2 c = h.2 c) := by
  have en : nx T (b, 0) = (gTe T b, 0) := by unfold nx; rfl
  have f1 : fr (fun c => c = 197) h (wuI h 197 (6 + m) (rI o)) := fr_wuI rfl
  have s1' := SM_fr hs f1 (by omega) (by omega)
  have r1 : RTd h (wuI h 197 (6 + m) (rI o)) := RTd_I (by omega) (by omega) (dlo_t (by omega) (by omega))
  cases o with
  | none =>
    obtain ⟨g, e1, g9, k1⟩ := r_fails s1' 1
    have hf : (fl T 1 (b, 0)).2 ≠ 0 := fl_ne (by omega)
    rw [gTq_n, nx_f hf, gTd_f hf, gNw_f hf, nx_f hf, gTs_f hf]
    refine ⟨false, g, ?_, ⟨fun q => absurd q hf, fun _ => ⟨rfl, g9⟩⟩, RTd_tr r1 (RTd_K k1), (by intro q; cases q)⟩
    have e1 : fX11_fails (wuI h 197 (6 + m) wno) (nI 1) = some (false, g) := e1
    have er : rI (none : Option Nat) = wno := rfl
    rw [er]
    simp (disch := omega) only [↓reduceIte, wlet, Option.bind_some, true_and, and_true, not_true_eq_false, not_false_eq_true, reduceCtorEq, n0_, n1_, n2_, n3_, n4_, n5_, n6_, n7_, n8_, n9_, n10_, n12_, n16_, n18_, n20_, n21_, n22_, n24_, n25_, n26_, n27_, n28_, n29_, n30_, n31_, n32_, n40_, n41_, n42_, n43_, n45_, n48_, n54_, n57_, n58_, n59_, n60_, n61_, n63_, n96_, n97_, n99_, n100_, n122_, n126_, n200_, n255_, n375_, n400_, n1000_, n2000_, n9999_, n5764801_, n1000000_, n3000_, m1, m2, le_t, le_f, lt_t, lt_f, eq_t, eq_f, no_lt, no_le, le_no, lt_no, eq_no, no_eq, add_no, wib_t, clamp, nI_add, pk_mul, pk_sub, nor_, nand_, ndif_, shl_, sh1_, shr_, tbn, tb0, tb1, les_t, les_f, pk_div, rem_, remv, and31, wu1, wuc, wui, wu2, ws1, wsc, ws2, wv1, n11_, n13_, n14_, n15_, n17_, n19_, n23_, n56_, n64_, fX11_readsText_b151, e1]
  | some i =>
    have hi := ho i rfl
    have er : rI (some i) = nI i := rfl
    rw [er, gTq_s, en]
    obtain ⟨g2, e2, s2, j2⟩ := r_next s1'
    have e2 : fX11_nextToken (wuI h 197 (6 + m) (nI i)) = some g2 := e2
    have j2 : RJ (wuI h 197 (6 + m) (nI i)) g2 := j2
    have r1 : RTd h (wuI h 197 (6 + m) (nI i)) := r1
    obtain ⟨r3, g3, e3, o3, v3, k3⟩ := r_needsBoth s2 (x := 6564799) (i := 2) (lo := 1) (hi := 6) (r_w2 s2) (by omega) (by omega)
    have k2 := RK_J j2
    by_cases q3 : (nx T (gNw T 1 6 (gTd T 2 (gTe T b, 0)))).2 = 0
    · obtain ⟨hr3, s3⟩ := o3.1 q3
      subst hr3
      obtain ⟨v3, y3⟩ := v3 rfl
      have x3 : g3.2 188 37 = X := by rw [y3, j2.2.2 37 (by omega)]; exact x37
      have c3 : ∀ c, c ≠ 188 → g3.1 c = (wuI h 197 (6 + m) (nI i)).1 c ∧ g3.2 c = h.2 c := fun c hc => ⟨by rw [(k3.1 c (by unfold s188; exact hc)).1, (k2.1 c (by unfold s188; exact hc)).1], by rw [(k3.1 c (by unfold s188; exact hc)).2, (k2.1 c (by unfold s188; exact hc)).2]; rfl⟩
      have d3 : g3.1 190 4 = nI m := by rw [(c3 190 (by omega)).1, wuc (by omega)]; exact d0
      let g6 := wuI (wuJ (wuI g3 198 (6 + m) (nI (gTn T (gTd T 2 (gTe T b, 0)).1))) 192 (6 + m) X) 190 4 (nI (m + 1))
      have f6 : fr (fun c => 190 ≤ c ∧ c ≤ 198) g3 g6 := fr_tr (fr_tr (fr_wuI (by omega)) (fr_wuJ (by omega))) (fr_wuI (by omega))
      obtain ⟨r, g, e7, o7, k7⟩ := r_closes (SM_fr s3 f6 (by omega) (by omega))
      rw [← eta0 q3] at o7
      have r6 : RTd g3 g6 := RTd_tr (RTd_tr (RTd_I (by omega) (by omega) (dlo_t (by omega) (by omega))) (RTd_J (by omega) (by omega) (dlo_t (by omega) (by omega)))) (RTd_I (by omega) (by omega) (by unfold dlo; rw [if_pos (by omega)]; omega))
      have c7 : ∀ c, c ≠ 188 → g.1 c = g6.1 c ∧ g.2 c = g6.2 c := fun c hc => ⟨(k7.1 c (by unfold s188; exact hc)).1, (k7.1 c (by unfold s188; exact hc)).2⟩
      refine ⟨r, g, ?_, o7, RTd_tr r1 (RTd_tr (RTd_K (RK_tr k2 k3)) (RTd_tr r6 (RTd_K k7))), fun _ => ⟨?_, fun j hj => ?_, fun j => ?_, fun j => ?_, fun j => ?_, fun c h1 h2 h3 h4 => ?_, fun c h1 h2 => ?_⟩⟩
      · have e7 : fX11_closes (wuI (wuJ (wuI g3 198 (6 + m) (nI (gTn T (gTd T 2 (gTe T b, 0)).1))) 192 (6 + m) X) 190 4 (nI (m + 1))) = some (r, g) := e7
        simp (disch := omega) only [↓reduceIte, wlet, Option.bind_some, true_and, and_true, not_true_eq_false, not_false_eq_true, reduceCtorEq, n0_, n1_, n2_, n3_, n4_, n5_, n6_, n7_, n8_, n9_, n10_, n12_, n16_, n18_, n20_, n21_, n22_, n24_, n25_, n26_, n27_, n28_, n29_, n30_, n31_, n32_, n40_, n41_, n42_, n43_, n45_, n48_, n54_, n57_, n58_, n59_, n60_, n61_, n63_, n96_, n97_, n99_, n100_, n122_, n126_, n200_, n255_, n375_, n400_, n1000_, n2000_, n9999_, n5764801_, n1000000_, n3000_, m1, m2, le_t, le_f, lt_t, lt_f, eq_t, eq_f, no_lt, no_le, le_no, lt_no, eq_no, no_eq, add_no, wib_t, clamp, nI_add, pk_mul, pk_sub, nor_, nand_, ndif_, shl_, sh1_, shr_, tbn, tb0, tb1, les_t, les_f, pk_div, rem_, remv, and31, wu1, wuc, wui, wu2, ws1, wsc, ws2, wv1, n11_, n13_, n14_, n15_, n17_, n19_, n23_, n56_, n64_, fX11_readsText_b151, e2, e3, v3, x3, d3, e7]
      · rw [(c7 190 (by omega)).1]; exact wu1
      · rw [(c7 190 (by omega)).1]
        show (wuI _ 190 4 _).1 190 j = _
        rw [wui hj, wv1, wuc (by omega), (c3 190 (by omega)).1, wuc (by omega)]
      · rw [(c7 197 (by omega)).1]
        show (wuI _ 190 4 _).1 197 j = _
        rw [wuc (by omega), wv1, wuc (by omega), (c3 197 (by omega)).1, wuS, Option.getD_some]
      · rw [(c7 198 (by omega)).1]
        show (wuI _ 190 4 _).1 198 j = _
        rw [wuc (by omega), wv1, wuS, (c3 198 (by omega)).1, wuc (by omega)]
      · rw [(c7 192 (by omega)).2]
        show (wuJ (wuI g3 198 (6 + m) (nI (gTn T (gTd T 2 (gTe T b, 0)).1))) 192 (6 + m) X).2 192 j = _
        by_cases e : j = 6 + m
        · rw [if_pos e, e, wv2]
        · rw [if_neg e, wvi e]
          show g3.2 192 j = _
          rw [(c3 192 (by omega)).2]
      · rw [(c7 c h1).1]
        show (wuI _ 190 4 _).1 c = _
        rw [wuc h2, wv1, wuc h4, (c3 c h1).1, wuc h3]
      · rw [(c7 c h1).2]
        show (wuJ (wuI g3 198 (6 + m) (nI (gTn T (gTd T 2 (gTe T b, 0)).1))) 192 (6 + m) X).2 c = _
        rw [wvc h2]
        show g3.2 c = _
        rw [(c3 c h1).2]
    · obtain ⟨hr3, s9⟩ := o3.2 q3
      subst hr3
      rw [gTs_f q3]
      refine ⟨false, g3, ?_, o3, RTd_tr r1 (RTd_K (RK_tr k2 k3)), (by intro q; cases q)⟩
      simp (disch := omega) only [↓reduceIte, wlet, Option.bind_some, true_and, and_true, not_true_eq_false, not_false_eq_true, reduceCtorEq, n0_, n1_, n2_, n3_, n4_, n5_, n6_, n7_, n8_, n9_, n10_, n12_, n16_, n18_, n20_, n21_, n22_, n24_, n25_, n26_, n27_, n28_, n29_, n30_, n31_, n32_, n40_, n41_, n42_, n43_, n45_, n48_, n54_, n57_, n58_, n59_, n60_, n61_, n63_, n96_, n97_, n99_, n100_, n122_, n126_, n200_, n255_, n375_, n400_, n1000_, n2000_, n9999_, n5764801_, n1000000_, n3000_, m1, m2, le_t, le_f, lt_t, lt_f, eq_t, eq_f, no_lt, no_le, le_no, lt_no, eq_no, no_eq, add_no, wib_t, clamp, nI_add, pk_mul, pk_sub, nor_, nand_, ndif_, shl_, sh1_, shr_, tbn, tb0, tb1, les_t, les_f, pk_div, rem_, remv, and31, wu1, wuc, wui, wu2, ws1, wsc, ws2, wv1, n11_, n13_, n14_, n15_, n17_, n19_, n23_, n56_, n64_, fX11_readsText_b151, e2, e3, Option.isSome_none, Option.isSome_some, Bool.false_eq_true]
theorem gIk_lt {i : Nat} (h : gIk T b = some i) : i < 100 := by
  unfold gIk at h
  repeat (split at h; · cases h; omega)
  cases h
theorem gKd_lt {i : Nat} (h : gKd T b = some i) : i ≤ 3 := by
  unfold gKd at h
  repeat (split at h; · cases h; omega)
  cases h
theorem r_t97 (hs : SM h T b) {m : Nat} (hm : m < 6) {o : Option Nat} (ho : ∀ i, o = some i → i < 100) {X : Int64} (x37 : h.2 188 37 = X) (d0 : h.1 190 4 = nI m) : ∃ r g, fX11_readsText_b97 h (nI (6 + m)) (nI (6 + m)) (rI o) = some (r, g) ∧ OK g T (gTs T 59 (nx T (gNw T 1 6 (gTd T 2 (gTq T (gIk T (gTq T o (b, 0)).1) (gTq T o (b, 0))))))) r ∧ RTd h g ∧ (r = true → g.1 190 4 = nI (m + 1) ∧ (∀ i, i ≠ 4 → g.1 190 i = h.1 190 i) ∧ (∀ i, g.1 196 i = if i = 6 + m then nI (o.getD 0) else h.1 196 i) ∧ (∀ i, g.1 197 i = if i = 6 + m then nI ((gIk T (gTq T o (b, 0)).1).getD 0) else h.1 197 i) ∧ (∀ i, g.1 198 i = if i = 6 + m then nI (gTn T (gTd T 2 (gTq T (gIk T (gTq T o (b, 0)).1) (gTq T o (b, 0)))).1) else h.1 198 i) ∧ (∀ i, g.2 192 i = if i = 6 + m then X else h.2 192 i) ∧ (∀ c, c ≠ 188 → c ≠ 190 → c ≠ 196 → c ≠ 197 → c ≠ 198 → g.1 c = h.1 c) ∧ ∀ c, c ≠ 188 → c ≠ 192 → g.2 c = h.2 c) := by
  have en : nx T (b, 0) = (gTe T b, 0) := by unfold nx; rfl
  have f1 : fr (fun c => c = 196) h (wuI h 196 (6 + m) (rI o)) := fr_wuI rfl
  have s1' := SM_fr hs f1 (by omega) (by omega)
  have r1 : RTd h (wuI h 196 (6 + m) (rI o)) := RTd_I (by omega) (by omega) (dlo_t (by omega) (by omega))
  cases o with
  | none =>
    obtain ⟨g, e1, g9, k1⟩ := r_fails s1' 1
    have hf : (fl T 1 (b, 0)).2 ≠ 0 := fl_ne (by omega)
    rw [gTq_n, nx_f hf, gTq_f hf, gTd_f hf, gNw_f hf, nx_f hf, gTs_f hf]
    refine ⟨false, g, ?_, ⟨fun q => absurd q hf, fun _ => ⟨rfl, g9⟩⟩, RTd_tr r1 (RTd_K k1), (by intro q; cases q)⟩
    have e1 : fX11_fails (wuI h 196 (6 + m) wno) (nI 1) = some (false, g) := e1
    have er : rI (none : Option Nat) = wno := rfl
    rw [er]
    simp (disch := omega) only [↓reduceIte, wlet, Option.bind_some, true_and, and_true, not_true_eq_false, not_false_eq_true, reduceCtorEq, n0_, n1_, n2_, n3_, n4_, n5_, n6_, n7_, n8_, n9_, n10_, n12_, n16_, n18_, n20_, n21_, n22_, n24_, n25_, n26_, n27_, n28_, n29_, n30_, n31_, n32_, n40_, n41_, n42_, n43_, n45_, n48_, n54_, n57_, n58_, n59_, n60_, n61_, n63_, n96_, n97_, n99_, n100_, n122_, n126_, n200_, n255_, n375_, n400_, n1000_, n2000_, n9999_, n5764801_, n1000000_, n3000_, m1, m2, le_t, le_f, lt_t, lt_f, eq_t, eq_f, no_lt, no_le, le_no, lt_no, eq_no, no_eq, add_no, wib_t, clamp, nI_add, pk_mul, pk_sub, nor_, nand_, ndif_, shl_, sh1_, shr_, tbn, tb0, tb1, les_t, les_f, pk_div, rem_, remv, and31, wu1, wuc, wui, wu2, ws1, wsc, ws2, wv1, n11_, n13_, n14_, n15_, n17_, n19_, n23_, n56_, n64_, fX11_readsText_b97, e1]
  | some i =>
    have hi := ho i rfl
    have er : rI (some i) = nI i := rfl
    rw [er, gTq_s, en]
    obtain ⟨g2, e2, s2, j2⟩ := r_next s1'
    have e2 : fX11_nextToken (wuI h 196 (6 + m) (nI i)) = some g2 := e2
    have j2 : RJ (wuI h 196 (6 + m) (nI i)) g2 := j2
    have r1 : RTd h (wuI h 196 (6 + m) (nI i)) := r1
    have k2 := RK_J j2
    have c2 : ∀ c, c ≠ 188 → g2.1 c = (wuI h 196 (6 + m) (nI i)).1 c ∧ g2.2 c = h.2 c := fun c hc => ⟨(k2.1 c (by unfold s188; exact hc)).1, by rw [(k2.1 c (by unfold s188; exact hc)).2]; rfl⟩
    obtain ⟨r, g, e3, o3, r3, gg⟩ := r_t151 s2 hm (o := gIk T (gTe T b)) (fun i q => gIk_lt q) (X := X) (by rw [j2.2.2 37 (by omega)]; exact x37) (by rw [(c2 190 (by omega)).1, wuc (by omega)]; exact d0)
    refine ⟨r, g, ?_, o3, RTd_tr r1 (RTd_tr (RTd_K k2) r3), fun q => ?_⟩
    · have ea : fX11_readsText_b97 h (nI (6 + m)) (nI (6 + m)) (nI i) = fX11_readsText_b151 g2 (nI (6 + m)) (nI (6 + m)) (rI (gIk T (gTe T b))) := by
        have w1 := r_w12 s2
        have w2 := r_w13 s2
        unfold gIk
        cases h1 : gIs T (gTe T b) 12 with
        | true => rw [h1] at w1; simp (disch := omega) only [↓reduceIte, wlet, Option.bind_some, true_and, and_true, not_true_eq_false, not_false_eq_true, reduceCtorEq, n0_, n1_, n2_, n3_, n4_, n5_, n6_, n7_, n8_, n9_, n10_, n12_, n16_, n18_, n20_, n21_, n22_, n24_, n25_, n26_, n27_, n28_, n29_, n30_, n31_, n32_, n40_, n41_, n42_, n43_, n45_, n48_, n54_, n57_, n58_, n59_, n60_, n61_, n63_, n96_, n97_, n99_, n100_, n122_, n126_, n200_, n255_, n375_, n400_, n1000_, n2000_, n9999_, n5764801_, n1000000_, n3000_, m1, m2, le_t, le_f, lt_t, lt_f, eq_t, eq_f, no_lt, no_le, le_no, lt_no, eq_no, no_eq, add_no, wib_t, clamp, nI_add, pk_mul, pk_sub, nor_, nand_, ndif_, shl_, sh1_, shr_, tbn, tb0, tb1, les_t, les_f, pk_div, rem_, remv, and31, wu1, wuc, wui, wu2, ws1, wsc, ws2, wv1, n11_, n13_, n14_, n15_, n17_, n19_, n23_, n56_, n64_, fX11_readsText_b97, e2, w1]; rfl
        | false =>
          rw [h1] at w1
          cases h2 : gIs T (gTe T b) 13 with
          | true => rw [h2] at w2; simp (disch := omega) only [↓reduceIte, wlet, Option.bind_some, true_and, and_true, not_true_eq_false, not_false_eq_true, reduceCtorEq, n0_, n1_, n2_, n3_, n4_, n5_, n6_, n7_, n8_, n9_, n10_, n12_, n16_, n18_, n20_, n21_, n22_, n24_, n25_, n26_, n27_, n28_, n29_, n30_, n31_, n32_, n40_, n41_, n42_, n43_, n45_, n48_, n54_, n57_, n58_, n59_, n60_, n61_, n63_, n96_, n97_, n99_, n100_, n122_, n126_, n200_, n255_, n375_, n400_, n1000_, n2000_, n9999_, n5764801_, n1000000_, n3000_, m1, m2, le_t, le_f, lt_t, lt_f, eq_t, eq_f, no_lt, no_le, le_no, lt_no, eq_no, no_eq, add_no, wib_t, clamp, nI_add, pk_mul, pk_sub, nor_, nand_, ndif_, shl_, sh1_, shr_, tbn, tb0, tb1, les_t, les_f, pk_div, rem_, remv, and31, wu1, wuc, wui, wu2, ws1, wsc, ws2, wv1, n11_, n13_, n14_, n15_, n17_, n19_, n23_, n56_, n64_, fX11_readsText_b97, e2, w1, w2, Option.isSome_none, Option.isSome_some, Bool.false_eq_true]; rfl
          | false => rw [h2] at w2; simp (disch := omega) only [↓reduceIte, wlet, Option.bind_some, true_and, and_true, not_true_eq_false, not_false_eq_true, reduceCtorEq, n0_, n1_, n2_, n3_, n4_, n5_, n6_, n7_, n8_, n9_, n10_, n12_, n16_, n18_, n20_, n21_, n22_, n24_, n25_, n26_, n27_, n28_, n29_, n30_, n31_, n32_, n40_, n41_, n42_, n43_, n45_, n48_, n54_, n57_, n58_, n59_, n60_, n61_, n63_, n96_, n97_, n99_, n100_, n122_, n126_, n200_, n255_, n375_, n400_, n1000_, n2000_, n9999_, n5764801_, n1000000_, n3000_, m1, m2, le_t, le_f, lt_t, lt_f, eq_t, eq_f, no_lt, no_le, le_no, lt_no, eq_no, no_eq, add_no, wib_t, clamp, nI_add, pk_mul, pk_sub, nor_, nand_, ndif_, shl_, sh1_, shr_, tbn, tb0, tb1, les_t, les_f, pk_div, rem_, remv, and31, wu1, wuc, wui, wu2, ws1, wsc, ws2, wv1, n11_, n13_, n14_, n15_, n17_, n19_, n23_, n56_, n64_, fX11_readsText_b97, e2, w1, w2, Option.isSome_none, Option.isSome_some, Bool.false_eq_true]; rfl
      rw [ea]; exact e3
    · obtain ⟨a1, a2, a3, a4, a5, a6, a7⟩ := gg q
      refine ⟨a1, fun j hj => ?_, fun j => ?_, fun j => ?_, fun j => ?_, fun j => ?_, fun c h1 h2 h3 h4 h5 => ?_, fun c h1 h2 => ?_⟩
      · rw [a2 j hj, (c2 190 (by omega)).1, wuc (by omega)]
      · rw [a6 196 (by omega) (by omega) (by omega) (by omega), (c2 196 (by omega)).1, wuS, Option.getD_some]
      · rw [a3, (c2 197 (by omega)).1, wuc (by omega)]
      · rw [a4, (c2 198 (by omega)).1, wuc (by omega)]
      · rw [a5, (c2 192 (by omega)).2]
      · rw [a6 c h1 h2 h4 h5, (c2 c h1).1, wuc h3]
      · rw [a7 c h1 h2, (c2 c h1).2]
end G69

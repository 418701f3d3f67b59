/-! NEW NAMES, KINDS, INKS; a word and its number -/
section G65
variable {h : wSt} {T : gTp} {b f : Nat}
theorem r_nn37 (hs : SM h T b) {lo hi : Nat} (hl : lo < 1000) (hh : hi < 1000) {g : wSt} (e : fX11_needsNumber h (nI lo) (nI hi) = some (true, g)) : g.2 188 37 = h.2 188 37 := by
  have s6 := hs.2.2.2.1
  have s8 := hs.2.2.2.2.2.2.1
  have hb := hs.2.2.1
  have hk0 := gTk_0 hb
  by_cases hk : gTk T b = 2
  · have s8 := s8 hk
    obtain ⟨-, -, hn⟩ := gTk_2 hb hk
    by_cases hq : lo ≤ gTn T b ∧ gTn T b ≤ hi
    · have hs2 : SM (wuI h 188 36 (nI (gTn T b))) T b := SM_u hs (fun j hj => wui (by omega)) rfl (wuc (by omega))
      obtain ⟨g2, e2, s2, f2⟩ := r_next hs2
      have e3 : fX11_needsNumber h (nI lo) (nI hi) = some (true, g2) := by
        simp (disch := omega) only [↓reduceIte, wlet, Option.bind_some, true_and, and_true, not_true_eq_false, not_false_eq_true, reduceCtorEq, n0_, n1_, n2_, n3_, n4_, n5_, n6_, n7_, n8_, n9_, n10_, n12_, n16_, n18_, n20_, n21_, n22_, n24_, n25_, n26_, n27_, n28_, n29_, n30_, n31_, n32_, n40_, n41_, n42_, n43_, n45_, n48_, n54_, n57_, n58_, n59_, n60_, n61_, n63_, n96_, n97_, n99_, n100_, n122_, n126_, n200_, n255_, n375_, n400_, n1000_, n2000_, n9999_, n5764801_, n1000000_, n3000_, m1, m2, le_t, le_f, lt_t, lt_f, eq_t, eq_f, no_lt, no_le, le_no, lt_no, eq_no, no_eq, add_no, wib_t, clamp, nI_add, pk_mul, pk_sub, nor_, nand_, ndif_, shl_, sh1_, shr_, tbn, tb0, tb1, les_t, les_f, pk_div, rem_, remv, and31, wu1, wuc, wui, wu2, ws1, wsc, ws2, wv1, n11_, n13_, n14_, n15_, n17_, n19_, n23_, n56_, n64_, fX11_needsNumber, fX11_within, s6, hk, s8, e2]
      rw [e3] at e
      have e : g2 = g := by injection e with e; injection e
      rw [← e, f2.2.2 37 (by omega)]
      rfl
    · obtain ⟨r, g2, e2, o, -, -⟩ := r_needsNumber hs hl hh
      rw [e] at e2
      have e2 : true = r := by injection e2 with e2; injection e2
      have : (nx T (gNw T lo hi (b, 0))).2 ≠ 0 := by
        rw [nx_2]; intro q; obtain ⟨-, -, q1, q2, -⟩ := gNw_2 q; exact hq ⟨q1, q2⟩
      have := (o.2 this).1
      rw [← e2] at this; cases this
  · obtain ⟨r, g2, e2, o, -, -⟩ := r_needsNumber hs hl hh
    rw [e] at e2
    have e2 : true = r := by injection e2 with e2; injection e2
    have : (nx T (gNw T lo hi (b, 0))).2 ≠ 0 := by
      rw [nx_2]; intro q; obtain ⟨-, q1, -⟩ := gNw_2 q; exact hk q1
    have := (o.2 this).1
    rw [← e2] at this; cases this
theorem r_needsBoth (hs : SM h T b) {x : Int64} {i lo hi : Nat} (hx : fX11_isWord h x = some (gIs T b i)) (hl : lo < 1000) (hh : hi < 1000) : ∃ r g, fX11_needsBoth h x (nI lo) (nI hi) = some (r, g) ∧ OK g T (nx T (gNw T lo hi (gTd T i (b, 0)))) r ∧ (r = true → g.1 188 36 = nI (gTn T (gTd T i (b, 0)).1) ∧ g.2 188 37 = h.2 188 37) ∧ RK h g := by
  unfold gTd
  cases hq : gIs T b i with
  | true =>
    rw [hq] at hx
    rw [if_pos (show true = true from rfl)]
    obtain ⟨g1, e1, s1', j1⟩ := r_next hs
    have en : nx T (b, 0) = (gTe T b, 0) := by unfold nx; rfl
    obtain ⟨r, g, e2, o2, v2, k2⟩ := r_needsNumber s1' hl hh
    rw [en]
    refine ⟨r, g, ?_, o2, fun q => ⟨v2 q, ?_⟩, RK_tr (RK_J j1) k2⟩
    · simp (disch := omega) only [↓reduceIte, wlet, Option.bind_some, true_and, and_true, not_true_eq_false, not_false_eq_true, reduceCtorEq, n0_, n1_, n2_, n3_, n4_, n5_, n6_, n7_, n8_, n9_, n10_, n12_, n16_, n18_, n20_, n21_, n22_, n24_, n25_, n26_, n27_, n28_, n29_, n30_, n31_, n32_, n40_, n41_, n42_, n43_, n45_, n48_, n54_, n57_, n58_, n59_, n60_, n61_, n63_, n96_, n97_, n99_, n100_, n122_, n126_, n200_, n255_, n375_, n400_, n1000_, n2000_, n9999_, n5764801_, n1000000_, n3000_, m1, m2, le_t, le_f, lt_t, lt_f, eq_t, eq_f, no_lt, no_le, le_no, lt_no, eq_no, no_eq, add_no, wib_t, clamp, nI_add, pk_mul, pk_sub, nor_, nand_, ndif_, shl_, sh1_, shr_, tbn, tb0, tb1, les_t, les_f, pk_div, rem_, remv, and31, wu1, wuc, wui, wu2, ws1, wsc, ws2, wv1, n11_, n13_, n14_, n15_, n17_, n19_, n23_, n56_, n64_, fX11_needsBoth, hx, e1, e2]
    · rw [q] at e2
      rw [r_nn37 s1' hl hh e2, j1.2.2 37 (by omega)]
  | false =>
    rw [hq] at hx
    rw [if_neg (show ¬ false = true by decide)]
    obtain ⟨g, e2, g9, k2⟩ := r_fails hs 1
    have hf : (fl T 1 (b, 0)).2 ≠ 0 := fl_ne (by omega)
    rw [gNw_f hf, nx_f hf]
    refine ⟨false, g, ?_, ⟨fun q => absurd q hf, fun _ => ⟨rfl, g9⟩⟩, (by intro q; cases q), k2⟩
    simp (disch := omega) only [↓reduceIte, wlet, Option.bind_some, true_and, and_true, not_true_eq_false, not_false_eq_true, reduceCtorEq, n0_, n1_, n2_, n3_, n4_, n5_, n6_, n7_, n8_, n9_, n10_, n12_, n16_, n18_, n20_, n21_, n22_, n24_, n25_, n26_, n27_, n28_, n29_, n30_, n31_, n32_, n40_, n41_, n42_, n43_, n45_, n48_, n54_, n57_, n58_, n59_, n60_, n61_, n63_, n96_, n97_, n99_, n100_, n122_, n126_, n200_, n255_, n375_, n400_, n1000_, n2000_, n9999_, n5764801_, n1000000_, n3000_, m1, m2, le_t, le_f, lt_t, lt_f, eq_t, eq_f, no_lt, no_le, le_no, lt_no, eq_no, no_eq, add_no, wib_t, clamp, nI_add, pk_mul, pk_sub, nor_, nand_, ndif_, shl_, sh1_, shr_, tbn, tb0, tb1, les_t, les_f, pk_div, rem_, remv, and31, wu1, wuc, wui, wu2, ws1, wsc, ws2, wv1, n11_, n13_, n14_, n15_, n17_, n19_, n23_, n56_, n64_, fX11_needsBoth, hx, e2, Option.isSome_none, Option.isSome_some, Bool.false_eq_true]
theorem r_needsNew (hs : SM h T b) {nm nt : Nat → List Nat} {n m : Nat} (h0 : h.1 190 3 = nI n) (hn : ∀ i, i < n → WN (nm i) ∧ h.2 191 (3 + i) = lN (eN 27 (nm i))) (hg : n ≤ 3) (h1 : h.1 190 4 = nI m) (hm : ∀ i, i < m → WN (nt i) ∧ h.2 192 (6 + i) = lN (eN 27 (nt i))) (hg2 : m ≤ 6) : ∃ r g, fX11_needsNew h = some (r, g) ∧ OK g T (gNew T nm n nt m (b, 0)) r ∧ (r = true → g.2 188 37 = lN (eN 27 (gTw T b)) ∧ WN (gTw T b)) ∧ RK h g := by
  have e1 := r_isKept hs
  unfold gNew
  cases hq : gNa T b with
  | false =>
    rw [hq] at e1
    rw [if_neg (show ¬ false = true by decide), nx_f (fl_ne (by omega))]
    obtain ⟨g, e2, g9, f2⟩ := r_fails hs 1
    refine ⟨false, g, ?_, ⟨fun q => absurd q (fl_ne (by omega)), fun _ => ⟨rfl, g9⟩⟩, (by intro q; cases q), f2⟩
    simp (disch := omega) only [↓reduceIte, wlet, Option.bind_some, true_and, and_true, not_true_eq_false, not_false_eq_true, reduceCtorEq, n0_, n1_, n2_, n3_, n4_, n5_, n6_, n7_, n8_, n9_, n10_, n12_, n16_, n18_, n20_, n21_, n22_, n24_, n25_, n26_, n27_, n28_, n29_, n30_, n31_, n32_, n40_, n41_, n42_, n43_, n45_, n48_, n54_, n57_, n58_, n59_, n60_, n61_, n63_, n96_, n97_, n99_, n100_, n122_, n126_, n200_, n255_, n375_, n400_, n1000_, n2000_, n9999_, n5764801_, n1000000_, n3000_, m1, m2, le_t, le_f, lt_t, lt_f, eq_t, eq_f, no_lt, no_le, le_no, lt_no, eq_no, no_eq, add_no, wib_t, clamp, nI_add, pk_mul, pk_sub, nor_, nand_, ndif_, shl_, sh1_, shr_, tbn, tb0, tb1, les_t, les_f, pk_div, rem_, remv, and31, wu1, wuc, wui, wu2, ws1, wsc, ws2, wv1, n11_, n13_, n14_, n15_, n17_, n19_, n23_, n56_, n64_, fX11_needsNew, e1, e2, Bool.not_false, Option.isSome_none, Option.isSome_some, Bool.false_eq_true]
  | true =>
    rw [hq] at e1
    rw [if_pos (show true = true from rfl)]
    have hk := gNa_1 hq
    have h7 := hs.2.2.2.2.2.2.2 hk
    have hw := gTw_W hs.2.2.1 hk
    have e2 := r_skinNamed (r := 1) (w := gTw T b) (by omega) h0 hn hg hw h7
    have e3 := r_textNamed (r := 1) (w := gTw T b) (by omega) h1 hm hg2 hw h7
    obtain ⟨g3, e4, g9, f3⟩ := r_fails hs 3
    cases hx : gNf nm n (gTw T b) with
    | some i =>
      have hi := gNf_lt hx
      rw [hx] at e2
      rw [Option.isNone_some, Bool.false_and, if_neg (show ¬ false = true by decide), nx_f (fl_ne (by omega))]
      refine ⟨false, g3, ?_, ⟨fun q => absurd q (fl_ne (by omega)), fun _ => ⟨rfl, g9⟩⟩, (by intro q; cases q), f3⟩
      simp (disch := omega) only [↓reduceIte, wlet, Option.bind_some, true_and, and_true, not_true_eq_false, not_false_eq_true, reduceCtorEq, n0_, n1_, n2_, n3_, n4_, n5_, n6_, n7_, n8_, n9_, n10_, n12_, n16_, n18_, n20_, n21_, n22_, n24_, n25_, n26_, n27_, n28_, n29_, n30_, n31_, n32_, n40_, n41_, n42_, n43_, n45_, n48_, n54_, n57_, n58_, n59_, n60_, n61_, n63_, n96_, n97_, n99_, n100_, n122_, n126_, n200_, n255_, n375_, n400_, n1000_, n2000_, n9999_, n5764801_, n1000000_, n3000_, m1, m2, le_t, le_f, lt_t, lt_f, eq_t, eq_f, no_lt, no_le, le_no, lt_no, eq_no, no_eq, add_no, wib_t, clamp, nI_add, pk_mul, pk_sub, nor_, nand_, ndif_, shl_, sh1_, shr_, tbn, tb0, tb1, les_t, les_f, pk_div, rem_, remv, and31, wu1, wuc, wui, wu2, ws1, wsc, ws2, wv1, n11_, n13_, n14_, n15_, n17_, n19_, n23_, n56_, n64_, fX11_needsNew, fX11_needsNew_b29, e1, e2, e4, rI, Bool.not_true, Option.isSome_none, Option.isSome_some, Bool.false_eq_true]
    | none =>
      rw [hx] at e2
      cases hy : gNf nt m (gTw T b) with
      | some i =>
        have hi := gNf_lt hy
        rw [hy] at e3
        rw [Option.isNone_some, Bool.and_false, if_neg (show ¬ false = true by decide), nx_f (fl_ne (by omega))]
        refine ⟨false, g3, ?_, ⟨fun q => absurd q (fl_ne (by omega)), fun _ => ⟨rfl, g9⟩⟩, (by intro q; cases q), f3⟩
        simp (disch := omega) only [↓reduceIte, wlet, Option.bind_some, true_and, and_true, not_true_eq_false, not_false_eq_true, reduceCtorEq, n0_, n1_, n2_, n3_, n4_, n5_, n6_, n7_, n8_, n9_, n10_, n12_, n16_, n18_, n20_, n21_, n22_, n24_, n25_, n26_, n27_, n28_, n29_, n30_, n31_, n32_, n40_, n41_, n42_, n43_, n45_, n48_, n54_, n57_, n58_, n59_, n60_, n61_, n63_, n96_, n97_, n99_, n100_, n122_, n126_, n200_, n255_, n375_, n400_, n1000_, n2000_, n9999_, n5764801_, n1000000_, n3000_, m1, m2, le_t, le_f, lt_t, lt_f, eq_t, eq_f, no_lt, no_le, le_no, lt_no, eq_no, no_eq, add_no, wib_t, clamp, nI_add, pk_mul, pk_sub, nor_, nand_, ndif_, shl_, sh1_, shr_, tbn, tb0, tb1, les_t, les_f, pk_div, rem_, remv, and31, wu1, wuc, wui, wu2, ws1, wsc, ws2, wv1, n11_, n13_, n14_, n15_, n17_, n19_, n23_, n56_, n64_, fX11_needsNew, fX11_needsNew_b29, e1, e2, e3, e4, rI, Bool.not_true, Option.isSome_none, Option.isSome_some, Bool.false_eq_true]
      | none =>
        rw [hy] at e3
        rw [Option.isNone_none, Bool.and_true, if_pos (show true = true from rfl)]
        have hs2 : SM (wuJ h 188 37 (lN (eN 27 (gTw T b)))) T b := SM_u hs (fun j hj => rfl) (wvi (by omega)) rfl
        obtain ⟨g, e5, s2, f2⟩ := r_next hs2
        refine ⟨true, g, ?_, ⟨fun _ => ⟨rfl, s2⟩, fun q => absurd rfl q⟩, fun _ => ⟨by rw [f2.2.2 37 (by omega)]; exact wv2, hw⟩, RK_tr RK_37 (RK_J f2)⟩
        simp (disch := omega) only [↓reduceIte, wlet, Option.bind_some, true_and, and_true, not_true_eq_false, not_false_eq_true, reduceCtorEq, n0_, n1_, n2_, n3_, n4_, n5_, n6_, n7_, n8_, n9_, n10_, n12_, n16_, n18_, n20_, n21_, n22_, n24_, n25_, n26_, n27_, n28_, n29_, n30_, n31_, n32_, n40_, n41_, n42_, n43_, n45_, n48_, n54_, n57_, n58_, n59_, n60_, n61_, n63_, n96_, n97_, n99_, n100_, n122_, n126_, n200_, n255_, n375_, n400_, n1000_, n2000_, n9999_, n5764801_, n1000000_, n3000_, m1, m2, le_t, le_f, lt_t, lt_f, eq_t, eq_f, no_lt, no_le, le_no, lt_no, eq_no, no_eq, add_no, wib_t, clamp, nI_add, pk_mul, pk_sub, nor_, nand_, ndif_, shl_, sh1_, shr_, tbn, tb0, tb1, les_t, les_f, pk_div, rem_, remv, and31, wu1, wuc, wui, wu2, ws1, wsc, ws2, wv1, n11_, n13_, n14_, n15_, n17_, n19_, n23_, n56_, n64_, fX11_needsNew, e1, e2, e3, h7, e5, rI, Bool.not_true, Option.isSome_none, Option.isSome_some, Bool.false_eq_true]
theorem c_takeNewName {s : Nat × Nat} (hs : SCs h T s) {nm nt : Nat → List Nat} {n m : Nat} (h0 : h.1 16 0 = nI n) (hn : ∀ i, i < n → WN (nm i) ∧ h.2 17 i = lN (eN 32 (nm i))) (hg : n ≤ 3) (h1 : h.1 16 5 = nI m) (hm : ∀ i, i < m → WN (nt i) ∧ h.2 21 i = lN (eN 32 (nt i))) (hg2 : m ≤ 6) : ∃ v g, fX4_takeNewName h 16 = some (v, g) ∧ SCs g T (gNew T nm n nt m s) ∧ fr s1 h g ∧ ((gNew T nm n nt m s).2 = 0 → v = lN (eN 32 (gTw T s.1))) := by
  have e1 := c_isName hs
  have fin : ∀ {g2 : wSt} {s2 : Nat × Nat} (v : Int64), SCs g2 T s2 → ∃ g, fX4_takeNewName_b57 g2 16 v = some (v, g) ∧ SCs g T (nx T s2) ∧ fr s1 g2 g := by
    intro g2 s2 v q
    obtain ⟨g, e2, s3, f3⟩ := c_nxt q
    exact ⟨g, by simp (disch := omega) only [↓reduceIte, wlet, Option.bind_some, true_and, and_true, not_true_eq_false, not_false_eq_true, reduceCtorEq, n0_, n1_, n2_, n3_, n4_, n5_, n6_, n7_, n8_, n9_, n10_, n12_, n16_, n18_, n20_, n21_, n22_, n24_, n25_, n26_, n27_, n28_, n29_, n30_, n31_, n32_, n40_, n41_, n42_, n43_, n45_, n48_, n54_, n57_, n58_, n59_, n60_, n61_, n63_, n96_, n97_, n99_, n100_, n122_, n126_, n200_, n255_, n375_, n400_, n1000_, n2000_, n9999_, n5764801_, n1000000_, n3000_, m1, m2, le_t, le_f, lt_t, lt_f, eq_t, eq_f, no_lt, no_le, le_no, lt_no, eq_no, no_eq, add_no, wib_t, clamp, nI_add, pk_mul, pk_sub, nor_, nand_, ndif_, shl_, sh1_, shr_, tbn, tb0, tb1, les_t, les_f, pk_div, rem_, remv, and31, wu1, wuc, wui, wu2, ws1, wsc, ws2, wv1, n11_, n13_, n14_, n15_, n17_, n19_, n23_, n56_, n64_, fX4_takeNewName_b57, e2], s3, f3⟩
  unfold gNew
  cases hq : gNa T s.1 with
  | false =>
    rw [hq] at e1
    rw [if_neg (show ¬ false = true by decide)]
    obtain ⟨g2, e2, s2, f2⟩ := c_fl hs (k := 1) (by omega) (by omega)
    obtain ⟨g, e3, s3, f3⟩ := fin (h.2 1 6) s2
    refine ⟨h.2 1 6, g, ?_, s3, fr_tr f2 f3, fun q => absurd q (by rw [nx_2]; exact fl_ne (by omega))⟩
    simp (disch := omega) only [↓reduceIte, wlet, Option.bind_some, true_and, and_true, not_true_eq_false, not_false_eq_true, reduceCtorEq, n0_, n1_, n2_, n3_, n4_, n5_, n6_, n7_, n8_, n9_, n10_, n12_, n16_, n18_, n20_, n21_, n22_, n24_, n25_, n26_, n27_, n28_, n29_, n30_, n31_, n32_, n40_, n41_, n42_, n43_, n45_, n48_, n54_, n57_, n58_, n59_, n60_, n61_, n63_, n96_, n97_, n99_, n100_, n122_, n126_, n200_, n255_, n375_, n400_, n1000_, n2000_, n9999_, n5764801_, n1000000_, n3000_, m1, m2, le_t, le_f, lt_t, lt_f, eq_t, eq_f, no_lt, no_le, le_no, lt_no, eq_no, no_eq, add_no, wib_t, clamp, nI_add, pk_mul, pk_sub, nor_, nand_, ndif_, shl_, sh1_, shr_, tbn, tb0, tb1, les_t, les_f, pk_div, rem_, remv, and31, wu1, wuc, wui, wu2, ws1, wsc, ws2, wv1, n11_, n13_, n14_, n15_, n17_, n19_, n23_, n56_, n64_, fX4_takeNewName, e1, e2, e3, Option.isSome_none, Option.isSome_some, Bool.false_eq_true]
  | true =>
    rw [hq] at e1
    rw [if_pos (show true = true from rfl)]
    have hk := gNa_1 hq
    have h6 := hs.2.2.2.2.2.2.2.2.2 hk
    have hw := gTw_W hs.2.2.1 hk
    have e2 := c_indexOf (g := 3) (w := gTw T s.1) hn hg (by omega) hw
    have e3 := c_indexOf (g := 6) (w := gTw T s.1) hm hg2 (by omega) hw
    obtain ⟨g3, e4, s4, f4⟩ := c_fl hs (k := 3) (by omega) (by omega)
    obtain ⟨g5, e5, s5, f5⟩ := fin (lN (eN 32 (gTw T s.1))) s4
    cases hx : gNf nm n (gTw T s.1) with
    | some i =>
      have hi := gNf_lt hx
      rw [hx] at e2
      rw [Option.isNone_some, Bool.false_and, if_neg (show ¬ false = true by decide)]
      refine ⟨_, g5, ?_, s5, fr_tr f4 f5, fun _ => rfl⟩
      simp (disch := omega) only [↓reduceIte, wlet, Option.bind_some, true_and, and_true, not_true_eq_false, not_false_eq_true, reduceCtorEq, n0_, n1_, n2_, n3_, n4_, n5_, n6_, n7_, n8_, n9_, n10_, n12_, n16_, n18_, n20_, n21_, n22_, n24_, n25_, n26_, n27_, n28_, n29_, n30_, n31_, n32_, n40_, n41_, n42_, n43_, n45_, n48_, n54_, n57_, n58_, n59_, n60_, n61_, n63_, n96_, n97_, n99_, n100_, n122_, n126_, n200_, n255_, n375_, n400_, n1000_, n2000_, n9999_, n5764801_, n1000000_, n3000_, m1, m2, le_t, le_f, lt_t, lt_f, eq_t, eq_f, no_lt, no_le, le_no, lt_no, eq_no, no_eq, add_no, wib_t, clamp, nI_add, pk_mul, pk_sub, nor_, nand_, ndif_, shl_, sh1_, shr_, tbn, tb0, tb1, les_t, les_f, pk_div, rem_, remv, and31, wu1, wuc, wui, wu2, ws1, wsc, ws2, wv1, n11_, n13_, n14_, n15_, n17_, n19_, n23_, n56_, n64_, fX4_takeNewName, fX4_takeNewName_b52, e1, h0, h6, e2, e4, e5, rI, Nat.reduceAdd]
    | none =>
      rw [hx] at e2
      cases hy : gNf nt m (gTw T s.1) with
      | some i =>
        have hi := gNf_lt hy
        rw [hy] at e3
        rw [Option.isNone_some, Bool.and_false, if_neg (show ¬ false = true by decide)]
        refine ⟨_, g5, ?_, s5, fr_tr f4 f5, fun _ => rfl⟩
        simp (disch := omega) only [↓reduceIte, wlet, Option.bind_some, true_and, and_true, not_true_eq_false, not_false_eq_true, reduceCtorEq, n0_, n1_, n2_, n3_, n4_, n5_, n6_, n7_, n8_, n9_, n10_, n12_, n16_, n18_, n20_, n21_, n22_, n24_, n25_, n26_, n27_, n28_, n29_, n30_, n31_, n32_, n40_, n41_, n42_, n43_, n45_, n48_, n54_, n57_, n58_, n59_, n60_, n61_, n63_, n96_, n97_, n99_, n100_, n122_, n126_, n200_, n255_, n375_, n400_, n1000_, n2000_, n9999_, n5764801_, n1000000_, n3000_, m1, m2, le_t, le_f, lt_t, lt_f, eq_t, eq_f, no_lt, no_le, le_no, lt_no, eq_no, no_eq, add_no, wib_t, clamp, nI_add, pk_mul, pk_sub, nor_, nand_, ndif_, shl_, sh1_, shr_, tbn, tb0, tb1, les_t, les_f, pk_div, rem_, remv, and31, wu1, wuc, wui, wu2, ws1, wsc, ws2, wv1, n11_, n13_, n14_, n15_, n17_, n19_, n23_, n56_, n64_, fX4_takeNewName, fX4_takeNewName_b52, e1, h0, h1, h6, e2, e3, e4, e5, rI, Nat.reduceAdd]
      | none =>
        rw [hy] at e3
        rw [Option.isNone_none, Bool.and_true, if_pos (show true = true from rfl)]
        obtain ⟨g, e6, s6, f6⟩ := fin (lN (eN 32 (gTw T s.1))) hs
        refine ⟨_, g, ?_, s6, f6, fun _ => rfl⟩
        simp (disch := omega) only [↓reduceIte, wlet, Option.bind_some, true_and, and_true, not_true_eq_false, not_false_eq_true, reduceCtorEq, n0_, n1_, n2_, n3_, n4_, n5_, n6_, n7_, n8_, n9_, n10_, n12_, n16_, n18_, n20_, n21_, n22_, n24_, n25_, n26_, n27_, n28_, n29_, n30_, n31_, n32_, n40_, n41_, n42_, n43_, n45_, n48_, n54_, n57_, n58_, n59_, n60_, n61_, n63_, n96_, n97_, n99_, n100_, n122_, n126_, n200_, n255_, n375_, n400_, n1000_, n2000_, n9999_, n5764801_, n1000000_, n3000_, m1, m2, le_t, le_f, lt_t, lt_f, eq_t, eq_f, no_lt, no_le, le_no, lt_no, eq_no, no_eq, add_no, wib_t, clamp, nI_add, pk_mul, pk_sub, nor_, nand_, ndif_, shl_, sh1_, shr_, tbn, tb0, tb1, les_t, les_f, pk_div, rem_, remv, and31, wu1, wuc, wui, wu2, ws1, wsc, ws2, wv1, n11_, n13_, n14_, n15_, n17_, n19_, n23_, n56_, n64_, fX4_takeNewName, e1, h0, h1, h6, e2, e3, e6, rI, Nat.reduceAdd]
/-- the kind a word names; the ink -/
def gKd (T : gTp) (b : Nat) : Option Nat := if gIs T b 15 then some 1 else if gIs T b 16 then some 2 else if gIs T b 17 then some 3 else if gIs T b 14 then some 0 else none
def gIk (T : gTp) (b : Nat) : Option Nat := if gIs T b 12 then some 1 else if gIs T b 13 then some 0 else none
def gTq (T : gTp) (o : Option Nat) (s : Nat × Nat) : Nat × Nat := nx T (if o.isSome then s else fl T 1 s)
theorem c_takeKind {s : Nat × Nat} (hs : SCs h T s) : ∃ g, fX4_takeKind h = some (nI ((gKd T s.1).getD 0), g) ∧ SCs g T (gTq T (gKd T s.1) s) ∧ fr s1 h g := by
  have e1 := c_isWord hs (i := 15) (by omega) (by omega)
  have e2 := c_isWord hs (i := 16) (by omega) (by omega)
  have e3 := c_isWord hs (i := 17) (by omega) (by omega)
  have e4 := c_isWord hs (i := 14) (by omega) (by omega)
  obtain ⟨g, e5, s5, f5⟩ := c_nxt hs
  obtain ⟨g2, e6, s6, f6⟩ := c_fl hs (k := 1) (by omega) (by omega)
  obtain ⟨g3, e7, s7, f7⟩ := c_nxt s6
  unfold gTq gKd
  cases h1 : gIs T s.1 15 with
  | true => exact ⟨g, by rw [h1] at e1; simp (disch := omega) only [↓reduceIte, wlet, Option.bind_some, true_and, and_true, not_true_eq_false, not_false_eq_true, reduceCtorEq, n0_, n1_, n2_, n3_, n4_, n5_, n6_, n7_, n8_, n9_, n10_, n12_, n16_, n18_, n20_, n21_, n22_, n24_, n25_, n26_, n27_, n28_, n29_, n30_, n31_, n32_, n40_, n41_, n42_, n43_, n45_, n48_, n54_, n57_, n58_, n59_, n60_, n61_, n63_, n96_, n97_, n99_, n100_, n122_, n126_, n200_, n255_, n375_, n400_, n1000_, n2000_, n9999_, n5764801_, n1000000_, n3000_, m1, m2, le_t, le_f, lt_t, lt_f, eq_t, eq_f, no_lt, no_le, le_no, lt_no, eq_no, no_eq, add_no, wib_t, clamp, nI_add, pk_mul, pk_sub, nor_, nand_, ndif_, shl_, sh1_, shr_, tbn, tb0, tb1, les_t, les_f, pk_div, rem_, remv, and31, wu1, wuc, wui, wu2, ws1, wsc, ws2, wv1, n11_, n13_, n14_, n15_, n17_, n19_, n23_, n56_, n64_, fX4_takeKind, fX4_takeKind_b58, e1, e5, Option.getD_some], s5, f5⟩
  | false =>
    rw [h1] at e1
    cases h2 : gIs T s.1 16 with
    | true => exact ⟨g, by rw [h2] at e2; simp (disch := omega) only [↓reduceIte, wlet, Option.bind_some, true_and, and_true, not_true_eq_false, not_false_eq_true, reduceCtorEq, n0_, n1_, n2_, n3_, n4_, n5_, n6_, n7_, n8_, n9_, n10_, n12_, n16_, n18_, n20_, n21_, n22_, n24_, n25_, n26_, n27_, n28_, n29_, n30_, n31_, n32_, n40_, n41_, n42_, n43_, n45_, n48_, n54_, n57_, n58_, n59_, n60_, n61_, n63_, n96_, n97_, n99_, n100_, n122_, n126_, n200_, n255_, n375_, n400_, n1000_, n2000_, n9999_, n5764801_, n1000000_, n3000_, m1, m2, le_t, le_f, lt_t, lt_f, eq_t, eq_f, no_lt, no_le, le_no, lt_no, eq_no, no_eq, add_no, wib_t, clamp, nI_add, pk_mul, pk_sub, nor_, nand_, ndif_, shl_, sh1_, shr_, tbn, tb0, tb1, les_t, les_f, pk_div, rem_, remv, and31, wu1, wuc, wui, wu2, ws1, wsc, ws2, wv1, n11_, n13_, n14_, n15_, n17_, n19_, n23_, n56_, n64_, fX4_takeKind, fX4_takeKind_b58, e1, e2, e5, Option.getD_some, Option.isSome_none, Option.isSome_some, Bool.false_eq_true], s5, f5⟩
    | false =>
      rw [h2] at e2
      cases h3 : gIs T s.1 17 with
      | true => exact ⟨g, by rw [h3] at e3; simp (disch := omega) only [↓reduceIte, wlet, Option.bind_some, true_and, and_true, not_true_eq_false, not_false_eq_true, reduceCtorEq, n0_, n1_, n2_, n3_, n4_, n5_, n6_, n7_, n8_, n9_, n10_, n12_, n16_, n18_, n20_, n21_, n22_, n24_, n25_, n26_, n27_, n28_, n29_, n30_, n31_, n32_, n40_, n41_, n42_, n43_, n45_, n48_, n54_, n57_, n58_, n59_, n60_, n61_, n63_, n96_, n97_, n99_, n100_, n122_, n126_, n200_, n255_, n375_, n400_, n1000_, n2000_, n9999_, n5764801_, n1000000_, n3000_, m1, m2, le_t, le_f, lt_t, lt_f, eq_t, eq_f, no_lt, no_le, le_no, lt_no, eq_no, no_eq, add_no, wib_t, clamp, nI_add, pk_mul, pk_sub, nor_, nand_, ndif_, shl_, sh1_, shr_, tbn, tb0, tb1, les_t, les_f, pk_div, rem_, remv, and31, wu1, wuc, wui, wu2, ws1, wsc, ws2, wv1, n11_, n13_, n14_, n15_, n17_, n19_, n23_, n56_, n64_, fX4_takeKind, fX4_takeKind_b58, e1, e2, e3, e5, Option.getD_some, Option.isSome_none, Option.isSome_some, Bool.false_eq_true], s5, f5⟩
      | false =>
        rw [h3] at e3
        cases h4 : gIs T s.1 14 with
        | true => exact ⟨g, by rw [h4] at e4; simp (disch := omega) only [↓reduceIte, wlet, Option.bind_some, true_and, and_true, not_true_eq_false, not_false_eq_true, reduceCtorEq, n0_, n1_, n2_, n3_, n4_, n5_, n6_, n7_, n8_, n9_, n10_, n12_, n16_, n18_, n20_, n21_, n22_, n24_, n25_, n26_, n27_, n28_, n29_, n30_, n31_, n32_, n40_, n41_, n42_, n43_, n45_, n48_, n54_, n57_, n58_, n59_, n60_, n61_, n63_, n96_, n97_, n99_, n100_, n122_, n126_, n200_, n255_, n375_, n400_, n1000_, n2000_, n9999_, n5764801_, n1000000_, n3000_, m1, m2, le_t, le_f, lt_t, lt_f, eq_t, eq_f, no_lt, no_le, le_no, lt_no, eq_no, no_eq, add_no, wib_t, clamp, nI_add, pk_mul, pk_sub, nor_, nand_, ndif_, shl_, sh1_, shr_, tbn, tb0, tb1, les_t, les_f, pk_div, rem_, remv, and31, wu1, wuc, wui, wu2, ws1, wsc, ws2, wv1, n11_, n13_, n14_, n15_, n17_, n19_, n23_, n56_, n64_, fX4_takeKind, fX4_takeKind_b58, e1, e2, e3, e4, e5, Option.getD_some, Option.isSome_none, Option.isSome_some, Bool.false_eq_true], s5, f5⟩
        | false => exact ⟨g3, by rw [h4] at e4; simp (disch := omega) only [↓reduceIte, wlet, Option.bind_some, true_and, and_true, not_true_eq_false, not_false_eq_true, reduceCtorEq, n0_, n1_, n2_, n3_, n4_, n5_, n6_, n7_, n8_, n9_, n10_, n12_, n16_, n18_, n20_, n21_, n22_, n24_, n25_, n26_, n27_, n28_, n29_, n30_, n31_, n32_, n40_, n41_, n42_, n43_, n45_, n48_, n54_, n57_, n58_, n59_, n60_, n61_, n63_, n96_, n97_, n99_, n100_, n122_, n126_, n200_, n255_, n375_, n400_, n1000_, n2000_, n9999_, n5764801_, n1000000_, n3000_, m1, m2, le_t, le_f, lt_t, lt_f, eq_t, eq_f, no_lt, no_le, le_no, lt_no, eq_no, no_eq, add_no, wib_t, clamp, nI_add, pk_mul, pk_sub, nor_, nand_, ndif_, shl_, sh1_, shr_, tbn, tb0, tb1, les_t, les_f, pk_div, rem_, remv, and31, wu1, wuc, wui, wu2, ws1, wsc, ws2, wv1, n11_, n13_, n14_, n15_, n17_, n19_, n23_, n56_, n64_, fX4_takeKind, fX4_takeKind_b58, e1, e2, e3, e4, e6, e7, Option.getD_none, Option.isSome_none, Option.isSome_some, Bool.false_eq_true], s7, fr_tr f6 f7⟩
theorem c_takeInk {s : Nat × Nat} (hs : SCs h T s) : ∃ g, fX4_takeInk h = some (nI ((gIk T s.1).getD 0), g) ∧ SCs g T (gTq T (gIk T s.1) s) ∧ fr s1 h g := by
  have e1 := c_isWord hs (i := 12) (by omega) (by omega)
  have e2 := c_isWord hs (i := 13) (by omega) (by omega)
  obtain ⟨g, e5, s5, f5⟩ := c_nxt hs
  obtain ⟨g2, e6, s6, f6⟩ := c_fl hs (k := 1) (by omega) (by omega)
  obtain ⟨g3, e7, s7, f7⟩ := c_nxt s6
  have b1 : wb true = nI 1 := rfl
  have b0 : wb false = nI 0 := rfl
  unfold gTq gIk
  cases h1 : gIs T s.1 12 with
  | true => exact ⟨g, by rw [h1] at e1; simp (disch := omega) only [↓reduceIte, wlet, Option.bind_some, true_and, and_true, not_true_eq_false, not_false_eq_true, reduceCtorEq, n0_, n1_, n2_, n3_, n4_, n5_, n6_, n7_, n8_, n9_, n10_, n12_, n16_, n18_, n20_, n21_, n22_, n24_, n25_, n26_, n27_, n28_, n29_, n30_, n31_, n32_, n40_, n41_, n42_, n43_, n45_, n48_, n54_, n57_, n58_, n59_, n60_, n61_, n63_, n96_, n97_, n99_, n100_, n122_, n126_, n200_, n255_, n375_, n400_, n1000_, n2000_, n9999_, n5764801_, n1000000_, n3000_, m1, m2, le_t, le_f, lt_t, lt_f, eq_t, eq_f, no_lt, no_le, le_no, lt_no, eq_no, no_eq, add_no, wib_t, clamp, nI_add, pk_mul, pk_sub, nor_, nand_, ndif_, shl_, sh1_, shr_, tbn, tb0, tb1, les_t, les_f, pk_div, rem_, remv, and31, wu1, wuc, wui, wu2, ws1, wsc, ws2, wv1, n11_, n13_, n14_, n15_, n17_, n19_, n23_, n56_, n64_, fX4_takeInk, fX4_takeInk_b25, e1, e5, b1, Option.getD_some], s5, f5⟩
  | false =>
    rw [h1] at e1
    cases h2 : gIs T s.1 13 with
    | true => exact ⟨g, by rw [h2] at e2; simp (disch := omega) only [↓reduceIte, wlet, Option.bind_some, true_and, and_true, not_true_eq_false, not_false_eq_true, reduceCtorEq, n0_, n1_, n2_, n3_, n4_, n5_, n6_, n7_, n8_, n9_, n10_, n12_, n16_, n18_, n20_, n21_, n22_, n24_, n25_, n26_, n27_, n28_, n29_, n30_, n31_, n32_, n40_, n41_, n42_, n43_, n45_, n48_, n54_, n57_, n58_, n59_, n60_, n61_, n63_, n96_, n97_, n99_, n100_, n122_, n126_, n200_, n255_, n375_, n400_, n1000_, n2000_, n9999_, n5764801_, n1000000_, n3000_, m1, m2, le_t, le_f, lt_t, lt_f, eq_t, eq_f, no_lt, no_le, le_no, lt_no, eq_no, no_eq, add_no, wib_t, clamp, nI_add, pk_mul, pk_sub, nor_, nand_, ndif_, shl_, sh1_, shr_, tbn, tb0, tb1, les_t, les_f, pk_div, rem_, remv, and31, wu1, wuc, wui, wu2, ws1, wsc, ws2, wv1, n11_, n13_, n14_, n15_, n17_, n19_, n23_, n56_, n64_, fX4_takeInk, fX4_takeInk_b25, e1, e2, e5, b0, Option.getD_some, Option.isSome_none, Option.isSome_some, Bool.false_eq_true], s5, f5⟩
    | false => exact ⟨g3, by rw [h2] at e2; simp (disch := omega) only [↓reduceIte, wlet, Option.bind_some, true_and, and_true, not_true_eq_false, not_false_eq_true, reduceCtorEq, n0_, n1_, n2_, n3_, n4_, n5_, n6_, n7_, n8_, n9_, n10_, n12_, n16_, n18_, n20_, n21_, n22_, n24_, n25_, n26_, n27_, n28_, n29_, n30_, n31_, n32_, n40_, n41_, n42_, n43_, n45_, n48_, n54_, n57_, n58_, n59_, n60_, n61_, n63_, n96_, n97_, n99_, n100_, n122_, n126_, n200_, n255_, n375_, n400_, n1000_, n2000_, n9999_, n5764801_, n1000000_, n3000_, m1, m2, le_t, le_f, lt_t, lt_f, eq_t, eq_f, no_lt, no_le, le_no, lt_no, eq_no, no_eq, add_no, wib_t, clamp, nI_add, pk_mul, pk_sub, nor_, nand_, ndif_, shl_, sh1_, shr_, tbn, tb0, tb1, les_t, les_f, pk_div, rem_, remv, and31, wu1, wuc, wui, wu2, ws1, wsc, ws2, wv1, n11_, n13_, n14_, n15_, n17_, n19_, n23_, n56_, n64_, fX4_takeInk, fX4_takeInk_b25, e1, e2, e6, e7, b0, Option.getD_none, Option.isSome_none, Option.isSome_some, Bool.false_eq_true], s7, fr_tr f6 f7⟩
end G65

/-! LOOKING UP NAMES; what a reader needs next -/
section G61
variable {h : wSt} {T : gTp} {b f : Nat}
theorem nmq {c : Nat} (h0 : 27 ≤ c) (h1 : c ≤ 32) {a w : List Nat} (ha : WN a) (hw : WN w) : (lN (eN c a) = lN (eN c w)) ↔ a = w := by
  rw [pk_lEQ (eN_b h0 h1 ha.2.1 ha.2.2) (eN_b h0 h1 hw.2.1 hw.2.2)]
  exact ⟨fun q => eN_inj h0 ha.2.2 hw.2.2 q, fun q => by rw [q]⟩
theorem c_indexOf {nm : Nat → List Nat} {a n g : Nat} {w : List Nat} (hn : ∀ i, i < n → WN (nm i) ∧ h.2 a i = lN (eN 32 (nm i))) (hg : n ≤ g) (hg2 : g < 100) (hw : WN w) : fX4_indexOf h (lN (eN 32 w)) a g (nI n) = some (rI (gNf nm n w)) := by
  obtain ⟨e, he, ee⟩ := wit_find (b := fun v : Int32 => fX4_indexOf_l3 h a g (lN (eN 32 w)) (nI n) v) (fun i => decide (nm i = w)) n (fun i v => v = nI i) (fun o e => e = (match o with | none => Sum.inl () | some i => Sum.inr (nI i)))
    (by
      rintro i v hi rfl
      obtain ⟨n1, n2⟩ := hn i hi
      have q := nmq (c := 32) (by omega) (by omega) n1 hw
      have hof : Int32.ofNat g = nI g := rfl
      refine ⟨fun hq => ⟨.inr (nI i), ?_, rfl⟩, fun hq => ⟨nI (i + 1), ?_, rfl⟩⟩
      · have hq : nm i = w := by simpa using hq
        have q2 := q.mpr hq
        rw [hq] at n2
        simp (disch := omega) only [↓reduceIte, wlet, Option.bind_some, true_and, and_true, not_true_eq_false, not_false_eq_true, reduceCtorEq, n0_, n1_, n2_, n3_, n4_, n5_, n6_, n7_, n8_, n9_, n10_, n12_, n16_, n18_, n20_, n21_, n22_, n24_, n25_, n26_, n27_, n28_, n29_, n30_, n31_, n32_, n40_, n41_, n42_, n43_, n45_, n48_, n54_, n57_, n58_, n59_, n60_, n61_, n63_, n96_, n97_, n99_, n100_, n122_, n126_, n200_, n255_, n375_, n400_, n1000_, n2000_, n9999_, n5764801_, n1000000_, n3000_, m1, m2, le_t, le_f, lt_t, lt_f, eq_t, eq_f, no_lt, no_le, le_no, lt_no, eq_no, no_eq, add_no, wib_t, clamp, nI_add, pk_mul, pk_sub, nor_, nand_, ndif_, shl_, sh1_, shr_, tbn, tb0, tb1, les_t, les_f, pk_div, rem_, remv, and31, wu1, wuc, wui, wu2, ws1, wsc, ws2, wv1, n11_, n13_, n14_, n15_, n17_, n19_, n23_, n56_, n64_, fX4_indexOf_l3, n2, hof]
      · have hq : ¬ nm i = w := by simpa using hq
        have q2 : ¬ lN (eN 32 (nm i)) = lN (eN 32 w) := fun z => hq (q.mp z)
        simp (disch := omega) only [↓reduceIte, wlet, Option.bind_some, true_and, and_true, not_true_eq_false, not_false_eq_true, reduceCtorEq, n0_, n1_, n2_, n3_, n4_, n5_, n6_, n7_, n8_, n9_, n10_, n12_, n16_, n18_, n20_, n21_, n22_, n24_, n25_, n26_, n27_, n28_, n29_, n30_, n31_, n32_, n40_, n41_, n42_, n43_, n45_, n48_, n54_, n57_, n58_, n59_, n60_, n61_, n63_, n96_, n97_, n99_, n100_, n122_, n126_, n200_, n255_, n375_, n400_, n1000_, n2000_, n9999_, n5764801_, n1000000_, n3000_, m1, m2, le_t, le_f, lt_t, lt_f, eq_t, eq_f, no_lt, no_le, le_no, lt_no, eq_no, no_eq, add_no, wib_t, clamp, nI_add, pk_mul, pk_sub, nor_, nand_, ndif_, shl_, sh1_, shr_, tbn, tb0, tb1, les_t, les_f, pk_div, rem_, remv, and31, wu1, wuc, wui, wu2, ws1, wsc, ws2, wv1, n11_, n13_, n14_, n15_, n17_, n19_, n23_, n56_, n64_, fX4_indexOf_l3, n2, hof, q2])
    (by
      rintro v rfl
      refine ⟨.inl (), ?_, rfl⟩
      simp (disch := omega) only [↓reduceIte, wlet, Option.bind_some, true_and, and_true, not_true_eq_false, not_false_eq_true, reduceCtorEq, n0_, n1_, n2_, n3_, n4_, n5_, n6_, n7_, n8_, n9_, n10_, n12_, n16_, n18_, n20_, n21_, n22_, n24_, n25_, n26_, n27_, n28_, n29_, n30_, n31_, n32_, n40_, n41_, n42_, n43_, n45_, n48_, n54_, n57_, n58_, n59_, n60_, n61_, n63_, n96_, n97_, n99_, n100_, n122_, n126_, n200_, n255_, n375_, n400_, n1000_, n2000_, n9999_, n5764801_, n1000000_, n3000_, m1, m2, le_t, le_f, lt_t, lt_f, eq_t, eq_f, no_lt, no_le, le_no, lt_no, eq_no, no_eq, add_no, wib_t, clamp, nI_add, pk_mul, pk_sub, nor_, nand_, ndif_, shl_, sh1_, shr_, tbn, tb0, tb1, les_t, les_f, pk_div, rem_, remv, and31, wu1, wuc, wui, wu2, ws1, wsc, ws2, wv1, n11_, n13_, n14_, n15_, n17_, n19_, n23_, n56_, n64_, fX4_indexOf_l3])
    (N := 3000) (by omega) (v0 := nI 0) rfl
  unfold fX4_indexOf gNf
  rw [n0_, he, ee]
  cases gFn (fun i => decide (nm i = w)) n 0 <;> rfl
theorem r_skinNamed {nm : Nat → List Nat} {n r : Nat} {w : List Nat} (hr : r < 2) (h0 : h.1 190 (3 * r) = nI n) (hn : ∀ i, i < n → WN (nm i) ∧ h.2 191 (3 * r + i) = lN (eN 27 (nm i))) (hg : n ≤ 3) (hw : WN w) (h7 : h.2 188 7 = lN (eN 27 w)) : fX11_skinNamed h (nI r) = some (rI (gNf nm n w)) := by
  obtain ⟨e, he, ee⟩ := wit_find (b := fun v : Int32 => fX11_skinNamed_l4 h (nI r) v) (fun i => decide (nm i = w)) n (fun i v => v = nI (3 * r + i)) (fun o e => e = (match o with | none => Sum.inl () | some i => Sum.inr (nI i)))
    (by
      rintro i v hi rfl
      obtain ⟨n1, n2⟩ := hn i hi
      have q := nmq (c := 27) (by omega) (by omega) n1 hw
      refine ⟨fun hq => ⟨.inr (nI i), ?_, rfl⟩, fun hq => ⟨nI (3 * r + (i + 1)), ?_, rfl⟩⟩
      · have hq : nm i = w := by simpa using hq
        rw [hq] at n2
        simp (disch := omega) only [↓reduceIte, wlet, Option.bind_some, true_and, and_true, not_true_eq_false, not_false_eq_true, reduceCtorEq, n0_, n1_, n2_, n3_, n4_, n5_, n6_, n7_, n8_, n9_, n10_, n12_, n16_, n18_, n20_, n21_, n22_, n24_, n25_, n26_, n27_, n28_, n29_, n30_, n31_, n32_, n40_, n41_, n42_, n43_, n45_, n48_, n54_, n57_, n58_, n59_, n60_, n61_, n63_, n96_, n97_, n99_, n100_, n122_, n126_, n200_, n255_, n375_, n400_, n1000_, n2000_, n9999_, n5764801_, n1000000_, n3000_, m1, m2, le_t, le_f, lt_t, lt_f, eq_t, eq_f, no_lt, no_le, le_no, lt_no, eq_no, no_eq, add_no, wib_t, clamp, nI_add, pk_mul, pk_sub, nor_, nand_, ndif_, shl_, sh1_, shr_, tbn, tb0, tb1, les_t, les_f, pk_div, rem_, remv, and31, wu1, wuc, wui, wu2, ws1, wsc, ws2, wv1, n11_, n13_, n14_, n15_, n17_, n19_, n23_, n56_, n64_, fX11_skinNamed_l4, h0, n2, h7, Nat.add_zero]
        rw [show 3 * r + i - 3 * r = i by omega]
      · have hq : ¬ nm i = w := by simpa using hq
        have q2 : ¬ lN (eN 27 (nm i)) = lN (eN 27 w) := fun z => hq (q.mp z)
        simp (disch := omega) only [↓reduceIte, wlet, Option.bind_some, true_and, and_true, not_true_eq_false, not_false_eq_true, reduceCtorEq, n0_, n1_, n2_, n3_, n4_, n5_, n6_, n7_, n8_, n9_, n10_, n12_, n16_, n18_, n20_, n21_, n22_, n24_, n25_, n26_, n27_, n28_, n29_, n30_, n31_, n32_, n40_, n41_, n42_, n43_, n45_, n48_, n54_, n57_, n58_, n59_, n60_, n61_, n63_, n96_, n97_, n99_, n100_, n122_, n126_, n200_, n255_, n375_, n400_, n1000_, n2000_, n9999_, n5764801_, n1000000_, n3000_, m1, m2, le_t, le_f, lt_t, lt_f, eq_t, eq_f, no_lt, no_le, le_no, lt_no, eq_no, no_eq, add_no, wib_t, clamp, nI_add, pk_mul, pk_sub, nor_, nand_, ndif_, shl_, sh1_, shr_, tbn, tb0, tb1, les_t, les_f, pk_div, rem_, remv, and31, wu1, wuc, wui, wu2, ws1, wsc, ws2, wv1, n11_, n13_, n14_, n15_, n17_, n19_, n23_, n56_, n64_, fX11_skinNamed_l4, h0, n2, h7, q2, Nat.add_zero]
        rfl)
    (by
      rintro v rfl
      refine ⟨.inl (), ?_, rfl⟩
      simp (disch := omega) only [↓reduceIte, wlet, Option.bind_some, true_and, and_true, not_true_eq_false, not_false_eq_true, reduceCtorEq, n0_, n1_, n2_, n3_, n4_, n5_, n6_, n7_, n8_, n9_, n10_, n12_, n16_, n18_, n20_, n21_, n22_, n24_, n25_, n26_, n27_, n28_, n29_, n30_, n31_, n32_, n40_, n41_, n42_, n43_, n45_, n48_, n54_, n57_, n58_, n59_, n60_, n61_, n63_, n96_, n97_, n99_, n100_, n122_, n126_, n200_, n255_, n375_, n400_, n1000_, n2000_, n9999_, n5764801_, n1000000_, n3000_, m1, m2, le_t, le_f, lt_t, lt_f, eq_t, eq_f, no_lt, no_le, le_no, lt_no, eq_no, no_eq, add_no, wib_t, clamp, nI_add, pk_mul, pk_sub, nor_, nand_, ndif_, shl_, sh1_, shr_, tbn, tb0, tb1, les_t, les_f, pk_div, rem_, remv, and31, wu1, wuc, wui, wu2, ws1, wsc, ws2, wv1, n11_, n13_, n14_, n15_, n17_, n19_, n23_, n56_, n64_, fX11_skinNamed_l4, h0, Nat.add_zero])
    (N := 3000) (by omega) (v0 := nI (3 * r)) rfl
  unfold fX11_skinNamed gNf
  rw [n3_, pk_mul, he, ee]
  cases gFn (fun i => decide (nm i = w)) n 0 <;> rfl
theorem r_textNamed {nm : Nat → List Nat} {n r : Nat} {w : List Nat} (hr : r < 2) (h0 : h.1 190 (3 * r + 1) = nI n) (hn : ∀ i, i < n → WN (nm i) ∧ h.2 192 (6 * r + i) = lN (eN 27 (nm i))) (hg : n ≤ 6) (hw : WN w) (h7 : h.2 188 7 = lN (eN 27 w)) : fX11_textNamed h (nI r) = some (rI (gNf nm n w)) := by
  obtain ⟨e, he, ee⟩ := wit_find (b := fun v : Int32 => fX11_textNamed_l5 h (nI r) v) (fun i => decide (nm i = w)) n (fun i v => v = nI (6 * r + i)) (fun o e => e = (match o with | none => Sum.inl () | some i => Sum.inr (nI i)))
    (by
      rintro i v hi rfl
      obtain ⟨n1, n2⟩ := hn i hi
      have q := nmq (c := 27) (by omega) (by omega) n1 hw
      refine ⟨fun hq => ⟨.inr (nI i), ?_, rfl⟩, fun hq => ⟨nI (6 * r + (i + 1)), ?_, rfl⟩⟩
      · have hq : nm i = w := by simpa using hq
        rw [hq] at n2
        simp (disch := omega) only [↓reduceIte, wlet, Option.bind_some, true_and, and_true, not_true_eq_false, not_false_eq_true, reduceCtorEq, n0_, n1_, n2_, n3_, n4_, n5_, n6_, n7_, n8_, n9_, n10_, n12_, n16_, n18_, n20_, n21_, n22_, n24_, n25_, n26_, n27_, n28_, n29_, n30_, n31_, n32_, n40_, n41_, n42_, n43_, n45_, n48_, n54_, n57_, n58_, n59_, n60_, n61_, n63_, n96_, n97_, n99_, n100_, n122_, n126_, n200_, n255_, n375_, n400_, n1000_, n2000_, n9999_, n5764801_, n1000000_, n3000_, m1, m2, le_t, le_f, lt_t, lt_f, eq_t, eq_f, no_lt, no_le, le_no, lt_no, eq_no, no_eq, add_no, wib_t, clamp, nI_add, pk_mul, pk_sub, nor_, nand_, ndif_, shl_, sh1_, shr_, tbn, tb0, tb1, les_t, les_f, pk_div, rem_, remv, and31, wu1, wuc, wui, wu2, ws1, wsc, ws2, wv1, n11_, n13_, n14_, n15_, n17_, n19_, n23_, n56_, n64_, fX11_textNamed_l5, h0, n2, h7]
        rw [show 6 * r + i - 6 * r = i by omega]
      · have hq : ¬ nm i = w := by simpa using hq
        have q2 : ¬ lN (eN 27 (nm i)) = lN (eN 27 w) := fun z => hq (q.mp z)
        simp (disch := omega) only [↓reduceIte, wlet, Option.bind_some, true_and, and_true, not_true_eq_false, not_false_eq_true, reduceCtorEq, n0_, n1_, n2_, n3_, n4_, n5_, n6_, n7_, n8_, n9_, n10_, n12_, n16_, n18_, n20_, n21_, n22_, n24_, n25_, n26_, n27_, n28_, n29_, n30_, n31_, n32_, n40_, n41_, n42_, n43_, n45_, n48_, n54_, n57_, n58_, n59_, n60_, n61_, n63_, n96_, n97_, n99_, n100_, n122_, n126_, n200_, n255_, n375_, n400_, n1000_, n2000_, n9999_, n5764801_, n1000000_, n3000_, m1, m2, le_t, le_f, lt_t, lt_f, eq_t, eq_f, no_lt, no_le, le_no, lt_no, eq_no, no_eq, add_no, wib_t, clamp, nI_add, pk_mul, pk_sub, nor_, nand_, ndif_, shl_, sh1_, shr_, tbn, tb0, tb1, les_t, les_f, pk_div, rem_, remv, and31, wu1, wuc, wui, wu2, ws1, wsc, ws2, wv1, n11_, n13_, n14_, n15_, n17_, n19_, n23_, n56_, n64_, fX11_textNamed_l5, h0, n2, h7, q2]
        rfl)
    (by
      rintro v rfl
      refine ⟨.inl (), ?_, rfl⟩
      simp (disch := omega) only [↓reduceIte, wlet, Option.bind_some, true_and, and_true, not_true_eq_false, not_false_eq_true, reduceCtorEq, n0_, n1_, n2_, n3_, n4_, n5_, n6_, n7_, n8_, n9_, n10_, n12_, n16_, n18_, n20_, n21_, n22_, n24_, n25_, n26_, n27_, n28_, n29_, n30_, n31_, n32_, n40_, n41_, n42_, n43_, n45_, n48_, n54_, n57_, n58_, n59_, n60_, n61_, n63_, n96_, n97_, n99_, n100_, n122_, n126_, n200_, n255_, n375_, n400_, n1000_, n2000_, n9999_, n5764801_, n1000000_, n3000_, m1, m2, le_t, le_f, lt_t, lt_f, eq_t, eq_f, no_lt, no_le, le_no, lt_no, eq_no, no_eq, add_no, wib_t, clamp, nI_add, pk_mul, pk_sub, nor_, nand_, ndif_, shl_, sh1_, shr_, tbn, tb0, tb1, les_t, les_f, pk_div, rem_, remv, and31, wu1, wuc, wui, wu2, ws1, wsc, ws2, wv1, n11_, n13_, n14_, n15_, n17_, n19_, n23_, n56_, n64_, fX11_textNamed_l5, h0])
    (N := 3000) (by omega) (v0 := nI (6 * r)) rfl
  unfold fX11_textNamed gNf
  rw [n6_, pk_mul, he, ee]
  cases gFn (fun i => decide (nm i = w)) n 0 <;> rfl
theorem gNf_lt {nm : Nat → List Nat} {n i : Nat} {w : List Nat} (h : gNf nm n w = some i) : i < n := by have := (gFn_some h).2.1; omega
theorem gNa_1 (h : gNa T b = true) : gTk T b = 1 := by
  unfold gNa at h
  simp only [Bool.and_eq_true, decide_eq_true_eq] at h
  exact h.1
/-- a told name, this side: its number if there is no fault -/
def gTv (T : gTp) (a : Nat → List Nat) (n : Nat) (s : Nat × Nat) : Option Nat := if (gTo T a n s).2 = 0 then gNf a n (gTw T s.1) else none
theorem c_takeTold {s : Nat × Nat} (hs : SCs h T s) {nm : Nat → List Nat} {a n g : Nat} (hn : ∀ i, i < n → WN (nm i) ∧ h.2 a i = lN (eN 32 (nm i))) (hg : n ≤ g) (hg2 : g < 100) : ∃ h2, fX4_takeTold h a g (nI n) = some (rI (gTv T nm n s), h2) ∧ SCs h2 T (gTo T nm n s) ∧ fr s1 h h2 := by
  have e1 := c_isName hs
  have fin : ∀ {g2 : wSt} {s2 : Nat × Nat} (x : Option Nat), SCs g2 T s2 → ∃ h2, fX4_takeTold_b37 g2 a g (rI x) = some (rI (if (nx T s2).2 = 0 then x else none), h2) ∧ SCs h2 T (nx T s2) ∧ fr s1 g2 h2 := by
    intro g2 s2 x hg2
    obtain ⟨h2, e2, s3, f3⟩ := c_nxt hg2
    have e4 := c_isSound s3
    refine ⟨h2, ?_, s3, f3⟩
    by_cases hq : (nx T s2).2 = 0
    · rw [decide_eq_true hq] at e4
      rw [if_pos hq]
      simp (disch := omega) only [↓reduceIte, wlet, Option.bind_some, true_and, and_true, not_true_eq_false, not_false_eq_true, reduceCtorEq, n0_, n1_, n2_, n3_, n4_, n5_, n6_, n7_, n8_, n9_, n10_, n12_, n16_, n18_, n20_, n21_, n22_, n24_, n25_, n26_, n27_, n28_, n29_, n30_, n31_, n32_, n40_, n41_, n42_, n43_, n45_, n48_, n54_, n57_, n58_, n59_, n60_, n61_, n63_, n96_, n97_, n99_, n100_, n122_, n126_, n200_, n255_, n375_, n400_, n1000_, n2000_, n9999_, n5764801_, n1000000_, n3000_, m1, m2, le_t, le_f, lt_t, lt_f, eq_t, eq_f, no_lt, no_le, le_no, lt_no, eq_no, no_eq, add_no, wib_t, clamp, nI_add, pk_mul, pk_sub, nor_, nand_, ndif_, shl_, sh1_, shr_, tbn, tb0, tb1, les_t, les_f, pk_div, rem_, remv, and31, wu1, wuc, wui, wu2, ws1, wsc, ws2, wv1, n11_, n13_, n14_, n15_, n17_, n19_, n23_, n56_, n64_, fX4_takeTold_b37, e2, e4]
    · rw [decide_eq_false hq] at e4
      rw [if_neg hq]
      simp (disch := omega) only [↓reduceIte, wlet, Option.bind_some, true_and, and_true, not_true_eq_false, not_false_eq_true, reduceCtorEq, n0_, n1_, n2_, n3_, n4_, n5_, n6_, n7_, n8_, n9_, n10_, n12_, n16_, n18_, n20_, n21_, n22_, n24_, n25_, n26_, n27_, n28_, n29_, n30_, n31_, n32_, n40_, n41_, n42_, n43_, n45_, n48_, n54_, n57_, n58_, n59_, n60_, n61_, n63_, n96_, n97_, n99_, n100_, n122_, n126_, n200_, n255_, n375_, n400_, n1000_, n2000_, n9999_, n5764801_, n1000000_, n3000_, m1, m2, le_t, le_f, lt_t, lt_f, eq_t, eq_f, no_lt, no_le, le_no, lt_no, eq_no, no_eq, add_no, wib_t, clamp, nI_add, pk_mul, pk_sub, nor_, nand_, ndif_, shl_, sh1_, shr_, tbn, tb0, tb1, les_t, les_f, pk_div, rem_, remv, and31, wu1, wuc, wui, wu2, ws1, wsc, ws2, wv1, n11_, n13_, n14_, n15_, n17_, n19_, n23_, n56_, n64_, fX4_takeTold_b37, e2, e4, rI, Option.isSome_none, Option.isSome_some, Bool.false_eq_true]
  unfold gTv
  unfold gTo
  cases hq : gNa T s.1 with
  | false =>
    rw [hq] at e1
    rw [if_neg (show ¬ false = true by decide)]
    obtain ⟨g2, e2, s2, f2⟩ := c_fl hs (k := 1) (by omega) (by omega)
    obtain ⟨h2, e3, s3, f3⟩ := fin none s2
    have hne : ¬ (nx T (fl T 1 s)).2 = 0 := by rw [nx_2]; exact fl_ne (by omega)
    rw [if_neg hne] at e3 ⊢
    refine ⟨h2, ?_, s3, fr_tr f2 f3⟩
    have e3 : fX4_takeTold_b37 g2 a g wno = some (wno, h2) := e3
    simp (disch := omega) only [↓reduceIte, wlet, Option.bind_some, true_and, and_true, not_true_eq_false, not_false_eq_true, reduceCtorEq, n0_, n1_, n2_, n3_, n4_, n5_, n6_, n7_, n8_, n9_, n10_, n12_, n16_, n18_, n20_, n21_, n22_, n24_, n25_, n26_, n27_, n28_, n29_, n30_, n31_, n32_, n40_, n41_, n42_, n43_, n45_, n48_, n54_, n57_, n58_, n59_, n60_, n61_, n63_, n96_, n97_, n99_, n100_, n122_, n126_, n200_, n255_, n375_, n400_, n1000_, n2000_, n9999_, n5764801_, n1000000_, n3000_, m1, m2, le_t, le_f, lt_t, lt_f, eq_t, eq_f, no_lt, no_le, le_no, lt_no, eq_no, no_eq, add_no, wib_t, clamp, nI_add, pk_mul, pk_sub, nor_, nand_, ndif_, shl_, sh1_, shr_, tbn, tb0, tb1, les_t, les_f, pk_div, rem_, remv, and31, wu1, wuc, wui, wu2, ws1, wsc, ws2, wv1, n11_, n13_, n14_, n15_, n17_, n19_, n23_, n56_, n64_, fX4_takeTold, e1, e2, e3, rI, Option.isSome_none, Option.isSome_some, Bool.false_eq_true]
  | true =>
    rw [hq] at e1
    rw [if_pos (show true = true from rfl)]
    have hk := gNa_1 hq
    have h6 := hs.2.2.2.2.2.2.2.2.2 hk
    have hw := gTw_W hs.2.2.1 hk
    have e2 := c_indexOf (w := gTw T s.1) hn hg hg2 hw
    cases hx : gNf nm n (gTw T s.1) with
    | none =>
      rw [hx] at e2
      rw [Option.isSome_none, if_neg (show ¬ false = true by decide)]
      obtain ⟨g2, e3, s2, f2⟩ := c_fl hs (k := 2) (by omega) (by omega)
      obtain ⟨h2, e4, s3, f3⟩ := fin none s2
      rw [ite_self] at e4
      rw [ite_self]
      refine ⟨h2, ?_, s3, fr_tr f2 f3⟩
      have e4 : fX4_takeTold_b37 g2 a g wno = some (wno, h2) := e4
      simp (disch := omega) only [↓reduceIte, wlet, Option.bind_some, true_and, and_true, not_true_eq_false, not_false_eq_true, reduceCtorEq, n0_, n1_, n2_, n3_, n4_, n5_, n6_, n7_, n8_, n9_, n10_, n12_, n16_, n18_, n20_, n21_, n22_, n24_, n25_, n26_, n27_, n28_, n29_, n30_, n31_, n32_, n40_, n41_, n42_, n43_, n45_, n48_, n54_, n57_, n58_, n59_, n60_, n61_, n63_, n96_, n97_, n99_, n100_, n122_, n126_, n200_, n255_, n375_, n400_, n1000_, n2000_, n9999_, n5764801_, n1000000_, n3000_, m1, m2, le_t, le_f, lt_t, lt_f, eq_t, eq_f, no_lt, no_le, le_no, lt_no, eq_no, no_eq, add_no, wib_t, clamp, nI_add, pk_mul, pk_sub, nor_, nand_, ndif_, shl_, sh1_, shr_, tbn, tb0, tb1, les_t, les_f, pk_div, rem_, remv, and31, wu1, wuc, wui, wu2, ws1, wsc, ws2, wv1, n11_, n13_, n14_, n15_, n17_, n19_, n23_, n56_, n64_, fX4_takeTold, e1, h6, e2, e3, e4, rI]
    | some i =>
      have hi := gNf_lt hx
      rw [hx] at e2
      rw [Option.isSome_some, if_pos (show true = true from rfl)]
      obtain ⟨h2, e4, s3, f3⟩ := fin (some i) hs
      refine ⟨h2, ?_, s3, f3⟩
      have e4' : fX4_takeTold_b37 h a g (nI i) = _ := e4
      simp (disch := omega) only [↓reduceIte, wlet, Option.bind_some, true_and, and_true, not_true_eq_false, not_false_eq_true, reduceCtorEq, n0_, n1_, n2_, n3_, n4_, n5_, n6_, n7_, n8_, n9_, n10_, n12_, n16_, n18_, n20_, n21_, n22_, n24_, n25_, n26_, n27_, n28_, n29_, n30_, n31_, n32_, n40_, n41_, n42_, n43_, n45_, n48_, n54_, n57_, n58_, n59_, n60_, n61_, n63_, n96_, n97_, n99_, n100_, n122_, n126_, n200_, n255_, n375_, n400_, n1000_, n2000_, n9999_, n5764801_, n1000000_, n3000_, m1, m2, le_t, le_f, lt_t, lt_f, eq_t, eq_f, no_lt, no_le, le_no, lt_no, eq_no, no_eq, add_no, wib_t, clamp, nI_add, pk_mul, pk_sub, nor_, nand_, ndif_, shl_, sh1_, shr_, tbn, tb0, tb1, les_t, les_f, pk_div, rem_, remv, and31, wu1, wuc, wui, wu2, ws1, wsc, ws2, wv1, n11_, n13_, n14_, n15_, n17_, n19_, n23_, n56_, n64_, fX4_takeTold, e1, h6, e2, rI]
      exact e4'
/-- the other side's outcomes: true and there, or false and why -/
def OK (g : wSt) (T : gTp) (s : Nat × Nat) (r : Bool) : Prop := (s.2 = 0 → r = true ∧ SM g T s.1) ∧ (s.2 ≠ 0 → r = false ∧ g.1 188 9 = nI s.2)
theorem r_closes (hs : SM h T b) : ∃ r g, fX11_closes h = some (r, g) ∧ OK g T (gTs T 59 (b, 0)) r ∧ RK h g := by
  have e1 := r_isSign hs (s := 59) (by omega)
  unfold gTs
  cases hq : gIg T b 59 with
  | true =>
    rw [hq] at e1
    obtain ⟨g, e2, s2, f2⟩ := r_next hs
    rw [if_pos (show true = true from rfl)]
    refine ⟨true, g, ?_, ⟨fun _ => ⟨rfl, s2⟩, fun q => absurd rfl q⟩, RK_J f2⟩
    simp (disch := omega) only [↓reduceIte, wlet, Option.bind_some, true_and, and_true, not_true_eq_false, not_false_eq_true, reduceCtorEq, n0_, n1_, n2_, n3_, n4_, n5_, n6_, n7_, n8_, n9_, n10_, n12_, n16_, n18_, n20_, n21_, n22_, n24_, n25_, n26_, n27_, n28_, n29_, n30_, n31_, n32_, n40_, n41_, n42_, n43_, n45_, n48_, n54_, n57_, n58_, n59_, n60_, n61_, n63_, n96_, n97_, n99_, n100_, n122_, n126_, n200_, n255_, n375_, n400_, n1000_, n2000_, n9999_, n5764801_, n1000000_, n3000_, m1, m2, le_t, le_f, lt_t, lt_f, eq_t, eq_f, no_lt, no_le, le_no, lt_no, eq_no, no_eq, add_no, wib_t, clamp, nI_add, pk_mul, pk_sub, nor_, nand_, ndif_, shl_, sh1_, shr_, tbn, tb0, tb1, les_t, les_f, pk_div, rem_, remv, and31, wu1, wuc, wui, wu2, ws1, wsc, ws2, wv1, n11_, n13_, n14_, n15_, n17_, n19_, n23_, n56_, n64_, fX11_closes, e1, e2]
  | false =>
    rw [hq] at e1
    obtain ⟨g, e2, g9, f2⟩ := r_fails hs 1
    rw [if_neg (show ¬ false = true by decide)]
    refine ⟨false, g, ?_, ⟨fun q => absurd q (fl_ne (by omega)), fun _ => ⟨rfl, g9⟩⟩, f2⟩
    simp (disch := omega) only [↓reduceIte, wlet, Option.bind_some, true_and, and_true, not_true_eq_false, not_false_eq_true, reduceCtorEq, n0_, n1_, n2_, n3_, n4_, n5_, n6_, n7_, n8_, n9_, n10_, n12_, n16_, n18_, n20_, n21_, n22_, n24_, n25_, n26_, n27_, n28_, n29_, n30_, n31_, n32_, n40_, n41_, n42_, n43_, n45_, n48_, n54_, n57_, n58_, n59_, n60_, n61_, n63_, n96_, n97_, n99_, n100_, n122_, n126_, n200_, n255_, n375_, n400_, n1000_, n2000_, n9999_, n5764801_, n1000000_, n3000_, m1, m2, le_t, le_f, lt_t, lt_f, eq_t, eq_f, no_lt, no_le, le_no, lt_no, eq_no, no_eq, add_no, wib_t, clamp, nI_add, pk_mul, pk_sub, nor_, nand_, ndif_, shl_, sh1_, shr_, tbn, tb0, tb1, les_t, les_f, pk_div, rem_, remv, and31, wu1, wuc, wui, wu2, ws1, wsc, ws2, wv1, n11_, n13_, n14_, n15_, n17_, n19_, n23_, n56_, n64_, fX11_closes, e1, e2, Option.isSome_none, Option.isSome_some, Bool.false_eq_true]
theorem r_needsNumber (hs : SM h T b) {lo hi : Nat} (hl : lo < 1000) (hh : hi < 1000) : ∃ r g, fX11_needsNumber h (nI lo) (nI hi) = some (r, g) ∧ OK g T (nx T (gNw T lo hi (b, 0))) r ∧ (r = true → g.1 188 36 = nI (gTn T b)) ∧ RK h g := by
  have s6 := hs.2.2.2.1
  have s8 := hs.2.2.2.2.2.2.1
  have hb := hs.2.2.1
  have hk0 := gTk_0 hb
  unfold gNw
  by_cases hk : gTk T b = 2
  · have s8 := s8 hk
    obtain ⟨-, -, hn⟩ := gTk_2 hb hk
    rw [if_pos (show gTk T (b, 0).1 = 2 from hk)]
    by_cases hq : lo ≤ gTn T b ∧ gTn T b ≤ hi
    · rw [if_pos (show lo ≤ gTn T (b, 0).1 ∧ gTn T (b, 0).1 ≤ hi from hq)]
      have hs2 : SM (wuI h 188 36 (nI (gTn T b))) T b := SM_u hs (fun j hj => wui (by omega)) rfl (wuc (by omega))
      obtain ⟨g, e2, s2, f2⟩ := r_next hs2
      refine ⟨true, g, ?_, ⟨fun _ => ⟨rfl, s2⟩, fun q => absurd rfl q⟩, fun _ => by rw [f2.2.1 36 (by omega) (by omega) (by omega) (by omega), wu1], RK_tr RK_36 (RK_J f2)⟩
      simp (disch := omega) only [↓reduceIte, wlet, Option.bind_some, true_and, and_true, not_true_eq_false, not_false_eq_true, reduceCtorEq, n0_, n1_, n2_, n3_, n4_, n5_, n6_, n7_, n8_, n9_, n10_, n12_, n16_, n18_, n20_, n21_, n22_, n24_, n25_, n26_, n27_, n28_, n29_, n30_, n31_, n32_, n40_, n41_, n42_, n43_, n45_, n48_, n54_, n57_, n58_, n59_, n60_, n61_, n63_, n96_, n97_, n99_, n100_, n122_, n126_, n200_, n255_, n375_, n400_, n1000_, n2000_, n9999_, n5764801_, n1000000_, n3000_, m1, m2, le_t, le_f, lt_t, lt_f, eq_t, eq_f, no_lt, no_le, le_no, lt_no, eq_no, no_eq, add_no, wib_t, clamp, nI_add, pk_mul, pk_sub, nor_, nand_, ndif_, shl_, sh1_, shr_, tbn, tb0, tb1, les_t, les_f, pk_div, rem_, remv, and31, wu1, wuc, wui, wu2, ws1, wsc, ws2, wv1, n11_, n13_, n14_, n15_, n17_, n19_, n23_, n56_, n64_, fX11_needsNumber, fX11_within, s6, hk, s8, e2]
    · rw [if_neg (show ¬ (lo ≤ gTn T (b, 0).1 ∧ gTn T (b, 0).1 ≤ hi) from hq)]
      obtain ⟨g, e2, g9, f2⟩ := r_fails hs 4
      rw [nx_f (fl_ne (by omega))]
      refine ⟨false, g, ?_, ⟨fun q => absurd q (fl_ne (by omega)), fun _ => ⟨rfl, g9⟩⟩, fun q => (by cases q), f2⟩
      by_cases hq2 : gTn T b < lo
      · simp (disch := omega) only [↓reduceIte, wlet, Option.bind_some, true_and, and_true, not_true_eq_false, not_false_eq_true, reduceCtorEq, n0_, n1_, n2_, n3_, n4_, n5_, n6_, n7_, n8_, n9_, n10_, n12_, n16_, n18_, n20_, n21_, n22_, n24_, n25_, n26_, n27_, n28_, n29_, n30_, n31_, n32_, n40_, n41_, n42_, n43_, n45_, n48_, n54_, n57_, n58_, n59_, n60_, n61_, n63_, n96_, n97_, n99_, n100_, n122_, n126_, n200_, n255_, n375_, n400_, n1000_, n2000_, n9999_, n5764801_, n1000000_, n3000_, m1, m2, le_t, le_f, lt_t, lt_f, eq_t, eq_f, no_lt, no_le, le_no, lt_no, eq_no, no_eq, add_no, wib_t, clamp, nI_add, pk_mul, pk_sub, nor_, nand_, ndif_, shl_, sh1_, shr_, tbn, tb0, tb1, les_t, les_f, pk_div, rem_, remv, and31, wu1, wuc, wui, wu2, ws1, wsc, ws2, wv1, n11_, n13_, n14_, n15_, n17_, n19_, n23_, n56_, n64_, fX11_needsNumber, fX11_within, s6, hk, s8, e2, Option.isSome_none, Option.isSome_some, Bool.false_eq_true]
      · simp (disch := omega) only [↓reduceIte, wlet, Option.bind_some, true_and, and_true, not_true_eq_false, not_false_eq_true, reduceCtorEq, n0_, n1_, n2_, n3_, n4_, n5_, n6_, n7_, n8_, n9_, n10_, n12_, n16_, n18_, n20_, n21_, n22_, n24_, n25_, n26_, n27_, n28_, n29_, n30_, n31_, n32_, n40_, n41_, n42_, n43_, n45_, n48_, n54_, n57_, n58_, n59_, n60_, n61_, n63_, n96_, n97_, n99_, n100_, n122_, n126_, n200_, n255_, n375_, n400_, n1000_, n2000_, n9999_, n5764801_, n1000000_, n3000_, m1, m2, le_t, le_f, lt_t, lt_f, eq_t, eq_f, no_lt, no_le, le_no, lt_no, eq_no, no_eq, add_no, wib_t, clamp, nI_add, pk_mul, pk_sub, nor_, nand_, ndif_, shl_, sh1_, shr_, tbn, tb0, tb1, les_t, les_f, pk_div, rem_, remv, and31, wu1, wuc, wui, wu2, ws1, wsc, ws2, wv1, n11_, n13_, n14_, n15_, n17_, n19_, n23_, n56_, n64_, fX11_needsNumber, fX11_within, s6, hk, s8, e2, Option.isSome_none, Option.isSome_some, Bool.false_eq_true]
  · rw [if_neg (show ¬ gTk T (b, 0).1 = 2 from hk)]
    obtain ⟨g, e2, g9, f2⟩ := r_fails hs 1
    rw [nx_f (fl_ne (by omega))]
    refine ⟨false, g, ?_, ⟨fun q => absurd q (fl_ne (by omega)), fun _ => ⟨rfl, g9⟩⟩, fun q => (by cases q), f2⟩
    simp (disch := omega) only [↓reduceIte, wlet, Option.bind_some, true_and, and_true, not_true_eq_false, not_false_eq_true, reduceCtorEq, n0_, n1_, n2_, n3_, n4_, n5_, n6_, n7_, n8_, n9_, n10_, n12_, n16_, n18_, n20_, n21_, n22_, n24_, n25_, n26_, n27_, n28_, n29_, n30_, n31_, n32_, n40_, n41_, n42_, n43_, n45_, n48_, n54_, n57_, n58_, n59_, n60_, n61_, n63_, n96_, n97_, n99_, n100_, n122_, n126_, n200_, n255_, n375_, n400_, n1000_, n2000_, n9999_, n5764801_, n1000000_, n3000_, m1, m2, le_t, le_f, lt_t, lt_f, eq_t, eq_f, no_lt, no_le, le_no, lt_no, eq_no, no_eq, add_no, wib_t, clamp, nI_add, pk_mul, pk_sub, nor_, nand_, ndif_, shl_, sh1_, shr_, tbn, tb0, tb1, les_t, les_f, pk_div, rem_, remv, and31, wu1, wuc, wui, wu2, ws1, wsc, ws2, wv1, n11_, n13_, n14_, n15_, n17_, n19_, n23_, n56_, n64_, fX11_needsNumber, s6, e2]
/-- a told name, the other side -/
theorem r_needsSkin (hs : SM h T b) {nm : Nat → List Nat} {n r : Nat} (hr : r < 2) (h0 : h.1 190 (3 * r) = nI n) (hn : ∀ i, i < n → WN (nm i) ∧ h.2 191 (3 * r + i) = lN (eN 27 (nm i))) (hg : n ≤ 3) : ∃ x g, fX11_needsSkin h (nI r) = some (x, g) ∧ OK g T (gTo T nm n (b, 0)) x ∧ (x = true → g.1 188 36 = rI (gNf nm n (gTw T b))) ∧ RK h g := by
  have e1 := r_isKept hs
  unfold gTo
  cases hq : gNa T b with
  | false =>
    rw [hq] at e1
    rw [if_neg (show ¬ false = true by decide), nx_f (fl_ne (by omega))]
    obtain ⟨g, e2, g9, f2⟩ := r_fails hs 1
    refine ⟨false, g, ?_, ⟨fun q => absurd q (fl_ne (by omega)), fun _ => ⟨rfl, g9⟩⟩, fun q => (by cases q), f2⟩
    simp (disch := omega) only [↓reduceIte, wlet, Option.bind_some, true_and, and_true, not_true_eq_false, not_false_eq_true, reduceCtorEq, n0_, n1_, n2_, n3_, n4_, n5_, n6_, n7_, n8_, n9_, n10_, n12_, n16_, n18_, n20_, n21_, n22_, n24_, n25_, n26_, n27_, n28_, n29_, n30_, n31_, n32_, n40_, n41_, n42_, n43_, n45_, n48_, n54_, n57_, n58_, n59_, n60_, n61_, n63_, n96_, n97_, n99_, n100_, n122_, n126_, n200_, n255_, n375_, n400_, n1000_, n2000_, n9999_, n5764801_, n1000000_, n3000_, m1, m2, le_t, le_f, lt_t, lt_f, eq_t, eq_f, no_lt, no_le, le_no, lt_no, eq_no, no_eq, add_no, wib_t, clamp, nI_add, pk_mul, pk_sub, nor_, nand_, ndif_, shl_, sh1_, shr_, tbn, tb0, tb1, les_t, les_f, pk_div, rem_, remv, and31, wu1, wuc, wui, wu2, ws1, wsc, ws2, wv1, n11_, n13_, n14_, n15_, n17_, n19_, n23_, n56_, n64_, fX11_needsSkin, e1, e2, Bool.not_false, Option.isSome_none, Option.isSome_some, Bool.false_eq_true]
  | true =>
    rw [hq] at e1
    rw [if_pos (show true = true from rfl)]
    have hk := gNa_1 hq
    have h7 := hs.2.2.2.2.2.2.2 hk
    have hw := gTw_W hs.2.2.1 hk
    have e2 := r_skinNamed (w := gTw T b) hr h0 hn hg hw h7
    have hs2 : ∀ x, SM (wuI h 188 36 x) T b := fun x => SM_u hs (fun j hj => wui (by omega)) rfl (wuc (by omega))
    cases hx : gNf nm n (gTw T b) with
    | none =>
      rw [hx] at e2
      rw [Option.isSome_none, if_neg (show ¬ false = true by decide), nx_f (fl_ne (by omega))]
      obtain ⟨g, e3, g9, f2⟩ := r_fails (hs2 wno) 2
      refine ⟨false, g, ?_, ⟨fun q => absurd q (fl_ne (by omega)), fun _ => ⟨rfl, g9⟩⟩, fun q => (by cases q), RK_tr RK_36 f2⟩
      simp (disch := omega) only [↓reduceIte, wlet, Option.bind_some, true_and, and_true, not_true_eq_false, not_false_eq_true, reduceCtorEq, n0_, n1_, n2_, n3_, n4_, n5_, n6_, n7_, n8_, n9_, n10_, n12_, n16_, n18_, n20_, n21_, n22_, n24_, n25_, n26_, n27_, n28_, n29_, n30_, n31_, n32_, n40_, n41_, n42_, n43_, n45_, n48_, n54_, n57_, n58_, n59_, n60_, n61_, n63_, n96_, n97_, n99_, n100_, n122_, n126_, n200_, n255_, n375_, n400_, n1000_, n2000_, n9999_, n5764801_, n1000000_, n3000_, m1, m2, le_t, le_f, lt_t, lt_f, eq_t, eq_f, no_lt, no_le, le_no, lt_no, eq_no, no_eq, add_no, wib_t, clamp, nI_add, pk_mul, pk_sub, nor_, nand_, ndif_, shl_, sh1_, shr_, tbn, tb0, tb1, les_t, les_f, pk_div, rem_, remv, and31, wu1, wuc, wui, wu2, ws1, wsc, ws2, wv1, n11_, n13_, n14_, n15_, n17_, n19_, n23_, n56_, n64_, fX11_needsSkin, e1, e2, e3, rI, Bool.not_true, Option.isSome_none, Option.isSome_some, Bool.false_eq_true]
    | some i =>
      have hi := gNf_lt hx
      rw [hx] at e2
      rw [Option.isSome_some, if_pos (show true = true from rfl)]
      obtain ⟨g, e3, s2, f2⟩ := r_next (hs2 (nI i))
      refine ⟨true, g, ?_, ⟨fun _ => ⟨rfl, s2⟩, fun q => absurd rfl q⟩, fun _ => by rw [f2.2.1 36 (by omega) (by omega) (by omega) (by omega), wu1]; rfl, RK_tr RK_36 (RK_J f2)⟩
      simp (disch := omega) only [↓reduceIte, wlet, Option.bind_some, true_and, and_true, not_true_eq_false, not_false_eq_true, reduceCtorEq, n0_, n1_, n2_, n3_, n4_, n5_, n6_, n7_, n8_, n9_, n10_, n12_, n16_, n18_, n20_, n21_, n22_, n24_, n25_, n26_, n27_, n28_, n29_, n30_, n31_, n32_, n40_, n41_, n42_, n43_, n45_, n48_, n54_, n57_, n58_, n59_, n60_, n61_, n63_, n96_, n97_, n99_, n100_, n122_, n126_, n200_, n255_, n375_, n400_, n1000_, n2000_, n9999_, n5764801_, n1000000_, n3000_, m1, m2, le_t, le_f, lt_t, lt_f, eq_t, eq_f, no_lt, no_le, le_no, lt_no, eq_no, no_eq, add_no, wib_t, clamp, nI_add, pk_mul, pk_sub, nor_, nand_, ndif_, shl_, sh1_, shr_, tbn, tb0, tb1, les_t, les_f, pk_div, rem_, remv, and31, wu1, wuc, wui, wu2, ws1, wsc, ws2, wv1, n11_, n13_, n14_, n15_, n17_, n19_, n23_, n56_, n64_, fX11_needsSkin, e1, e2, e3, rI, Bool.not_true, Option.isSome_none, Option.isSome_some, Bool.false_eq_true]
theorem r_needsText (hs : SM h T b) {nm : Nat → List Nat} {n : Nat} (h0 : h.1 190 1 = nI n) (hn : ∀ i, i < n → WN (nm i) ∧ h.2 192 i = lN (eN 27 (nm i))) (hg : n ≤ 6) : ∃ x g, fX11_needsText h = some (x, g) ∧ OK g T (gTo T nm n (b, 0)) x ∧ (x = true → g.1 188 36 = rI (gNf nm n (gTw T b))) ∧ RK h g := by
  have e1 := r_isKept hs
  unfold gTo
  cases hq : gNa T b with
  | false =>
    rw [hq] at e1
    rw [if_neg (show ¬ false = true by decide), nx_f (fl_ne (by omega))]
    obtain ⟨g, e2, g9, f2⟩ := r_fails hs 1
    refine ⟨false, g, ?_, ⟨fun q => absurd q (fl_ne (by omega)), fun _ => ⟨rfl, g9⟩⟩, fun q => (by cases q), f2⟩
    simp (disch := omega) only [↓reduceIte, wlet, Option.bind_some, true_and, and_true, not_true_eq_false, not_false_eq_true, reduceCtorEq, n0_, n1_, n2_, n3_, n4_, n5_, n6_, n7_, n8_, n9_, n10_, n12_, n16_, n18_, n20_, n21_, n22_, n24_, n25_, n26_, n27_, n28_, n29_, n30_, n31_, n32_, n40_, n41_, n42_, n43_, n45_, n48_, n54_, n57_, n58_, n59_, n60_, n61_, n63_, n96_, n97_, n99_, n100_, n122_, n126_, n200_, n255_, n375_, n400_, n1000_, n2000_, n9999_, n5764801_, n1000000_, n3000_, m1, m2, le_t, le_f, lt_t, lt_f, eq_t, eq_f, no_lt, no_le, le_no, lt_no, eq_no, no_eq, add_no, wib_t, clamp, nI_add, pk_mul, pk_sub, nor_, nand_, ndif_, shl_, sh1_, shr_, tbn, tb0, tb1, les_t, les_f, pk_div, rem_, remv, and31, wu1, wuc, wui, wu2, ws1, wsc, ws2, wv1, n11_, n13_, n14_, n15_, n17_, n19_, n23_, n56_, n64_, fX11_needsText, e1, e2, Bool.not_false, Option.isSome_none, Option.isSome_some, Bool.false_eq_true]
  | true =>
    rw [hq] at e1
    rw [if_pos (show true = true from rfl)]
    have hk := gNa_1 hq
    have h7 := hs.2.2.2.2.2.2.2 hk
    have hw := gTw_W hs.2.2.1 hk
    have e2 := r_textNamed (r := 0) (w := gTw T b) (by omega) (by simpa using h0) (fun i hi => by simpa using hn i hi) hg hw h7
    have hs2 : ∀ x, SM (wuI h 188 36 x) T b := fun x => SM_u hs (fun j hj => wui (by omega)) rfl (wuc (by omega))
    cases hx : gNf nm n (gTw T b) with
    | none =>
      rw [hx] at e2
      rw [Option.isSome_none, if_neg (show ¬ false = true by decide), nx_f (fl_ne (by omega))]
      obtain ⟨g, e3, g9, f2⟩ := r_fails (hs2 wno) 2
      refine ⟨false, g, ?_, ⟨fun q => absurd q (fl_ne (by omega)), fun _ => ⟨rfl, g9⟩⟩, fun q => (by cases q), RK_tr RK_36 f2⟩
      simp (disch := omega) only [↓reduceIte, wlet, Option.bind_some, true_and, and_true, not_true_eq_false, not_false_eq_true, reduceCtorEq, n0_, n1_, n2_, n3_, n4_, n5_, n6_, n7_, n8_, n9_, n10_, n12_, n16_, n18_, n20_, n21_, n22_, n24_, n25_, n26_, n27_, n28_, n29_, n30_, n31_, n32_, n40_, n41_, n42_, n43_, n45_, n48_, n54_, n57_, n58_, n59_, n60_, n61_, n63_, n96_, n97_, n99_, n100_, n122_, n126_, n200_, n255_, n375_, n400_, n1000_, n2000_, n9999_, n5764801_, n1000000_, n3000_, m1, m2, le_t, le_f, lt_t, lt_f, eq_t, eq_f, no_lt, no_le, le_no, lt_no, eq_no, no_eq, add_no, wib_t, clamp, nI_add, pk_mul, pk_sub, nor_, nand_, ndif_, shl_, sh1_, shr_, tbn, tb0, tb1, les_t, les_f, pk_div, rem_, remv, and31, wu1, wuc, wui, wu2, ws1, wsc, ws2, wv1, n11_, n13_, n14_, n15_, n17_, n19_, n23_, n56_, n64_, fX11_needsText, e1, e2, e3, rI, Bool.not_true, Option.isSome_none, Option.isSome_some, Bool.false_eq_true]
    | some i =>
      have hi := gNf_lt hx
      rw [hx] at e2
      rw [Option.isSome_some, if_pos (show true = true from rfl)]
      obtain ⟨g, e3, s2, f2⟩ := r_next (hs2 (nI i))
      refine ⟨true, g, ?_, ⟨fun _ => ⟨rfl, s2⟩, fun q => absurd rfl q⟩, fun _ => by rw [f2.2.1 36 (by omega) (by omega) (by omega) (by omega), wu1]; rfl, RK_tr RK_36 (RK_J f2)⟩
      simp (disch := omega) only [↓reduceIte, wlet, Option.bind_some, true_and, and_true, not_true_eq_false, not_false_eq_true, reduceCtorEq, n0_, n1_, n2_, n3_, n4_, n5_, n6_, n7_, n8_, n9_, n10_, n12_, n16_, n18_, n20_, n21_, n22_, n24_, n25_, n26_, n27_, n28_, n29_, n30_, n31_, n32_, n40_, n41_, n42_, n43_, n45_, n48_, n54_, n57_, n58_, n59_, n60_, n61_, n63_, n96_, n97_, n99_, n100_, n122_, n126_, n200_, n255_, n375_, n400_, n1000_, n2000_, n9999_, n5764801_, n1000000_, n3000_, m1, m2, le_t, le_f, lt_t, lt_f, eq_t, eq_f, no_lt, no_le, le_no, lt_no, eq_no, no_eq, add_no, wib_t, clamp, nI_add, pk_mul, pk_sub, nor_, nand_, ndif_, shl_, sh1_, shr_, tbn, tb0, tb1, les_t, les_f, pk_div, rem_, remv, and31, wu1, wuc, wui, wu2, ws1, wsc, ws2, wv1, n11_, n13_, n14_, n15_, n17_, n19_, n23_, n56_, n64_, fX11_needsText, e1, e2, e3, rI, Bool.not_true, Option.isSome_none, Option.isSome_some, Bool.false_eq_true]
end G61

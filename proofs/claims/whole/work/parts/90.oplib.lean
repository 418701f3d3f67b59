/-! LIBRARY -/
section G90
variable {h g : wSt} {L : gLib} {k : Nat}
theorem ML_lo (a : ML h L) (hW : WL L) (l1 : ∀ c, 190 ≤ c → c ≤ 202 → ∀ j, j < dlo c → g.1 c j = h.1 c j) (l2 : ∀ c, 190 ≤ c → c ≤ 199 → ∀ j, j < dlo c → g.2 c j = h.2 c j) : ML g L := by
  obtain ⟨a1, a2, a3, a4, a5, a6, a7⟩ := a
  have d0 : dlo 190 = 3 := by decide
  have d1 : dlo 191 = 3 := by decide
  have d2 : dlo 192 = 6 := by decide
  have d3 : dlo 193 = 3 := by decide
  have d4 : dlo 194 = 3 := by decide
  have d5 : dlo 195 = 3 := by decide
  have d6 : dlo 196 = 6 := by decide
  have d7 : dlo 197 = 6 := by decide
  have d8 : dlo 198 = 6 := by decide
  have d9 : dlo 199 = 12 := by decide
  have d10 : dlo 200 = 1 := by decide
  have d11 : dlo 201 = 1 := by decide
  have d12 : dlo 202 = 1000 := by decide
  have n1 := hW.1
  have n2 := hW.2.1
  have n3 := hW.2.2.1
  refine ⟨by rw [l1 190 (by omega) (by omega) 0 (by omega)]; exact a1, by rw [l1 190 (by omega) (by omega) 1 (by omega)]; exact a2, by rw [l1 190 (by omega) (by omega) 2 (by omega)]; exact a3, fun i hi => ?_, fun t ht => ?_, fun i hi => ?_, fun zq h3 b1 b2 b3 => a7 zq h3 ?_ ?_ ?_⟩
  · rw [l1 193 (by omega) (by omega) i (by omega), l1 194 (by omega) (by omega) i (by omega), l1 195 (by omega) (by omega) i (by omega), l2 191 (by omega) (by omega) i (by omega)]
    exact a4 i hi
  · rw [l1 196 (by omega) (by omega) t (by omega), l1 197 (by omega) (by omega) t (by omega), l1 198 (by omega) (by omega) t (by omega), l2 192 (by omega) (by omega) t (by omega)]
    exact a5 t ht
  · rw [l1 199 (by omega) (by omega) i (by omega)]
    exact a6 i hi
  · rw [b1, l1 200 (by omega) (by omega) 0 (by omega)]
  · rw [b2, l1 201 (by omega) (by omega) 0 (by omega)]
  · intro i hi
    rw [b3 i hi, l1 202 (by omega) (by omega) i (by omega)]
theorem c_marks (h : wSt) : wit (fun v : (Int32 × wSt) => fX10_library_l66 v.2 v.1) 3000 (nI 0, h) = some (wuI (wuI (wuI (wuI h 136 0 (nI 0)) 149 0 (nI 0)) 162 0 (nI 0)) 175 0 (nI 0)) := by
  have a0 : (fun v : (Int32 × wSt) => fX10_library_l66 v.2 v.1) (nI 0, h) = some (.inl (nI 1, wuI h 136 0 (nI 0))) := by
    show fX10_library_l66 h (nI 0) = _
    simp (disch := omega) only [↓reduceIte, wlet, Option.bind_some, true_and, and_true, not_true_eq_false, not_false_eq_true, reduceCtorEq, n0_, n1_, n2_, n3_, n4_, n5_, n6_, n7_, n8_, n9_, n10_, n12_, n16_, n18_, n20_, n21_, n22_, n24_, n25_, n26_, n27_, n28_, n29_, n30_, n31_, n32_, n40_, n41_, n42_, n43_, n45_, n48_, n54_, n57_, n58_, n59_, n60_, n61_, n63_, n96_, n97_, n99_, n100_, n122_, n126_, n200_, n255_, n375_, n400_, n1000_, n2000_, n9999_, n5764801_, n1000000_, n3000_, m1, m2, le_t, le_f, lt_t, lt_f, eq_t, eq_f, no_lt, no_le, le_no, lt_no, eq_no, no_eq, add_no, wib_t, clamp, nI_add, pk_mul, pk_sub, nor_, nand_, ndif_, shl_, sh1_, shr_, tbn, tb0, tb1, les_t, les_f, pk_div, rem_, remv, and31, wu1, wuc, wui, wu2, ws1, wsc, ws2, wv1, n11_, n13_, n14_, n15_, n17_, n19_, n23_, n56_, n64_, fX10_library_l66, Nat.reduceAdd, Nat.reduceMul]
  have a1 : (fun v : (Int32 × wSt) => fX10_library_l66 v.2 v.1) (nI 1, wuI h 136 0 (nI 0)) = some (.inl (nI 2, wuI (wuI h 136 0 (nI 0)) 149 0 (nI 0))) := by
    show fX10_library_l66 (wuI h 136 0 (nI 0)) (nI 1) = _
    simp (disch := omega) only [↓reduceIte, wlet, Option.bind_some, true_and, and_true, not_true_eq_false, not_false_eq_true, reduceCtorEq, n0_, n1_, n2_, n3_, n4_, n5_, n6_, n7_, n8_, n9_, n10_, n12_, n16_, n18_, n20_, n21_, n22_, n24_, n25_, n26_, n27_, n28_, n29_, n30_, n31_, n32_, n40_, n41_, n42_, n43_, n45_, n48_, n54_, n57_, n58_, n59_, n60_, n61_, n63_, n96_, n97_, n99_, n100_, n122_, n126_, n200_, n255_, n375_, n400_, n1000_, n2000_, n9999_, n5764801_, n1000000_, n3000_, m1, m2, le_t, le_f, lt_t, lt_f, eq_t, eq_f, no_lt, no_le, le_no, lt_no, eq_no, no_eq, add_no, wib_t, clamp, nI_add, pk_mul, pk_sub, nor_, nand_, ndif_, shl_, sh1_, shr_, tbn, tb0, tb1, les_t, les_f, pk_div, rem_, remv, and31, wu1, wuc, wui, wu2, ws1, wsc, ws2, wv1, n11_, n13_, n14_, n15_, n17_, n19_, n23_, n56_, n64_, fX10_library_l66, Nat.reduceAdd, Nat.reduceMul]
  have a2 : (fun v : (Int32 × wSt) => fX10_library_l66 v.2 v.1) (nI 2, wuI (wuI h 136 0 (nI 0)) 149 0 (nI 0)) = some (.inl (nI 3, wuI (wuI (wuI h 136 0 (nI 0)) 149 0 (nI 0)) 162 0 (nI 0))) := by
    show fX10_library_l66 (wuI (wuI h 136 0 (nI 0)) 149 0 (nI 0)) (nI 2) = _
    simp (disch := omega) only [↓reduceIte, wlet, Option.bind_some, true_and, and_true, not_true_eq_false, not_false_eq_true, reduceCtorEq, n0_, n1_, n2_, n3_, n4_, n5_, n6_, n7_, n8_, n9_, n10_, n12_, n16_, n18_, n20_, n21_, n22_, n24_, n25_, n26_, n27_, n28_, n29_, n30_, n31_, n32_, n40_, n41_, n42_, n43_, n45_, n48_, n54_, n57_, n58_, n59_, n60_, n61_, n63_, n96_, n97_, n99_, n100_, n122_, n126_, n200_, n255_, n375_, n400_, n1000_, n2000_, n9999_, n5764801_, n1000000_, n3000_, m1, m2, le_t, le_f, lt_t, lt_f, eq_t, eq_f, no_lt, no_le, le_no, lt_no, eq_no, no_eq, add_no, wib_t, clamp, nI_add, pk_mul, pk_sub, nor_, nand_, ndif_, shl_, sh1_, shr_, tbn, tb0, tb1, les_t, les_f, pk_div, rem_, remv, and31, wu1, wuc, wui, wu2, ws1, wsc, ws2, wv1, n11_, n13_, n14_, n15_, n17_, n19_, n23_, n56_, n64_, fX10_library_l66, Nat.reduceAdd, Nat.reduceMul]
  have a3 : (fun v : (Int32 × wSt) => fX10_library_l66 v.2 v.1) (nI 3, wuI (wuI (wuI h 136 0 (nI 0)) 149 0 (nI 0)) 162 0 (nI 0)) = some (.inl (nI 4, wuI (wuI (wuI (wuI h 136 0 (nI 0)) 149 0 (nI 0)) 162 0 (nI 0)) 175 0 (nI 0))) := by
    show fX10_library_l66 (wuI (wuI (wuI h 136 0 (nI 0)) 149 0 (nI 0)) 162 0 (nI 0)) (nI 3) = _
    simp (disch := omega) only [↓reduceIte, wlet, Option.bind_some, true_and, and_true, not_true_eq_false, not_false_eq_true, reduceCtorEq, n0_, n1_, n2_, n3_, n4_, n5_, n6_, n7_, n8_, n9_, n10_, n12_, n16_, n18_, n20_, n21_, n22_, n24_, n25_, n26_, n27_, n28_, n29_, n30_, n31_, n32_, n40_, n41_, n42_, n43_, n45_, n48_, n54_, n57_, n58_, n59_, n60_, n61_, n63_, n96_, n97_, n99_, n100_, n122_, n126_, n200_, n255_, n375_, n400_, n1000_, n2000_, n9999_, n5764801_, n1000000_, n3000_, m1, m2, le_t, le_f, lt_t, lt_f, eq_t, eq_f, no_lt, no_le, le_no, lt_no, eq_no, no_eq, add_no, wib_t, clamp, nI_add, pk_mul, pk_sub, nor_, nand_, ndif_, shl_, sh1_, shr_, tbn, tb0, tb1, les_t, les_f, pk_div, rem_, remv, and31, wu1, wuc, wui, wu2, ws1, wsc, ws2, wv1, n11_, n13_, n14_, n15_, n17_, n19_, n23_, n56_, n64_, fX10_library_l66, Nat.reduceAdd, Nat.reduceMul]
  have a4 : (fun v : (Int32 × wSt) => fX10_library_l66 v.2 v.1) (nI 4, wuI (wuI (wuI (wuI h 136 0 (nI 0)) 149 0 (nI 0)) 162 0 (nI 0)) 175 0 (nI 0)) = some (.inr (wuI (wuI (wuI (wuI h 136 0 (nI 0)) 149 0 (nI 0)) 162 0 (nI 0)) 175 0 (nI 0))) := by
    show fX10_library_l66 (wuI (wuI (wuI (wuI h 136 0 (nI 0)) 149 0 (nI 0)) 162 0 (nI 0)) 175 0 (nI 0)) (nI 4) = _
    simp (disch := omega) only [↓reduceIte, wlet, Option.bind_some, true_and, and_true, not_true_eq_false, not_false_eq_true, reduceCtorEq, n0_, n1_, n2_, n3_, n4_, n5_, n6_, n7_, n8_, n9_, n10_, n12_, n16_, n18_, n20_, n21_, n22_, n24_, n25_, n26_, n27_, n28_, n29_, n30_, n31_, n32_, n40_, n41_, n42_, n43_, n45_, n48_, n54_, n57_, n58_, n59_, n60_, n61_, n63_, n96_, n97_, n99_, n100_, n122_, n126_, n200_, n255_, n375_, n400_, n1000_, n2000_, n9999_, n5764801_, n1000000_, n3000_, m1, m2, le_t, le_f, lt_t, lt_f, eq_t, eq_f, no_lt, no_le, le_no, lt_no, eq_no, no_eq, add_no, wib_t, clamp, nI_add, pk_mul, pk_sub, nor_, nand_, ndif_, shl_, sh1_, shr_, tbn, tb0, tb1, les_t, les_f, pk_div, rem_, remv, and31, wu1, wuc, wui, wu2, ws1, wsc, ws2, wv1, n11_, n13_, n14_, n15_, n17_, n19_, n23_, n56_, n64_, fX10_library_l66]
  rw [show (3000 : Nat) = 2995 + 1 + 1 + 1 + 1 + 1 from rfl, wt1 a0, wt1 a1, wt1 a2, wt1 a3, wt2 a4]
theorem r_marks (h : wSt) : wit (fun v : (Int32 × wSt) => fX11_library_l46 v.2 v.1) 3000 (nI 0, h) = some (wuI (wuI (wuI (wuI h 230 0 (nI 0)) 230 1 (nI 0)) 230 2 (nI 0)) 230 3 (nI 0)) := by
  have a0 : (fun v : (Int32 × wSt) => fX11_library_l46 v.2 v.1) (nI 0, h) = some (.inl (nI 1, wuI h 230 0 (nI 0))) := by
    show fX11_library_l46 h (nI 0) = _
    simp (disch := omega) only [↓reduceIte, wlet, Option.bind_some, true_and, and_true, not_true_eq_false, not_false_eq_true, reduceCtorEq, n0_, n1_, n2_, n3_, n4_, n5_, n6_, n7_, n8_, n9_, n10_, n12_, n16_, n18_, n20_, n21_, n22_, n24_, n25_, n26_, n27_, n28_, n29_, n30_, n31_, n32_, n40_, n41_, n42_, n43_, n45_, n48_, n54_, n57_, n58_, n59_, n60_, n61_, n63_, n96_, n97_, n99_, n100_, n122_, n126_, n200_, n255_, n375_, n400_, n1000_, n2000_, n9999_, n5764801_, n1000000_, n3000_, m1, m2, le_t, le_f, lt_t, lt_f, eq_t, eq_f, no_lt, no_le, le_no, lt_no, eq_no, no_eq, add_no, wib_t, clamp, nI_add, pk_mul, pk_sub, nor_, nand_, ndif_, shl_, sh1_, shr_, tbn, tb0, tb1, les_t, les_f, pk_div, rem_, remv, and31, wu1, wuc, wui, wu2, ws1, wsc, ws2, wv1, n11_, n13_, n14_, n15_, n17_, n19_, n23_, n56_, n64_, fX11_library_l46, nar_0, Nat.reduceAdd]
  have a1 : (fun v : (Int32 × wSt) => fX11_library_l46 v.2 v.1) (nI 1, wuI h 230 0 (nI 0)) = some (.inl (nI 2, wuI (wuI h 230 0 (nI 0)) 230 1 (nI 0))) := by
    show fX11_library_l46 (wuI h 230 0 (nI 0)) (nI 1) = _
    simp (disch := omega) only [↓reduceIte, wlet, Option.bind_some, true_and, and_true, not_true_eq_false, not_false_eq_true, reduceCtorEq, n0_, n1_, n2_, n3_, n4_, n5_, n6_, n7_, n8_, n9_, n10_, n12_, n16_, n18_, n20_, n21_, n22_, n24_, n25_, n26_, n27_, n28_, n29_, n30_, n31_, n32_, n40_, n41_, n42_, n43_, n45_, n48_, n54_, n57_, n58_, n59_, n60_, n61_, n63_, n96_, n97_, n99_, n100_, n122_, n126_, n200_, n255_, n375_, n400_, n1000_, n2000_, n9999_, n5764801_, n1000000_, n3000_, m1, m2, le_t, le_f, lt_t, lt_f, eq_t, eq_f, no_lt, no_le, le_no, lt_no, eq_no, no_eq, add_no, wib_t, clamp, nI_add, pk_mul, pk_sub, nor_, nand_, ndif_, shl_, sh1_, shr_, tbn, tb0, tb1, les_t, les_f, pk_div, rem_, remv, and31, wu1, wuc, wui, wu2, ws1, wsc, ws2, wv1, n11_, n13_, n14_, n15_, n17_, n19_, n23_, n56_, n64_, fX11_library_l46, nar_0, Nat.reduceAdd]
  have a2 : (fun v : (Int32 × wSt) => fX11_library_l46 v.2 v.1) (nI 2, wuI (wuI h 230 0 (nI 0)) 230 1 (nI 0)) = some (.inl (nI 3, wuI (wuI (wuI h 230 0 (nI 0)) 230 1 (nI 0)) 230 2 (nI 0))) := by
    show fX11_library_l46 (wuI (wuI h 230 0 (nI 0)) 230 1 (nI 0)) (nI 2) = _
    simp (disch := omega) only [↓reduceIte, wlet, Option.bind_some, true_and, and_true, not_true_eq_false, not_false_eq_true, reduceCtorEq, n0_, n1_, n2_, n3_, n4_, n5_, n6_, n7_, n8_, n9_, n10_, n12_, n16_, n18_, n20_, n21_, n22_, n24_, n25_, n26_, n27_, n28_, n29_, n30_, n31_, n32_, n40_, n41_, n42_, n43_, n45_, n48_, n54_, n57_, n58_, n59_, n60_, n61_, n63_, n96_, n97_, n99_, n100_, n122_, n126_, n200_, n255_, n375_, n400_, n1000_, n2000_, n9999_, n5764801_, n1000000_, n3000_, m1, m2, le_t, le_f, lt_t, lt_f, eq_t, eq_f, no_lt, no_le, le_no, lt_no, eq_no, no_eq, add_no, wib_t, clamp, nI_add, pk_mul, pk_sub, nor_, nand_, ndif_, shl_, sh1_, shr_, tbn, tb0, tb1, les_t, les_f, pk_div, rem_, remv, and31, wu1, wuc, wui, wu2, ws1, wsc, ws2, wv1, n11_, n13_, n14_, n15_, n17_, n19_, n23_, n56_, n64_, fX11_library_l46, nar_0, Nat.reduceAdd]
  have a3 : (fun v : (Int32 × wSt) => fX11_library_l46 v.2 v.1) (nI 3, wuI (wuI (wuI h 230 0 (nI 0)) 230 1 (nI 0)) 230 2 (nI 0)) = some (.inl (nI 4, wuI (wuI (wuI (wuI h 230 0 (nI 0)) 230 1 (nI 0)) 230 2 (nI 0)) 230 3 (nI 0))) := by
    show fX11_library_l46 (wuI (wuI (wuI h 230 0 (nI 0)) 230 1 (nI 0)) 230 2 (nI 0)) (nI 3) = _
    simp (disch := omega) only [↓reduceIte, wlet, Option.bind_some, true_and, and_true, not_true_eq_false, not_false_eq_true, reduceCtorEq, n0_, n1_, n2_, n3_, n4_, n5_, n6_, n7_, n8_, n9_, n10_, n12_, n16_, n18_, n20_, n21_, n22_, n24_, n25_, n26_, n27_, n28_, n29_, n30_, n31_, n32_, n40_, n41_, n42_, n43_, n45_, n48_, n54_, n57_, n58_, n59_, n60_, n61_, n63_, n96_, n97_, n99_, n100_, n122_, n126_, n200_, n255_, n375_, n400_, n1000_, n2000_, n9999_, n5764801_, n1000000_, n3000_, m1, m2, le_t, le_f, lt_t, lt_f, eq_t, eq_f, no_lt, no_le, le_no, lt_no, eq_no, no_eq, add_no, wib_t, clamp, nI_add, pk_mul, pk_sub, nor_, nand_, ndif_, shl_, sh1_, shr_, tbn, tb0, tb1, les_t, les_f, pk_div, rem_, remv, and31, wu1, wuc, wui, wu2, ws1, wsc, ws2, wv1, n11_, n13_, n14_, n15_, n17_, n19_, n23_, n56_, n64_, fX11_library_l46, nar_0, Nat.reduceAdd]
  have a4 : (fun v : (Int32 × wSt) => fX11_library_l46 v.2 v.1) (nI 4, wuI (wuI (wuI (wuI h 230 0 (nI 0)) 230 1 (nI 0)) 230 2 (nI 0)) 230 3 (nI 0)) = some (.inr (wuI (wuI (wuI (wuI h 230 0 (nI 0)) 230 1 (nI 0)) 230 2 (nI 0)) 230 3 (nI 0))) := by
    show fX11_library_l46 (wuI (wuI (wuI (wuI h 230 0 (nI 0)) 230 1 (nI 0)) 230 2 (nI 0)) 230 3 (nI 0)) (nI 4) = _
    simp (disch := omega) only [↓reduceIte, wlet, Option.bind_some, true_and, and_true, not_true_eq_false, not_false_eq_true, reduceCtorEq, n0_, n1_, n2_, n3_, n4_, n5_, n6_, n7_, n8_, n9_, n10_, n12_, n16_, n18_, n20_, n21_, n22_, n24_, n25_, n26_, n27_, n28_, n29_, n30_, n31_, n32_, n40_, n41_, n42_, n43_, n45_, n48_, n54_, n57_, n58_, n59_, n60_, n61_, n63_, n96_, n97_, n99_, n100_, n122_, n126_, n200_, n255_, n375_, n400_, n1000_, n2000_, n9999_, n5764801_, n1000000_, n3000_, m1, m2, le_t, le_f, lt_t, lt_f, eq_t, eq_f, no_lt, no_le, le_no, lt_no, eq_no, no_eq, add_no, wib_t, clamp, nI_add, pk_mul, pk_sub, nor_, nand_, ndif_, shl_, sh1_, shr_, tbn, tb0, tb1, les_t, les_f, pk_div, rem_, remv, and31, wu1, wuc, wui, wu2, ws1, wsc, ws2, wv1, n11_, n13_, n14_, n15_, n17_, n19_, n23_, n56_, n64_, fX11_library_l46]
  rw [show (3000 : Nat) = 2995 + 1 + 1 + 1 + 1 + 1 from rfl, wt1 a0, wt1 a1, wt1 a2, wt1 a3, wt2 a4]
/-- a library with a fault -/
theorem op_lib_f {X : (Nat × Nat) × gLib × Option gPc} {T : gTp} {S : gSh} {u : gUn} {M : gMk} {Y : gYr} {N : gSn} (q : X.1.2 ≠ 0) (hq : X.1.2 < 100000) (Wi : WI k L S u M Y N T) (C : CI h L S u M Y N T) (R : MI h L S u M Y N T)
    (cA : ∃ g, fX4_readFrom h 16 = some (nI X.1.2, g) ∧ fr sn h g)
    (rA : ∀ h1, TM h1 T → ∃ g, fX11_readsAll h1 = some (false, g) ∧ g.1 188 9 = nI X.1.2 ∧ g.1 188 1 = nI 0 ∧ g.1 188 54 = h1.1 188 54 ∧ fr (fun c => c = 188 ∨ (190 ≤ c ∧ c ≤ 204)) h1 g ∧ (∀ c, 190 ≤ c → c ≤ 202 → ∀ j, j < dlo c → g.1 c j = h1.1 c j) ∧ ∀ c, 190 ≤ c → c ≤ 199 → ∀ j, j < dlo c → g.2 c j = h1.2 c j) :
    ∃ r h1 h2, fX10_library h = some (r, h1) ∧ fX11_library h1 = some (r, h2) ∧ Inv k h2 := by
  obtain ⟨c1, c2, c3, c4, c5, c6, c7⟩ := C
  obtain ⟨w1, w2, w3, w4, w5, w6, w7, w8⟩ := Wi
  obtain ⟨g, e1, f1⟩ := cA
  have fc : fr (fun c => c = 1) g (wuI g 1 1 (nI 0)) := fr_wuI rfl
  have f2 : fr sn h (wuI g 1 1 (nI 0)) := fr_tr f1 (fr_mono fc (fun c q => Or.inl q))
  have R1 := MI_cls R (fr_mono f2 (fun c q => by unfold sn at q; unfold cls; omega))
  obtain ⟨r1, r2, r3, r4, r5, r6, r7⟩ := MI_0 R1 (nI 0)
  obtain ⟨h2, e2, t9, t1, t54, f3, lo1, lo2⟩ := rA _ r7
  have e0 : fX10_library h = some (nI X.1.2, wuI g 1 1 (nI 0)) := by
    simp (disch := omega) only [↓reduceIte, wlet, Option.bind_some, true_and, and_true, not_true_eq_false, not_false_eq_true, reduceCtorEq, n0_, n1_, n2_, n3_, n4_, n5_, n6_, n7_, n8_, n9_, n10_, n12_, n16_, n18_, n20_, n21_, n22_, n24_, n25_, n26_, n27_, n28_, n29_, n30_, n31_, n32_, n40_, n41_, n42_, n43_, n45_, n48_, n54_, n57_, n58_, n59_, n60_, n61_, n63_, n96_, n97_, n99_, n100_, n122_, n126_, n200_, n255_, n375_, n400_, n1000_, n2000_, n9999_, n5764801_, n1000000_, n3000_, m1, m2, le_t, le_f, lt_t, lt_f, eq_t, eq_f, no_lt, no_le, le_no, lt_no, eq_no, no_eq, add_no, wib_t, clamp, nI_add, pk_mul, pk_sub, nor_, nand_, ndif_, shl_, sh1_, shr_, tbn, tb0, tb1, les_t, les_f, pk_div, rem_, remv, and31, wu1, wuc, wui, wu2, ws1, wsc, ws2, wv1, n11_, n13_, n14_, n15_, n17_, n19_, n23_, n56_, n64_, fX10_library, fX7_clear, e1]
  have e3 : fX11_library (wuI g 1 1 (nI 0)) = some (nI X.1.2, h2) := by
    simp (disch := omega) only [↓reduceIte, wlet, Option.bind_some, true_and, and_true, not_true_eq_false, not_false_eq_true, reduceCtorEq, n0_, n1_, n2_, n3_, n4_, n5_, n6_, n7_, n8_, n9_, n10_, n12_, n16_, n18_, n20_, n21_, n22_, n24_, n25_, n26_, n27_, n28_, n29_, n30_, n31_, n32_, n40_, n41_, n42_, n43_, n45_, n48_, n54_, n57_, n58_, n59_, n60_, n61_, n63_, n96_, n97_, n99_, n100_, n122_, n126_, n200_, n255_, n375_, n400_, n1000_, n2000_, n9999_, n5764801_, n1000000_, n3000_, m1, m2, le_t, le_f, lt_t, lt_f, eq_t, eq_f, no_lt, no_le, le_no, lt_no, eq_no, no_eq, add_no, wib_t, clamp, nI_add, pk_mul, pk_sub, nor_, nand_, ndif_, shl_, sh1_, shr_, tbn, tb0, tb1, les_t, les_f, pk_div, rem_, remv, and31, wu1, wuc, wui, wu2, ws1, wsc, ws2, wv1, n11_, n13_, n14_, n15_, n17_, n19_, n23_, n56_, n64_, fX11_library, e2, t9, Option.isSome_none, Option.isSome_some, Bool.false_eq_true]
  refine ⟨_, _, h2, e0, e3, L, S, u, M, Y, N, (0, T.2), ⟨w1, w2, w3, w4, w5, w6, w7, by show (0 : Nat) ≤ 1000; omega, fun i hi => absurd hi (Nat.not_lt_zero i)⟩, CI_ref (CI_ref ⟨CL_fr c1 f2 (fun c _ _ => by unfold sn; omega), SH_fr c2 f2 (fun c _ _ => by unfold sn; omega), UC_fr c3 f2 (fun c _ _ => by unfold sn; omega), BC_fr c4 f2 (fun c _ _ => by unfold sn; omega), YC_fr c5 f2 (by unfold sn; omega) (by unfold sn; omega), NC_fr c6 f2 (fun c _ _ => by unfold sn; omega), wu1, fun i hi => absurd hi (Nat.not_lt_zero i)⟩ (fr_wuI (c := 188) (i := 0) (x := nI 0) (by unfold ref; omega))) (fr_mono f3 (fun c q => by unfold ref; omega)), ?_⟩
  exact ⟨ML_lo r1 w1 lo1 lo2, MS_fr r2 f3 (by omega), UM_fr r3 f3 t54 (by omega), BM_fr r4 f3 (fun c _ _ _ => by omega), YM_fr r5 f3 (fun c _ _ => by omega), NM_fr r6 f3 (fun c _ _ => by omega), t1, fun i hi => absurd hi (Nat.not_lt_zero i)⟩
/-- a sound library -/
theorem op_lib_s {D : gLib} {Wt : Option gPc} {T : gTp} {S : gSh} {u : gUn} {M : gMk} {Y : gYr} {N : gSn} (Wi : WI k L S u M Y N T) (C : CI h L S u M Y N T) (R : MI h L S u M Y N T) (hD : WL D) (hv : gWv Wt)
    (cA : ∃ g, fX4_readFrom h 16 = some (nI 0, g) ∧ fr sn h g ∧ DC g D ∧ DCw g Wt)
    (rA : ∀ h1, TM h1 T → ∃ g, fX11_readsAll h1 = some (true, g) ∧ DM g D ∧ DMw g Wt ∧ g.1 188 1 = nI 0 ∧ fr (fun c => c = 188 ∨ (190 ≤ c ∧ c ≤ 204)) h1 g) :
    ∃ r h1 h2, fX10_library h = some (r, h1) ∧ fX11_library h1 = some (r, h2) ∧ Inv k h2 := by
  obtain ⟨c1, c2, c3, c4, c5, c6, c7⟩ := C
  obtain ⟨w1, w2, w3, w4, w5, w6, w7, w8⟩ := Wi
  obtain ⟨g, e1, f1, d1, d2⟩ := cA
  have hL : WL (gFn2 D Wt) := F_WL hD
  have fc : fr (fun c => c = 1) g (wuI g 1 1 (nI 0)) := fr_wuI rfl
  obtain ⟨g2, e2, m2', f2⟩ := c_lcopy (DC_fr d1 fc (fun c _ _ => by omega)) (DCw_fr d2 fc (by omega) (by omega)) hD hv
  obtain ⟨g3, e3, m3, f3⟩ := c_begin hL m2' (b := 29) (by omega)
  have fz : fr (fun c => c = 39 ∨ c = 43 ∨ c = 48 ∨ c = 136 ∨ c = 149 ∨ c = 162 ∨ c = 175) g3 (wuI (wuI (wuI (wuI (wuI (wuI (wuI g3 39 0 (nI 0)) 43 0 (nI 0)) 48 0 (nI 0)) 136 0 (nI 0)) 149 0 (nI 0)) 162 0 (nI 0)) 175 0 (nI 0)) := fr_tr (fr_tr (fr_tr (fr_tr (fr_tr (fr_tr (fr_wuI (by omega)) (fr_wuI (by omega))) (fr_wuI (by omega))) (fr_wuI (by omega))) (fr_wuI (by omega))) (fr_wuI (by omega))) (fr_wuI (by omega))
  have z39 : (wuI (wuI (wuI (wuI (wuI (wuI (wuI g3 39 0 (nI 0)) 43 0 (nI 0)) 48 0 (nI 0)) 136 0 (nI 0)) 149 0 (nI 0)) 162 0 (nI 0)) 175 0 (nI 0)).1 39 0 = nI 0 := by rw [wuc (by omega), wuc (by omega), wuc (by omega), wuc (by omega), wuc (by omega), wuc (by omega), wu1]
  have z43 : (wuI (wuI (wuI (wuI (wuI (wuI (wuI g3 39 0 (nI 0)) 43 0 (nI 0)) 48 0 (nI 0)) 136 0 (nI 0)) 149 0 (nI 0)) 162 0 (nI 0)) 175 0 (nI 0)).1 43 0 = nI 0 := by rw [wuc (by omega), wuc (by omega), wuc (by omega), wuc (by omega), wuc (by omega), wu1]
  have z48 : ∀ j, (wuI (wuI (wuI (wuI (wuI (wuI (wuI g3 39 0 (nI 0)) 43 0 (nI 0)) 48 0 (nI 0)) 136 0 (nI 0)) 149 0 (nI 0)) 162 0 (nI 0)) 175 0 (nI 0)).1 48 j = if j = 0 then nI 0 else g3.1 48 j := fun j => by rw [wuc (by omega), wuc (by omega), wuc (by omega), wuc (by omega), wuS, wuc (by omega), wuc (by omega)]
  have zm : ∀ i, i < 4 → (wuI (wuI (wuI (wuI (wuI (wuI (wuI g3 39 0 (nI 0)) 43 0 (nI 0)) 48 0 (nI 0)) 136 0 (nI 0)) 149 0 (nI 0)) 162 0 (nI 0)) 175 0 (nI 0)).1 (136 + 13 * i) 0 = nI 0 := fun i hi => by
    have : i = 0 ∨ i = 1 ∨ i = 2 ∨ i = 3 := by omega
    rcases this with rfl | rfl | rfl | rfl
    · rw [wuc (by omega), wuc (by omega), wuc (by omega), wu1]
    · rw [wuc (by omega), wuc (by omega), wu1]
    · rw [wuc (by omega), wu1]
    · rw [wu1]
  have ec : fX10_library h = some (nI 0, wuI (wuI (wuI (wuI (wuI (wuI (wuI g3 39 0 (nI 0)) 43 0 (nI 0)) 48 0 (nI 0)) 136 0 (nI 0)) 149 0 (nI 0)) 162 0 (nI 0)) 175 0 (nI 0)) := by
    have mk := c_marks (wuI (wuI (wuI g3 39 0 (nI 0)) 43 0 (nI 0)) 48 0 (nI 0))
    simp (disch := omega) only [↓reduceIte, wlet, Option.bind_some, true_and, and_true, not_true_eq_false, not_false_eq_true, reduceCtorEq, n0_, n1_, n2_, n3_, n4_, n5_, n6_, n7_, n8_, n9_, n10_, n12_, n16_, n18_, n20_, n21_, n22_, n24_, n25_, n26_, n27_, n28_, n29_, n30_, n31_, n32_, n40_, n41_, n42_, n43_, n45_, n48_, n54_, n57_, n58_, n59_, n60_, n61_, n63_, n96_, n97_, n99_, n100_, n122_, n126_, n200_, n255_, n375_, n400_, n1000_, n2000_, n9999_, n5764801_, n1000000_, n3000_, m1, m2, le_t, le_f, lt_t, lt_f, eq_t, eq_f, no_lt, no_le, le_no, lt_no, eq_no, no_eq, add_no, wib_t, clamp, nI_add, pk_mul, pk_sub, nor_, nand_, ndif_, shl_, sh1_, shr_, tbn, tb0, tb1, les_t, les_f, pk_div, rem_, remv, and31, wu1, wuc, wui, wu2, ws1, wsc, ws2, wv1, n11_, n13_, n14_, n15_, n17_, n19_, n23_, n56_, n64_, fX10_library, fX7_clear, fX9_clear, fX5_clear, fX8_clear, e1, e2, e3, mk]
  revert fz z39 z43 z48 zm ec
  generalize wuI (wuI (wuI (wuI (wuI (wuI (wuI g3 39 0 (nI 0)) 43 0 (nI 0)) 48 0 (nI 0)) 136 0 (nI 0)) 149 0 (nI 0)) 162 0 (nI 0)) 175 0 (nI 0) = h1
  intro fz z39 z43 z48 zm ec
  have fh : fr cls h h1 := fr_tr (fr_mono f1 (fun c q => by unfold sn at q; unfold cls; omega)) (fr_tr (fr_mono fc (fun c q => by unfold cls; omega)) (fr_tr (fr_mono f2 (fun c q => by unfold cls; omega)) (fr_tr (fr_mono f3 (fun c q => by unfold sk at q; unfold cls; omega)) (fr_mono fz (fun c q => by unfold cls; omega)))))
  have R1 := MI_cls R fh
  obtain ⟨r1, r2, r3, r4, r5, r6, r7⟩ := MI_0 R1 (nI 0)
  obtain ⟨g4, e4, d4, d5, t4, f4⟩ := rA _ r7
  obtain ⟨g5, e5, m5, f5⟩ := r_lays d4 d5 hD hv
  obtain ⟨g6, e6, m6, f6⟩ := r_fresh hL m5
  have er : fX11_library h1 = some (nI 0, wuI (wuI (wuI (wuI (wuI (wuI (wuI g6 215 0 (nI 0)) 220 0 (nI 0)) 188 54 (nI 0)) 230 0 (nI 0)) 230 1 (nI 0)) 230 2 (nI 0)) 230 3 (nI 0)) := by
    have mk := r_marks (wuI (wuI (wuI g6 215 0 (nI 0)) 220 0 (nI 0)) 188 54 (nI 0))
    simp (disch := omega) only [↓reduceIte, wlet, Option.bind_some, true_and, and_true, not_true_eq_false, not_false_eq_true, reduceCtorEq, n0_, n1_, n2_, n3_, n4_, n5_, n6_, n7_, n8_, n9_, n10_, n12_, n16_, n18_, n20_, n21_, n22_, n24_, n25_, n26_, n27_, n28_, n29_, n30_, n31_, n32_, n40_, n41_, n42_, n43_, n45_, n48_, n54_, n57_, n58_, n59_, n60_, n61_, n63_, n96_, n97_, n99_, n100_, n122_, n126_, n200_, n255_, n375_, n400_, n1000_, n2000_, n9999_, n5764801_, n1000000_, n3000_, m1, m2, le_t, le_f, lt_t, lt_f, eq_t, eq_f, no_lt, no_le, le_no, lt_no, eq_no, no_eq, add_no, wib_t, clamp, nI_add, pk_mul, pk_sub, nor_, nand_, ndif_, shl_, sh1_, shr_, tbn, tb0, tb1, les_t, les_f, pk_div, rem_, remv, and31, wu1, wuc, wui, wu2, ws1, wsc, ws2, wv1, n11_, n13_, n14_, n15_, n17_, n19_, n23_, n56_, n64_, fX11_library, e4, e5, e6, mk]
  have fy : fr (fun c => c = 188 ∨ c = 215 ∨ c = 220 ∨ c = 230) g6 (wuI (wuI (wuI (wuI (wuI (wuI (wuI g6 215 0 (nI 0)) 220 0 (nI 0)) 188 54 (nI 0)) 230 0 (nI 0)) 230 1 (nI 0)) 230 2 (nI 0)) 230 3 (nI 0)) := fr_tr (fr_tr (fr_tr (fr_tr (fr_tr (fr_tr (fr_wuI (by omega)) (fr_wuI (by omega))) (fr_wuI (by omega))) (fr_wuI (by omega))) (fr_wuI (by omega))) (fr_wuI (by omega))) (fr_wuI (by omega))
  have y215 : (wuI (wuI (wuI (wuI (wuI (wuI (wuI g6 215 0 (nI 0)) 220 0 (nI 0)) 188 54 (nI 0)) 230 0 (nI 0)) 230 1 (nI 0)) 230 2 (nI 0)) 230 3 (nI 0)).1 215 0 = nI 0 := by rw [wuc (by omega), wuc (by omega), wuc (by omega), wuc (by omega), wuc (by omega), wuc (by omega), wu1]
  have y220 : (wuI (wuI (wuI (wuI (wuI (wuI (wuI g6 215 0 (nI 0)) 220 0 (nI 0)) 188 54 (nI 0)) 230 0 (nI 0)) 230 1 (nI 0)) 230 2 (nI 0)) 230 3 (nI 0)).1 220 0 = nI 0 := by rw [wuc (by omega), wuc (by omega), wuc (by omega), wuc (by omega), wuc (by omega), wu1]
  have y188 : ∀ j, (wuI (wuI (wuI (wuI (wuI (wuI (wuI g6 215 0 (nI 0)) 220 0 (nI 0)) 188 54 (nI 0)) 230 0 (nI 0)) 230 1 (nI 0)) 230 2 (nI 0)) 230 3 (nI 0)).1 188 j = if j = 54 then nI 0 else g6.1 188 j := fun j => by rw [wuc (by omega), wuc (by omega), wuc (by omega), wuc (by omega), wuS, wuc (by omega), wuc (by omega)]
  have y230 : ∀ i, i < 4 → (wuI (wuI (wuI (wuI (wuI (wuI (wuI g6 215 0 (nI 0)) 220 0 (nI 0)) 188 54 (nI 0)) 230 0 (nI 0)) 230 1 (nI 0)) 230 2 (nI 0)) 230 3 (nI 0)).1 230 i = nI 0 := fun i hi => by
    rw [wuS, wuS, wuS, wuS]
    have : i = 0 ∨ i = 1 ∨ i = 2 ∨ i = 3 := by omega
    rcases this with rfl | rfl | rfl | rfl <;> rfl
  revert er fy y215 y220 y188 y230
  generalize wuI (wuI (wuI (wuI (wuI (wuI (wuI g6 215 0 (nI 0)) 220 0 (nI 0)) 188 54 (nI 0)) 230 0 (nI 0)) 230 1 (nI 0)) 230 2 (nI 0)) 230 3 (nI 0) = h2
  intro er fy y215 y220 y188 y230
  refine ⟨_, h1, h2, ec, er, ?_⟩
  obtain ⟨-, m31, m32, m33, -⟩ := m3
  obtain ⟨-, m61, -, m63⟩ := m6
  have ws := WS_begin hL
  have b0 : (gBegin (gFn2 D Wt)).1 = 0 := rfl
  clear m2' m5 e2 e3 e5 e6 d1 d2 d4 d5
  revert hL m31 m32 m33 m61 m63 ws b0
  generalize gFn2 D Wt = L2
  generalize gBegin L2 = S2
  intro hL m31 m32 m33 m61 m63 ws b0
  have f0 : fr ref h1 (wuI h1 188 0 (nI 0)) := fr_wuI (by unfold ref; omega)
  have fr2 : fr ref h1 h2 := fr_tr f0 (fr_tr (fr_mono f4 (fun c q => by unfold ref; omega)) (fr_tr (fr_mono f5 (fun c q => by unfold ref; omega)) (fr_tr (fr_mono f6 (fun c q => by unfold s225 at q; unfold ref; omega)) (fr_mono fy (fun c q => by unfold ref; omega)))))
  refine ⟨L2, S2, (0, u.2.1, u.2.2), fun _ => none, (0, Y.2), (0, N.2), (0, T.2), ⟨hL, ws, by omega, ⟨Nat.zero_le _, w4.2.1, fun i hi => absurd hi (Nat.not_lt_zero i)⟩, fun i s y n hm => (by cases hm), ⟨Nat.zero_le _, fun i hi => absurd hi (Nat.not_lt_zero i)⟩, ⟨Nat.zero_le _, fun i hi => absurd hi (Nat.not_lt_zero i)⟩, Nat.zero_le _, fun i hi => absurd hi (Nat.not_lt_zero i)⟩, CI_ref ?_ fr2, ?_⟩
  · refine ⟨CL_fr m31 fz (fun c _ _ => by omega), SH_fr m33 fz (fun c _ _ => by omega), ⟨?_, ?_, fun i hi => absurd hi (Nat.not_lt_zero i)⟩, fun i hi => ⟨zm i hi, fun s y n hm => (by cases hm)⟩, ⟨z39, fun i hi => absurd hi (Nat.not_lt_zero i)⟩, ⟨z43, fun i hi => absurd hi (Nat.not_lt_zero i)⟩, ?_, fun i hi => absurd hi (Nat.not_lt_zero i)⟩
    · rw [z48, if_pos rfl]
    · rw [z48, if_neg (by omega), fr_at f3 (by unfold sk; omega), fr_at f2 (by omega), fr_at fc (by omega), fr_at f1 (by unfold sn; omega)]
      exact c3.2.1
    · rw [fr_at fz (by omega), fr_at f3 (by unfold sk; omega), fr_at f2 (by omega)]
      exact wu1
  · refine ⟨ML_fr m61 fy (fun c _ _ => by omega), MS_fr m63 fy (by omega), ⟨?_, fun i hi => absurd hi (Nat.not_lt_zero i)⟩, fun i hi => ⟨y230 i hi, fun s y n hm => (by cases hm)⟩, ⟨y215, fun i hi => absurd hi (Nat.not_lt_zero i)⟩, ⟨y220, fun i hi => absurd hi (Nat.not_lt_zero i)⟩, ?_, fun i hi => absurd hi (Nat.not_lt_zero i)⟩
    · rw [y188, if_pos rfl]
    · rw [y188, if_neg (by omega), fr_at f6 (by unfold s225; omega), fr_at f5 (by omega)]
      exact t4
theorem op_library (hI : Inv k h) : ∃ r h1 h2, fX10_library h = some (r, h1) ∧ fX11_library h1 = some (r, h2) ∧ Inv k h2 := by
  obtain ⟨L, S, u, M, Y, N, T, Wi, C, R⟩ := hI
  have hT := Wi.2.2.2.2.2.2.2
  obtain ⟨g, e1, f1, s1', p1⟩ := c_readAll C.2.2.2.2.2.2 hT
  have rA := fun (h1 : wSt) (t1 : TM h1 T) => r_readAll t1 hT
  revert e1 s1' p1 rA
  generalize gLz T = X
  intro e1 s1' p1 rA
  by_cases q : X.1.2 = 0
  · obtain ⟨p2, p3, p4, p5⟩ := p1 q
    rw [q] at e1
    refine op_lib_s Wi C R p4 p5 ⟨g, e1, f1, p2, p3⟩ (fun h1 t1 => ?_)
    obtain ⟨r, g2, z1, z2, z3, z4, z5, z6, z7, z8⟩ := rA h1 t1
    obtain ⟨y1, y2, y3, -, -⟩ := z2 q
    subst y1
    exact ⟨g2, z1, y2, y3, z4, z6⟩
  · refine op_lib_f q (s1'.2.2.2.2.2.2.2.1) Wi C R ⟨g, e1, f1⟩ (fun h1 t1 => ?_)
    obtain ⟨r, g2, z1, z2, z3, z4, z5, z6, z7, z8⟩ := rA h1 t1
    obtain ⟨y1, y2⟩ := z3 q
    subst y1
    exact ⟨g2, z1, y2, z4, z5, z6, z7, z8⟩
end G90

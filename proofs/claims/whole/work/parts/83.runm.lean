/-! THE LAW AT WORK, the other side -/
def mB (v : Int32 × Int32 × wSt) : Option ((Int32 × Int32 × wSt) ⊕ wSt) := fX11_worked_l14 v.2.2 (nI 0) v.1 v.2.1
def sz (c : Nat) : Prop := 205 ≤ c ∧ c ≤ 213
def ngs (o : Nat → Nat) : Nat → Int32 → Int32
  | 0, v => v
  | d + 1, v => if o (d + 1) = 1 then ngs o d (vN v) else v
theorem ngs_cong {o q : Nat → Nat} : ∀ {d : Nat} {v : Int32}, (∀ i, 1 ≤ i → i ≤ d → o i = q i) → ngs o d v = ngs q d v
  | 0, _, _ => rfl
  | d + 1, v, h => by rw [ngs, ngs, h (d + 1) (by omega) (by omega), ngs_cong (fun i h1 h2 => h i h1 (by omega))]
theorem uw_le {o : Nat → Nat} : ∀ {d : Nat}, uw o d ≤ d
  | 0 => Nat.le_refl _
  | d + 1 => by
    rw [uw]
    split
    · have := uw_le (o := o) (d := d); omega
    · omega
theorem ngs_uw {o : Nat → Nat} {d : Nat} {v : Int32} (h : uw o d = d) : ngs o d v = v := by
  cases d with
  | zero => rfl
  | succ d =>
    rw [ngs]
    rw [uw] at h
    by_cases q : o (d + 1) = 1
    · rw [if_pos q] at h
      have := uw_le (o := o) (d := d)
      omega
    · rw [if_neg q]
def gHS (e : Nat → Int32) (h : wSt) (d k L : Nat) (o : Nat → Nat) (rs : List Int32) : Prop := h.1 201 0 = nI L ∧ L ≤ 1000 ∧ k + rs.length ≤ L ∧ (∀ j, j < rs.length → h.1 202 (k + j) = rs.getD j 0) ∧ (∀ i, 1 ≤ i → i ≤ 4 → h.1 214 i = e i) ∧ ∀ i, 1 ≤ i → i ≤ d → h.1 213 i = nI (o i) ∧ o i ≤ 1
def gKU (u : Nat) (h g : wSt) : Prop := fr sz h g ∧ ∀ c j, (j < u ∨ (j = u ∧ c ≠ 211)) → g.1 c j = h.1 c j
def gKL (d : Nat) (h g : wSt) : Prop := fr sz h g ∧ (∀ c j, j < d → g.1 c j = h.1 c j) ∧ g.1 213 d = h.1 213 d
def PRp (d : Nat) (rs : List Int32) (v : (Nat → Int32) → Int32) : Prop := ∀ (e : Nat → Int32) (h : wSt) (k L : Nat) (o : Nat → Nat), gHS e h d k L o rs → ∃ g, (∀ N, wit mB (N + rs.length) (nI d, nI k, h) = wit mB N (nI (uw o d), nI (k + rs.length), g)) ∧ gKU (uw o d) h g ∧ g.1 211 (uw o d) = (if h.1 212 (uw o d) = nI 0 then ngs o d (v e) else h.1 211 (uw o d) * ngs o d (v e))
def vS (h : wSt) (d : Nat) : Int32 := if h.1 210 d = nI 21 then h.1 209 d - h.1 211 d else h.1 209 d + h.1 211 d
def vT (h : wSt) (d : Nat) : Int32 := if h.1 208 d = nI 24 then (if vS h d ≤ h.1 207 d then nI 0 else nI 1) else if h.1 208 d = nI 25 then (if h.1 207 d = vS h d then nI 1 else nI 0) else vS h d
def vK (h : wSt) (d : Nat) : Int32 := if h.1 206 d = nI 26 then (if h.1 205 d = nI 0 then nI 0 else if vT h d = nI 0 then nI 0 else nI 1) else if h.1 206 d = nI 27 then (if h.1 205 d = nI 0 then (if vT h d = nI 0 then nI 0 else nI 1) else nI 1) else vT h d
def gPre (l : Nat) (h : wSt) (d : Nat) : Prop := h.1 212 d = nI 0 ∧ (l ≤ 2 → h.1 209 d = nI 0 ∧ h.1 210 d = nI 20) ∧ (l ≤ 1 → h.1 208 d = nI 0) ∧ (l = 0 → h.1 206 d = nI 0)
def gPost (l : Nat) (h g : wSt) (d : Nat) (w : Int32) : Prop := (l = 3 → g.1 211 d = w ∧ ∀ c, 205 ≤ c → c ≤ 210 → g.1 c d = h.1 c d) ∧ (l = 2 → vS g d = w ∧ ∀ c, 205 ≤ c → c ≤ 208 → g.1 c d = h.1 c d) ∧ (l = 1 → vT g d = w ∧ ∀ c, 205 ≤ c → c ≤ 206 → g.1 c d = h.1 c d) ∧ (l = 0 → vK g d = w)
def PRl (l d : Nat) (rs : List Int32) (v : (Nat → Int32) → Int32) : Prop := ∀ (e : Nat → Int32) (h : wSt) (k L : Nat) (o : Nat → Nat), gHS e h d k L o rs → uw o d = d → gPre l h d → ∃ g, (∀ N, wit mB (N + rs.length) (nI d, nI k, h) = wit mB N (nI d, nI (k + rs.length), g)) ∧ gKL d h g ∧ gPost l h g d (v e)
theorem gKL_tr {d : Nat} {h g f : wSt} (a : gKL d h g) (b : gKL d g f) : gKL d h f := ⟨fr_tr a.1 b.1, fun c j hj => (b.2.1 c j hj).trans (a.2.1 c j hj), b.2.2.trans a.2.2⟩
theorem gKL_u {d c : Nat} {h : wSt} {x : Int32} (h1 : 205 ≤ c) (h2 : c ≤ 212) : gKL d h (wuI h c d x) := ⟨fr_wuI ⟨h1, by omega⟩, fun c' j hj => by
  by_cases e : c' = c
  · subst e; exact wui (by omega)
  · rw [wuc e], by rw [wuc (by omega)]⟩
theorem gKL_U {d : Nat} {h g : wSt} (a : gKU d h g) : gKL d h g := ⟨a.1, fun c j hj => a.2 c j (Or.inl hj), a.2 213 d (Or.inr ⟨rfl, by omega⟩)⟩
section G83
variable {h g : wSt} {e : Nat → Int32} {d k L : Nat} {o : Nat → Nat} {rs : List Int32}
/-- what a later stretch of the codes needs -/
theorem gHS_s {a : List Int32} {x : List Int32} (q : gHS e h d k L o (a ++ x)) (b : gKL d h g) : gHS e g d (k + a.length) L o x := by
  obtain ⟨q1, q2, q3, q4, q5, q6⟩ := q
  rw [List.length_append] at q3
  refine ⟨by rw [fr_at b.1 (by unfold sz; omega)]; exact q1, q2, by omega, fun j hj => ?_, fun i h1 h2 => by rw [fr_at b.1 (by unfold sz; omega)]; exact q5 i h1 h2, fun i h1 h2 => ?_⟩
  · rw [fr_at b.1 (by unfold sz; omega), Nat.add_assoc, q4 (a.length + j) (by rw [List.length_append]; omega), gd_r]
  · by_cases z : i = d
    · subst z; rw [b.2.2]; exact q6 i h1 h2
    · rw [b.2.1 213 i (by omega)]; exact q6 i h1 h2
theorem gHS_a {a : List Int32} {x : List Int32} (q : gHS e h d k L o (a ++ x)) : gHS e h d k L o a := by
  obtain ⟨q1, q2, q3, q4, q5, q6⟩ := q
  rw [List.length_append] at q3
  exact ⟨q1, q2, by omega, fun j hj => by rw [q4 j (by rw [List.length_append]; omega), gd_l hj], q5, q6⟩
theorem gHS_0 {x : Int32} {r : List Int32} (q : gHS e h d k L o (x :: r)) : h.1 201 0 = nI L ∧ k < L ∧ L ≤ 1000 ∧ h.1 202 k = x := by
  obtain ⟨q1, q2, q3, q4, q5, q6⟩ := q
  rw [List.length_cons] at q3
  refine ⟨q1, by omega, q2, ?_⟩
  have := q4 0 (by rw [List.length_cons]; omega)
  exact this
theorem r_sums (hd : d ≤ 5) : fX11_sums h (nI d) = some (wuI (wuI h 209 d (vS h d)) 212 d (nI 0)) := by
  unfold vS
  by_cases q : h.1 210 d = nI 21
  · rw [if_pos q]
    simp (disch := omega) only [↓reduceIte, wlet, Option.bind_some, true_and, and_true, not_true_eq_false, not_false_eq_true, reduceCtorEq, n0_, n1_, n2_, n3_, n4_, n5_, n6_, n7_, n8_, n9_, n10_, n12_, n16_, n18_, n20_, n21_, n22_, n24_, n25_, n26_, n27_, n28_, n29_, n30_, n31_, n32_, n40_, n41_, n42_, n43_, n45_, n48_, n54_, n57_, n58_, n59_, n60_, n61_, n63_, n96_, n97_, n99_, n100_, n122_, n126_, n200_, n255_, n375_, n400_, n1000_, n2000_, n9999_, n5764801_, n1000000_, n3000_, m1, m2, le_t, le_f, lt_t, lt_f, eq_t, eq_f, no_lt, no_le, le_no, lt_no, eq_no, no_eq, add_no, wib_t, clamp, nI_add, pk_mul, pk_sub, nor_, nand_, ndif_, shl_, sh1_, shr_, tbn, tb0, tb1, les_t, les_f, pk_div, rem_, remv, and31, wu1, wuc, wui, wu2, ws1, wsc, ws2, wv1, n11_, n13_, n14_, n15_, n17_, n19_, n23_, n56_, n64_, fX11_sums, fX11_sums_b45, q]
  · rw [if_neg q]
    simp (disch := omega) only [↓reduceIte, wlet, Option.bind_some, true_and, and_true, not_true_eq_false, not_false_eq_true, reduceCtorEq, n0_, n1_, n2_, n3_, n4_, n5_, n6_, n7_, n8_, n9_, n10_, n12_, n16_, n18_, n20_, n21_, n22_, n24_, n25_, n26_, n27_, n28_, n29_, n30_, n31_, n32_, n40_, n41_, n42_, n43_, n45_, n48_, n54_, n57_, n58_, n59_, n60_, n61_, n63_, n96_, n97_, n99_, n100_, n122_, n126_, n200_, n255_, n375_, n400_, n1000_, n2000_, n9999_, n5764801_, n1000000_, n3000_, m1, m2, le_t, le_f, lt_t, lt_f, eq_t, eq_f, no_lt, no_le, le_no, lt_no, eq_no, no_eq, add_no, wib_t, clamp, nI_add, pk_mul, pk_sub, nor_, nand_, ndif_, shl_, sh1_, shr_, tbn, tb0, tb1, les_t, les_f, pk_div, rem_, remv, and31, wu1, wuc, wui, wu2, ws1, wsc, ws2, wv1, n11_, n13_, n14_, n15_, n17_, n19_, n23_, n56_, n64_, fX11_sums, fX11_sums_b45, q]
/-- what tests leaves -/
def tsr (h : wSt) (d : Nat) : wSt := wuI (wuI (wuI (wuI (wuI (wuI h 209 d (vS h d)) 212 d (nI 0)) 205 d (vK h d)) 208 d (nI 0)) 209 d (nI 0)) 210 d (nI 20)
theorem r_136 {x : Int32} (hd : d ≤ 5) : fX11_tests_b136 h (nI d) x = some (wuI (wuI (wuI (wuI h 205 d x) 208 d (nI 0)) 209 d (nI 0)) 210 d (nI 20)) := by
  simp (disch := omega) only [↓reduceIte, wlet, Option.bind_some, true_and, and_true, not_true_eq_false, not_false_eq_true, reduceCtorEq, n0_, n1_, n2_, n3_, n4_, n5_, n6_, n7_, n8_, n9_, n10_, n12_, n16_, n18_, n20_, n21_, n22_, n24_, n25_, n26_, n27_, n28_, n29_, n30_, n31_, n32_, n40_, n41_, n42_, n43_, n45_, n48_, n54_, n57_, n58_, n59_, n60_, n61_, n63_, n96_, n97_, n99_, n100_, n122_, n126_, n200_, n255_, n375_, n400_, n1000_, n2000_, n9999_, n5764801_, n1000000_, n3000_, m1, m2, le_t, le_f, lt_t, lt_f, eq_t, eq_f, no_lt, no_le, le_no, lt_no, eq_no, no_eq, add_no, wib_t, clamp, nI_add, pk_mul, pk_sub, nor_, nand_, ndif_, shl_, sh1_, shr_, tbn, tb0, tb1, les_t, les_f, pk_div, rem_, remv, and31, wu1, wuc, wui, wu2, ws1, wsc, ws2, wv1, n11_, n13_, n14_, n15_, n17_, n19_, n23_, n56_, n64_, fX11_tests_b136]
theorem r_106 {x : Int32} (hd : d ≤ 5) : fX11_tests_b106 h (nI d) x = some (wuI (wuI (wuI (wuI h 205 d (if h.1 206 d = nI 27 then (if h.1 205 d = nI 0 then (if x = nI 0 then nI 0 else nI 1) else nI 1) else x)) 208 d (nI 0)) 209 d (nI 0)) 210 d (nI 20)) := by
  have e := fun y => r_136 (h := h) (d := d) (x := y) hd
  by_cases q : h.1 206 d = nI 27
  · by_cases q2 : h.1 205 d = nI 0
    · by_cases q3 : x = nI 0
      · simp (disch := omega) only [↓reduceIte, wlet, Option.bind_some, true_and, and_true, not_true_eq_false, not_false_eq_true, reduceCtorEq, n0_, n1_, n2_, n3_, n4_, n5_, n6_, n7_, n8_, n9_, n10_, n12_, n16_, n18_, n20_, n21_, n22_, n24_, n25_, n26_, n27_, n28_, n29_, n30_, n31_, n32_, n40_, n41_, n42_, n43_, n45_, n48_, n54_, n57_, n58_, n59_, n60_, n61_, n63_, n96_, n97_, n99_, n100_, n122_, n126_, n200_, n255_, n375_, n400_, n1000_, n2000_, n9999_, n5764801_, n1000000_, n3000_, m1, m2, le_t, le_f, lt_t, lt_f, eq_t, eq_f, no_lt, no_le, le_no, lt_no, eq_no, no_eq, add_no, wib_t, clamp, nI_add, pk_mul, pk_sub, nor_, nand_, ndif_, shl_, sh1_, shr_, tbn, tb0, tb1, les_t, les_f, pk_div, rem_, remv, and31, wu1, wuc, wui, wu2, ws1, wsc, ws2, wv1, n11_, n13_, n14_, n15_, n17_, n19_, n23_, n56_, n64_, fX11_tests_b106, fX11_tests_b135, q, q2, q3, e]
      · simp (disch := omega) only [↓reduceIte, wlet, Option.bind_some, true_and, and_true, not_true_eq_false, not_false_eq_true, reduceCtorEq, n0_, n1_, n2_, n3_, n4_, n5_, n6_, n7_, n8_, n9_, n10_, n12_, n16_, n18_, n20_, n21_, n22_, n24_, n25_, n26_, n27_, n28_, n29_, n30_, n31_, n32_, n40_, n41_, n42_, n43_, n45_, n48_, n54_, n57_, n58_, n59_, n60_, n61_, n63_, n96_, n97_, n99_, n100_, n122_, n126_, n200_, n255_, n375_, n400_, n1000_, n2000_, n9999_, n5764801_, n1000000_, n3000_, m1, m2, le_t, le_f, lt_t, lt_f, eq_t, eq_f, no_lt, no_le, le_no, lt_no, eq_no, no_eq, add_no, wib_t, clamp, nI_add, pk_mul, pk_sub, nor_, nand_, ndif_, shl_, sh1_, shr_, tbn, tb0, tb1, les_t, les_f, pk_div, rem_, remv, and31, wu1, wuc, wui, wu2, ws1, wsc, ws2, wv1, n11_, n13_, n14_, n15_, n17_, n19_, n23_, n56_, n64_, fX11_tests_b106, fX11_tests_b135, fX11_tests_b130, q, q2, q3, e]
    · simp (disch := omega) only [↓reduceIte, wlet, Option.bind_some, true_and, and_true, not_true_eq_false, not_false_eq_true, reduceCtorEq, n0_, n1_, n2_, n3_, n4_, n5_, n6_, n7_, n8_, n9_, n10_, n12_, n16_, n18_, n20_, n21_, n22_, n24_, n25_, n26_, n27_, n28_, n29_, n30_, n31_, n32_, n40_, n41_, n42_, n43_, n45_, n48_, n54_, n57_, n58_, n59_, n60_, n61_, n63_, n96_, n97_, n99_, n100_, n122_, n126_, n200_, n255_, n375_, n400_, n1000_, n2000_, n9999_, n5764801_, n1000000_, n3000_, m1, m2, le_t, le_f, lt_t, lt_f, eq_t, eq_f, no_lt, no_le, le_no, lt_no, eq_no, no_eq, add_no, wib_t, clamp, nI_add, pk_mul, pk_sub, nor_, nand_, ndif_, shl_, sh1_, shr_, tbn, tb0, tb1, les_t, les_f, pk_div, rem_, remv, and31, wu1, wuc, wui, wu2, ws1, wsc, ws2, wv1, n11_, n13_, n14_, n15_, n17_, n19_, n23_, n56_, n64_, fX11_tests_b106, fX11_tests_b135, fX11_tests_b130, q, q2, e]
  · simp (disch := omega) only [↓reduceIte, wlet, Option.bind_some, true_and, and_true, not_true_eq_false, not_false_eq_true, reduceCtorEq, n0_, n1_, n2_, n3_, n4_, n5_, n6_, n7_, n8_, n9_, n10_, n12_, n16_, n18_, n20_, n21_, n22_, n24_, n25_, n26_, n27_, n28_, n29_, n30_, n31_, n32_, n40_, n41_, n42_, n43_, n45_, n48_, n54_, n57_, n58_, n59_, n60_, n61_, n63_, n96_, n97_, n99_, n100_, n122_, n126_, n200_, n255_, n375_, n400_, n1000_, n2000_, n9999_, n5764801_, n1000000_, n3000_, m1, m2, le_t, le_f, lt_t, lt_f, eq_t, eq_f, no_lt, no_le, le_no, lt_no, eq_no, no_eq, add_no, wib_t, clamp, nI_add, pk_mul, pk_sub, nor_, nand_, ndif_, shl_, sh1_, shr_, tbn, tb0, tb1, les_t, les_f, pk_div, rem_, remv, and31, wu1, wuc, wui, wu2, ws1, wsc, ws2, wv1, n11_, n13_, n14_, n15_, n17_, n19_, n23_, n56_, n64_, fX11_tests_b106, q, e]
theorem r_76 {x : Int32} (hd : d ≤ 5) : fX11_tests_b76 h (nI d) x = some (wuI (wuI (wuI (wuI h 205 d (if h.1 206 d = nI 26 then (if h.1 205 d = nI 0 then nI 0 else if x = nI 0 then nI 0 else nI 1) else if h.1 206 d = nI 27 then (if h.1 205 d = nI 0 then (if x = nI 0 then nI 0 else nI 1) else nI 1) else x)) 208 d (nI 0)) 209 d (nI 0)) 210 d (nI 20)) := by
  have e := fun y => r_106 (h := h) (d := d) (x := y) hd
  by_cases q : h.1 206 d = nI 26
  · by_cases q2 : h.1 205 d = nI 0
    · simp (disch := omega) only [↓reduceIte, wlet, Option.bind_some, true_and, and_true, not_true_eq_false, not_false_eq_true, reduceCtorEq, n0_, n1_, n2_, n3_, n4_, n5_, n6_, n7_, n8_, n9_, n10_, n12_, n16_, n18_, n20_, n21_, n22_, n24_, n25_, n26_, n27_, n28_, n29_, n30_, n31_, n32_, n40_, n41_, n42_, n43_, n45_, n48_, n54_, n57_, n58_, n59_, n60_, n61_, n63_, n96_, n97_, n99_, n100_, n122_, n126_, n200_, n255_, n375_, n400_, n1000_, n2000_, n9999_, n5764801_, n1000000_, n3000_, m1, m2, le_t, le_f, lt_t, lt_f, eq_t, eq_f, no_lt, no_le, le_no, lt_no, eq_no, no_eq, add_no, wib_t, clamp, nI_add, pk_mul, pk_sub, nor_, nand_, ndif_, shl_, sh1_, shr_, tbn, tb0, tb1, les_t, les_f, pk_div, rem_, remv, and31, wu1, wuc, wui, wu2, ws1, wsc, ws2, wv1, n11_, n13_, n14_, n15_, n17_, n19_, n23_, n56_, n64_, fX11_tests_b76, fX11_tests_b105, fX11_tests_b104, q, q2, e]
    · by_cases q3 : x = nI 0
      · simp (disch := omega) only [↓reduceIte, wlet, Option.bind_some, true_and, and_true, not_true_eq_false, not_false_eq_true, reduceCtorEq, n0_, n1_, n2_, n3_, n4_, n5_, n6_, n7_, n8_, n9_, n10_, n12_, n16_, n18_, n20_, n21_, n22_, n24_, n25_, n26_, n27_, n28_, n29_, n30_, n31_, n32_, n40_, n41_, n42_, n43_, n45_, n48_, n54_, n57_, n58_, n59_, n60_, n61_, n63_, n96_, n97_, n99_, n100_, n122_, n126_, n200_, n255_, n375_, n400_, n1000_, n2000_, n9999_, n5764801_, n1000000_, n3000_, m1, m2, le_t, le_f, lt_t, lt_f, eq_t, eq_f, no_lt, no_le, le_no, lt_no, eq_no, no_eq, add_no, wib_t, clamp, nI_add, pk_mul, pk_sub, nor_, nand_, ndif_, shl_, sh1_, shr_, tbn, tb0, tb1, les_t, les_f, pk_div, rem_, remv, and31, wu1, wuc, wui, wu2, ws1, wsc, ws2, wv1, n11_, n13_, n14_, n15_, n17_, n19_, n23_, n56_, n64_, fX11_tests_b76, fX11_tests_b105, fX11_tests_b104, q, q2, q3, e]
      · simp (disch := omega) only [↓reduceIte, wlet, Option.bind_some, true_and, and_true, not_true_eq_false, not_false_eq_true, reduceCtorEq, n0_, n1_, n2_, n3_, n4_, n5_, n6_, n7_, n8_, n9_, n10_, n12_, n16_, n18_, n20_, n21_, n22_, n24_, n25_, n26_, n27_, n28_, n29_, n30_, n31_, n32_, n40_, n41_, n42_, n43_, n45_, n48_, n54_, n57_, n58_, n59_, n60_, n61_, n63_, n96_, n97_, n99_, n100_, n122_, n126_, n200_, n255_, n375_, n400_, n1000_, n2000_, n9999_, n5764801_, n1000000_, n3000_, m1, m2, le_t, le_f, lt_t, lt_f, eq_t, eq_f, no_lt, no_le, le_no, lt_no, eq_no, no_eq, add_no, wib_t, clamp, nI_add, pk_mul, pk_sub, nor_, nand_, ndif_, shl_, sh1_, shr_, tbn, tb0, tb1, les_t, les_f, pk_div, rem_, remv, and31, wu1, wuc, wui, wu2, ws1, wsc, ws2, wv1, n11_, n13_, n14_, n15_, n17_, n19_, n23_, n56_, n64_, fX11_tests_b76, fX11_tests_b105, q, q2, q3, e]
  · simp (disch := omega) only [↓reduceIte, wlet, Option.bind_some, true_and, and_true, not_true_eq_false, not_false_eq_true, reduceCtorEq, n0_, n1_, n2_, n3_, n4_, n5_, n6_, n7_, n8_, n9_, n10_, n12_, n16_, n18_, n20_, n21_, n22_, n24_, n25_, n26_, n27_, n28_, n29_, n30_, n31_, n32_, n40_, n41_, n42_, n43_, n45_, n48_, n54_, n57_, n58_, n59_, n60_, n61_, n63_, n96_, n97_, n99_, n100_, n122_, n126_, n200_, n255_, n375_, n400_, n1000_, n2000_, n9999_, n5764801_, n1000000_, n3000_, m1, m2, le_t, le_f, lt_t, lt_f, eq_t, eq_f, no_lt, no_le, le_no, lt_no, eq_no, no_eq, add_no, wib_t, clamp, nI_add, pk_mul, pk_sub, nor_, nand_, ndif_, shl_, sh1_, shr_, tbn, tb0, tb1, les_t, les_f, pk_div, rem_, remv, and31, wu1, wuc, wui, wu2, ws1, wsc, ws2, wv1, n11_, n13_, n14_, n15_, n17_, n19_, n23_, n56_, n64_, fX11_tests_b76, q, e]
theorem r_44 {x : Int32} (hd : d ≤ 5) : fX11_tests_b44 h (nI d) x = fX11_tests_b76 h (nI d) (if h.1 208 d = nI 25 then (if h.1 207 d = h.1 209 d then nI 1 else nI 0) else x) := by
  by_cases q : h.1 208 d = nI 25
  · by_cases q2 : h.1 207 d = h.1 209 d
    · simp (disch := omega) only [↓reduceIte, wlet, Option.bind_some, true_and, and_true, not_true_eq_false, not_false_eq_true, reduceCtorEq, n0_, n1_, n2_, n3_, n4_, n5_, n6_, n7_, n8_, n9_, n10_, n12_, n16_, n18_, n20_, n21_, n22_, n24_, n25_, n26_, n27_, n28_, n29_, n30_, n31_, n32_, n40_, n41_, n42_, n43_, n45_, n48_, n54_, n57_, n58_, n59_, n60_, n61_, n63_, n96_, n97_, n99_, n100_, n122_, n126_, n200_, n255_, n375_, n400_, n1000_, n2000_, n9999_, n5764801_, n1000000_, n3000_, m1, m2, le_t, le_f, lt_t, lt_f, eq_t, eq_f, no_lt, no_le, le_no, lt_no, eq_no, no_eq, add_no, wib_t, clamp, nI_add, pk_mul, pk_sub, nor_, nand_, ndif_, shl_, sh1_, shr_, tbn, tb0, tb1, les_t, les_f, pk_div, rem_, remv, and31, wu1, wuc, wui, wu2, ws1, wsc, ws2, wv1, n11_, n13_, n14_, n15_, n17_, n19_, n23_, n56_, n64_, fX11_tests_b44, fX11_tests_b75, q, q2]
    · simp (disch := omega) only [↓reduceIte, wlet, Option.bind_some, true_and, and_true, not_true_eq_false, not_false_eq_true, reduceCtorEq, n0_, n1_, n2_, n3_, n4_, n5_, n6_, n7_, n8_, n9_, n10_, n12_, n16_, n18_, n20_, n21_, n22_, n24_, n25_, n26_, n27_, n28_, n29_, n30_, n31_, n32_, n40_, n41_, n42_, n43_, n45_, n48_, n54_, n57_, n58_, n59_, n60_, n61_, n63_, n96_, n97_, n99_, n100_, n122_, n126_, n200_, n255_, n375_, n400_, n1000_, n2000_, n9999_, n5764801_, n1000000_, n3000_, m1, m2, le_t, le_f, lt_t, lt_f, eq_t, eq_f, no_lt, no_le, le_no, lt_no, eq_no, no_eq, add_no, wib_t, clamp, nI_add, pk_mul, pk_sub, nor_, nand_, ndif_, shl_, sh1_, shr_, tbn, tb0, tb1, les_t, les_f, pk_div, rem_, remv, and31, wu1, wuc, wui, wu2, ws1, wsc, ws2, wv1, n11_, n13_, n14_, n15_, n17_, n19_, n23_, n56_, n64_, fX11_tests_b44, fX11_tests_b75, q, q2]
  · simp (disch := omega) only [↓reduceIte, wlet, Option.bind_some, true_and, and_true, not_true_eq_false, not_false_eq_true, reduceCtorEq, n0_, n1_, n2_, n3_, n4_, n5_, n6_, n7_, n8_, n9_, n10_, n12_, n16_, n18_, n20_, n21_, n22_, n24_, n25_, n26_, n27_, n28_, n29_, n30_, n31_, n32_, n40_, n41_, n42_, n43_, n45_, n48_, n54_, n57_, n58_, n59_, n60_, n61_, n63_, n96_, n97_, n99_, n100_, n122_, n126_, n200_, n255_, n375_, n400_, n1000_, n2000_, n9999_, n5764801_, n1000000_, n3000_, m1, m2, le_t, le_f, lt_t, lt_f, eq_t, eq_f, no_lt, no_le, le_no, lt_no, eq_no, no_eq, add_no, wib_t, clamp, nI_add, pk_mul, pk_sub, nor_, nand_, ndif_, shl_, sh1_, shr_, tbn, tb0, tb1, les_t, les_f, pk_div, rem_, remv, and31, wu1, wuc, wui, wu2, ws1, wsc, ws2, wv1, n11_, n13_, n14_, n15_, n17_, n19_, n23_, n56_, n64_, fX11_tests_b44, q]
theorem r_tests (hd : d ≤ 5) : fX11_tests h (nI d) = some (tsr h d) := by
  have es := r_sums (h := h) hd
  have e4 := fun y => r_44 (h := wuI (wuI h 209 d (vS h d)) 212 d (nI 0)) (d := d) (x := y) hd
  have e7 := fun y => r_76 (h := wuI (wuI h 209 d (vS h d)) 212 d (nI 0)) (d := d) (x := y) hd
  have c8 : (wuI (wuI h 209 d (vS h d)) 212 d (nI 0)).1 208 d = h.1 208 d := by rw [wuc (by omega), wuc (by omega)]
  have c9 : (wuI (wuI h 209 d (vS h d)) 212 d (nI 0)).1 209 d = vS h d := by rw [wuc (by omega), wu1]
  have c7 : (wuI (wuI h 209 d (vS h d)) 212 d (nI 0)).1 207 d = h.1 207 d := by rw [wuc (by omega), wuc (by omega)]
  have c6 : (wuI (wuI h 209 d (vS h d)) 212 d (nI 0)).1 206 d = h.1 206 d := by rw [wuc (by omega), wuc (by omega)]
  have c5 : (wuI (wuI h 209 d (vS h d)) 212 d (nI 0)).1 205 d = h.1 205 d := by rw [wuc (by omega), wuc (by omega)]
  have cl : (nI d).toNatClampNeg = d := clamp (by omega)
  have wi : wib (nI d) 7 := by rw [wib_t (by omega) (by omega)]; trivial
  unfold fX11_tests
  rw [es, Option.bind_some, if_pos wi, cl, c8, c9, c7]
  unfold fX11_tests_b43
  rw [e4, e4, e4, e7, e7, e7, c8, c9, c7, c6, c5]
  unfold tsr vK vT
  by_cases q : h.1 208 d = 24
  · rw [if_pos q, if_pos (show h.1 208 d = nI 24 from q)]
    have n25 : ¬ h.1 208 d = nI 25 := by rw [show h.1 208 d = nI 24 from q]; decide
    rw [if_neg n25, if_neg n25]
    by_cases q2 : vS h d ≤ h.1 207 d
    · rw [if_pos q2, if_pos q2]; rfl
    · rw [if_neg q2, if_neg q2]; rfl
  · rw [if_neg q, if_neg (show ¬ h.1 208 d = nI 24 from q)]
theorem m_268 {x y : Int32} : ∀ (d N : Nat) (w : Int32), d ≤ 5 → d < N → (∀ i, 1 ≤ i → i ≤ d → h.1 213 i = nI (o i) ∧ o i ≤ 1) → wit (fun v : (Int32 × Int32) => fX11_worked_l268 h x y v.1 v.2) N (nI d, w) = some (nI (uw o d), ngs o d w)
  | 0, N, w, _, hN, _ => by
    obtain ⟨M, rfl⟩ : ∃ m, N = m + 1 := ⟨N - 1, by omega⟩
    have e : fX11_worked_l268 h x y (nI 0) w = some (.inr (nI 0, w)) := by
      simp (disch := omega) only [↓reduceIte, wlet, Option.bind_some, true_and, and_true, not_true_eq_false, not_false_eq_true, reduceCtorEq, n0_, n1_, n2_, n3_, n4_, n5_, n6_, n7_, n8_, n9_, n10_, n12_, n16_, n18_, n20_, n21_, n22_, n24_, n25_, n26_, n27_, n28_, n29_, n30_, n31_, n32_, n40_, n41_, n42_, n43_, n45_, n48_, n54_, n57_, n58_, n59_, n60_, n61_, n63_, n96_, n97_, n99_, n100_, n122_, n126_, n200_, n255_, n375_, n400_, n1000_, n2000_, n9999_, n5764801_, n1000000_, n3000_, m1, m2, le_t, le_f, lt_t, lt_f, eq_t, eq_f, no_lt, no_le, le_no, lt_no, eq_no, no_eq, add_no, wib_t, clamp, nI_add, pk_mul, pk_sub, nor_, nand_, ndif_, shl_, sh1_, shr_, tbn, tb0, tb1, les_t, les_f, pk_div, rem_, remv, and31, wu1, wuc, wui, wu2, ws1, wsc, ws2, wv1, n11_, n13_, n14_, n15_, n17_, n19_, n23_, n56_, n64_, fX11_worked_l268]
    rw [wit, e]
    rfl
  | d + 1, N, w, hd, hN, ho => by
    obtain ⟨M, rfl⟩ : ∃ m, N = m + 1 := ⟨N - 1, by omega⟩
    obtain ⟨h1, h2⟩ := ho (d + 1) (by omega) (by omega)
    rw [uw, ngs]
    by_cases q : o (d + 1) = 1
    · have e : fX11_worked_l268 h x y (nI (d + 1)) w = some (.inl (nI d, vN w)) := by
        rw [q] at h1
        unfold vN
        by_cases q2 : w = nI 0
        · rw [if_pos (show w = 0 from q2)]
          simp (disch := omega) only [↓reduceIte, wlet, Option.bind_some, true_and, and_true, not_true_eq_false, not_false_eq_true, reduceCtorEq, n0_, n1_, n2_, n3_, n4_, n5_, n6_, n7_, n8_, n9_, n10_, n12_, n16_, n18_, n20_, n21_, n22_, n24_, n25_, n26_, n27_, n28_, n29_, n30_, n31_, n32_, n40_, n41_, n42_, n43_, n45_, n48_, n54_, n57_, n58_, n59_, n60_, n61_, n63_, n96_, n97_, n99_, n100_, n122_, n126_, n200_, n255_, n375_, n400_, n1000_, n2000_, n9999_, n5764801_, n1000000_, n3000_, m1, m2, le_t, le_f, lt_t, lt_f, eq_t, eq_f, no_lt, no_le, le_no, lt_no, eq_no, no_eq, add_no, wib_t, clamp, nI_add, pk_mul, pk_sub, nor_, nand_, ndif_, shl_, sh1_, shr_, tbn, tb0, tb1, les_t, les_f, pk_div, rem_, remv, and31, wu1, wuc, wui, wu2, ws1, wsc, ws2, wv1, n11_, n13_, n14_, n15_, n17_, n19_, n23_, n56_, n64_, fX11_worked_l268, fX11_worked_b292_268, h1, q2, Nat.add_sub_cancel]
        · rw [if_neg (show ¬ w = 0 from q2)]
          simp (disch := omega) only [↓reduceIte, wlet, Option.bind_some, true_and, and_true, not_true_eq_false, not_false_eq_true, reduceCtorEq, n0_, n1_, n2_, n3_, n4_, n5_, n6_, n7_, n8_, n9_, n10_, n12_, n16_, n18_, n20_, n21_, n22_, n24_, n25_, n26_, n27_, n28_, n29_, n30_, n31_, n32_, n40_, n41_, n42_, n43_, n45_, n48_, n54_, n57_, n58_, n59_, n60_, n61_, n63_, n96_, n97_, n99_, n100_, n122_, n126_, n200_, n255_, n375_, n400_, n1000_, n2000_, n9999_, n5764801_, n1000000_, n3000_, m1, m2, le_t, le_f, lt_t, lt_f, eq_t, eq_f, no_lt, no_le, le_no, lt_no, eq_no, no_eq, add_no, wib_t, clamp, nI_add, pk_mul, pk_sub, nor_, nand_, ndif_, shl_, sh1_, shr_, tbn, tb0, tb1, les_t, les_f, pk_div, rem_, remv, and31, wu1, wuc, wui, wu2, ws1, wsc, ws2, wv1, n11_, n13_, n14_, n15_, n17_, n19_, n23_, n56_, n64_, fX11_worked_l268, fX11_worked_b292_268, h1, q2, Nat.add_sub_cancel]
      rw [if_pos q, if_pos q, wit, e]
      exact m_268 d M (vN w) (by omega) (by omega) (fun i h1 h2 => ho i h1 (by omega))
    · have e : fX11_worked_l268 h x y (nI (d + 1)) w = some (.inr (nI (d + 1), w)) := by
        simp (disch := omega) only [↓reduceIte, wlet, Option.bind_some, true_and, and_true, not_true_eq_false, not_false_eq_true, reduceCtorEq, n0_, n1_, n2_, n3_, n4_, n5_, n6_, n7_, n8_, n9_, n10_, n12_, n16_, n18_, n20_, n21_, n22_, n24_, n25_, n26_, n27_, n28_, n29_, n30_, n31_, n32_, n40_, n41_, n42_, n43_, n45_, n48_, n54_, n57_, n58_, n59_, n60_, n61_, n63_, n96_, n97_, n99_, n100_, n122_, n126_, n200_, n255_, n375_, n400_, n1000_, n2000_, n9999_, n5764801_, n1000000_, n3000_, m1, m2, le_t, le_f, lt_t, lt_f, eq_t, eq_f, no_lt, no_le, le_no, lt_no, eq_no, no_eq, add_no, wib_t, clamp, nI_add, pk_mul, pk_sub, nor_, nand_, ndif_, shl_, sh1_, shr_, tbn, tb0, tb1, les_t, les_f, pk_div, rem_, remv, and31, wu1, wuc, wui, wu2, ws1, wsc, ws2, wv1, n11_, n13_, n14_, n15_, n17_, n19_, n23_, n56_, n64_, fX11_worked_l268, h1]
      rw [if_neg q, if_neg q, wit, e]
/-- a value comes to a part's place -/
theorem m_dlv (hd : d ≤ 5) (ho : ∀ i, 1 ≤ i → i ≤ d → h.1 213 i = nI (o i) ∧ o i ≤ 1) {x : Int32} {c : Nat} (hc : c ≠ 29) (hc2 : c < 20000) (hk : k < 1000) : fX11_worked_b243_14 h (nI 0) (nI d) (nI k) (nI c) x = some (.inl (nI (uw o d), nI (k + 1), wuI h 211 (uw o d) (if h.1 212 (uw o d) = nI 0 then ngs o d x else h.1 211 (uw o d) * ngs o d x))) := by
  have w := m_268 (x := nI 0) (y := nI k) d 3000 x hd (by omega) ho
  have hu := uw_le (o := o) (d := d)
  by_cases q : h.1 212 (uw o d) = nI 0
  · rw [if_pos q]
    simp (disch := omega) only [↓reduceIte, wlet, Option.bind_some, true_and, and_true, not_true_eq_false, not_false_eq_true, reduceCtorEq, n0_, n1_, n2_, n3_, n4_, n5_, n6_, n7_, n8_, n9_, n10_, n12_, n16_, n18_, n20_, n21_, n22_, n24_, n25_, n26_, n27_, n28_, n29_, n30_, n31_, n32_, n40_, n41_, n42_, n43_, n45_, n48_, n54_, n57_, n58_, n59_, n60_, n61_, n63_, n96_, n97_, n99_, n100_, n122_, n126_, n200_, n255_, n375_, n400_, n1000_, n2000_, n9999_, n5764801_, n1000000_, n3000_, m1, m2, le_t, le_f, lt_t, lt_f, eq_t, eq_f, no_lt, no_le, le_no, lt_no, eq_no, no_eq, add_no, wib_t, clamp, nI_add, pk_mul, pk_sub, nor_, nand_, ndif_, shl_, sh1_, shr_, tbn, tb0, tb1, les_t, les_f, pk_div, rem_, remv, and31, wu1, wuc, wui, wu2, ws1, wsc, ws2, wv1, n11_, n13_, n14_, n15_, n17_, n19_, n23_, n56_, n64_, fX11_worked_b243_14, fX11_worked_b328_14, fX11_worked_b329_14, w, q]
  · rw [if_neg q]
    simp (disch := omega) only [↓reduceIte, wlet, Option.bind_some, true_and, and_true, not_true_eq_false, not_false_eq_true, reduceCtorEq, n0_, n1_, n2_, n3_, n4_, n5_, n6_, n7_, n8_, n9_, n10_, n12_, n16_, n18_, n20_, n21_, n22_, n24_, n25_, n26_, n27_, n28_, n29_, n30_, n31_, n32_, n40_, n41_, n42_, n43_, n45_, n48_, n54_, n57_, n58_, n59_, n60_, n61_, n63_, n96_, n97_, n99_, n100_, n122_, n126_, n200_, n255_, n375_, n400_, n1000_, n2000_, n9999_, n5764801_, n1000000_, n3000_, m1, m2, le_t, le_f, lt_t, lt_f, eq_t, eq_f, no_lt, no_le, le_no, lt_no, eq_no, no_eq, add_no, wib_t, clamp, nI_add, pk_mul, pk_sub, nor_, nand_, ndif_, shl_, sh1_, shr_, tbn, tb0, tb1, les_t, les_f, pk_div, rem_, remv, and31, wu1, wuc, wui, wu2, ws1, wsc, ws2, wv1, n11_, n13_, n14_, n15_, n17_, n19_, n23_, n56_, n64_, fX11_worked_b243_14, fX11_worked_b328_14, fX11_worked_b329_14, w, q]
theorem m_dlv29 (hd : d ≤ 4) (ho : ∀ i, 1 ≤ i → i ≤ d → h.1 213 i = nI (o i) ∧ o i ≤ 1) (hk : k < 1000) : ∃ g, fX11_worked_b243_14 h (nI 0) (nI (d + 1)) (nI k) (nI 29) (nI 0) = some (.inl (nI (uw o d), nI (k + 1), g)) ∧ gKU (uw o d) h g ∧ g.1 211 (uw o d) = (if h.1 212 (uw o d) = nI 0 then ngs o d (vK h (d + 1)) else h.1 211 (uw o d) * ngs o d (vK h (d + 1))) := by
  have et := r_tests (h := h) (d := d + 1) (by omega)
  have kt : ∀ c j, j ≤ d → (tsr h (d + 1)).1 c j = h.1 c j := fun c j hj => by
    have one : ∀ (f : wSt) (a : Nat) (y : Int32), (wuI f a (d + 1) y).1 c j = f.1 c j := fun f a y => by
      by_cases z : c = a
      · subst z; exact wui (by omega)
      · rw [wuc z]
    unfold tsr
    rw [one, one, one, one, one, one]
  have ft : fr sz h (tsr h (d + 1)) := by
    unfold tsr
    exact fr_tr (fr_tr (fr_tr (fr_tr (fr_tr (fr_wuI (by unfold sz; omega)) (fr_wuI (by unfold sz; omega))) (fr_wuI (by unfold sz; omega))) (fr_wuI (by unfold sz; omega))) (fr_wuI (by unfold sz; omega))) (fr_wuI (by unfold sz; omega))
  have v5 : (tsr h (d + 1)).1 205 (d + 1) = vK h (d + 1) := by
    unfold tsr
    rw [wuc (by omega), wuc (by omega), wuc (by omega), wu1]
  have hu := uw_le (o := o) (d := d)
  have w := m_268 (h := tsr h (d + 1)) (x := nI 0) (y := nI k) d 3000 (vK h (d + 1)) (by omega) (by omega) (fun i h1 h2 => by rw [kt 213 i h2]; exact ho i h1 h2)
  have c12 := kt 212 (uw o d) hu
  have c11 := kt 211 (uw o d) hu
  refine ⟨wuI (tsr h (d + 1)) 211 (uw o d) (if h.1 212 (uw o d) = nI 0 then ngs o d (vK h (d + 1)) else h.1 211 (uw o d) * ngs o d (vK h (d + 1))), ?_, ⟨fr_tr ft (fr_wuI (by unfold sz; omega)), fun c j hj => ?_⟩, wu1⟩
  · by_cases q : h.1 212 (uw o d) = nI 0
    · rw [if_pos q]
      simp (disch := omega) only [↓reduceIte, wlet, Option.bind_some, true_and, and_true, not_true_eq_false, not_false_eq_true, reduceCtorEq, n0_, n1_, n2_, n3_, n4_, n5_, n6_, n7_, n8_, n9_, n10_, n12_, n16_, n18_, n20_, n21_, n22_, n24_, n25_, n26_, n27_, n28_, n29_, n30_, n31_, n32_, n40_, n41_, n42_, n43_, n45_, n48_, n54_, n57_, n58_, n59_, n60_, n61_, n63_, n96_, n97_, n99_, n100_, n122_, n126_, n200_, n255_, n375_, n400_, n1000_, n2000_, n9999_, n5764801_, n1000000_, n3000_, m1, m2, le_t, le_f, lt_t, lt_f, eq_t, eq_f, no_lt, no_le, le_no, lt_no, eq_no, no_eq, add_no, wib_t, clamp, nI_add, pk_mul, pk_sub, nor_, nand_, ndif_, shl_, sh1_, shr_, tbn, tb0, tb1, les_t, les_f, pk_div, rem_, remv, and31, wu1, wuc, wui, wu2, ws1, wsc, ws2, wv1, n11_, n13_, n14_, n15_, n17_, n19_, n23_, n56_, n64_, fX11_worked_b243_14, fX11_worked_b328_14, fX11_worked_b329_14, et, v5, Nat.add_sub_cancel, w, c12, q]
    · rw [if_neg q]
      simp (disch := omega) only [↓reduceIte, wlet, Option.bind_some, true_and, and_true, not_true_eq_false, not_false_eq_true, reduceCtorEq, n0_, n1_, n2_, n3_, n4_, n5_, n6_, n7_, n8_, n9_, n10_, n12_, n16_, n18_, n20_, n21_, n22_, n24_, n25_, n26_, n27_, n28_, n29_, n30_, n31_, n32_, n40_, n41_, n42_, n43_, n45_, n48_, n54_, n57_, n58_, n59_, n60_, n61_, n63_, n96_, n97_, n99_, n100_, n122_, n126_, n200_, n255_, n375_, n400_, n1000_, n2000_, n9999_, n5764801_, n1000000_, n3000_, m1, m2, le_t, le_f, lt_t, lt_f, eq_t, eq_f, no_lt, no_le, le_no, lt_no, eq_no, no_eq, add_no, wib_t, clamp, nI_add, pk_mul, pk_sub, nor_, nand_, ndif_, shl_, sh1_, shr_, tbn, tb0, tb1, les_t, les_f, pk_div, rem_, remv, and31, wu1, wuc, wui, wu2, ws1, wsc, ws2, wv1, n11_, n13_, n14_, n15_, n17_, n19_, n23_, n56_, n64_, fX11_worked_b243_14, fX11_worked_b328_14, fX11_worked_b329_14, et, v5, Nat.add_sub_cancel, w, c12, c11, q]
  · by_cases z : c = 211
    · subst z
      rw [wui (by omega), kt 211 j (by omega)]
    · rw [wuc z, kt c j (by omega)]
/-- opening -/
def opr (h : wSt) (d w : Nat) : wSt := wuI (wuI (wuI (wuI (wuI (wuI h 213 d (nI w)) 206 d (nI 0)) 208 d (nI 0)) 209 d (nI 0)) 210 d (nI 20)) 212 d (nI 0)
theorem opr_k {w : Nat} : fr sz h (opr h d w) ∧ (∀ c j, j < d → (opr h d w).1 c j = h.1 c j) ∧ (opr h d w).1 213 d = nI w ∧ gPre 0 (opr h d w) d := by
  have one : ∀ c j, j < d → ∀ (f : wSt) (a : Nat) (y : Int32), (wuI f a d y).1 c j = f.1 c j := fun c j hj f a y => by
    by_cases z : c = a
    · subst z; exact wui (by omega)
    · rw [wuc z]
  unfold opr
  refine ⟨fr_tr (fr_tr (fr_tr (fr_tr (fr_tr (fr_wuI (by unfold sz; omega)) (fr_wuI (by unfold sz; omega))) (fr_wuI (by unfold sz; omega))) (fr_wuI (by unfold sz; omega))) (fr_wuI (by unfold sz; omega))) (fr_wuI (by unfold sz; omega)), fun c j hj => ?_, ?_, wu1, fun _ => ⟨?_, ?_⟩, fun _ => ?_, fun _ => ?_⟩
  · rw [one c j hj, one c j hj, one c j hj, one c j hj, one c j hj, one c j hj]
  · rw [wuc (by omega), wuc (by omega), wuc (by omega), wuc (by omega), wuc (by omega), wu1]
  · rw [wuc (by omega), wuc (by omega), wu1]
  · rw [wuc (by omega), wu1]
  · rw [wuc (by omega), wuc (by omega), wuc (by omega), wu1]
  · rw [wuc (by omega), wuc (by omega), wuc (by omega), wuc (by omega), wu1]
theorem m_open {w : Nat} {x : Int32} (hw : (x = nI 28 ∧ w = 0) ∨ (x = nI 30 ∧ w = 1)) (hd : d ≤ 4) (hL : h.1 201 0 = nI L) (hk : k < L) (hL2 : L ≤ 1000) (hx : h.1 202 k = x) : mB (nI d, nI k, h) = some (.inl (nI (d + 1), nI (k + 1), opr h (d + 1) w)) := by
  show fX11_worked_l14 h (nI 0) (nI d) (nI k) = _
  unfold opr
  rcases hw with ⟨rfl, rfl⟩ | ⟨rfl, rfl⟩
  · simp (disch := omega) only [↓reduceIte, wlet, Option.bind_some, true_and, and_true, not_true_eq_false, not_false_eq_true, reduceCtorEq, n0_, n1_, n2_, n3_, n4_, n5_, n6_, n7_, n8_, n9_, n10_, n12_, n16_, n18_, n20_, n21_, n22_, n24_, n25_, n26_, n27_, n28_, n29_, n30_, n31_, n32_, n40_, n41_, n42_, n43_, n45_, n48_, n54_, n57_, n58_, n59_, n60_, n61_, n63_, n96_, n97_, n99_, n100_, n122_, n126_, n200_, n255_, n375_, n400_, n1000_, n2000_, n9999_, n5764801_, n1000000_, n3000_, m1, m2, le_t, le_f, lt_t, lt_f, eq_t, eq_f, no_lt, no_le, le_no, lt_no, eq_no, no_eq, add_no, wib_t, clamp, nI_add, pk_mul, pk_sub, nor_, nand_, ndif_, shl_, sh1_, shr_, tbn, tb0, tb1, les_t, les_f, pk_div, rem_, remv, and31, wu1, wuc, wui, wu2, ws1, wsc, ws2, wv1, n11_, n13_, n14_, n15_, n17_, n19_, n23_, n56_, n64_, fX11_worked_l14, fX11_worked_b46_14, fX11_worked_b66_14, fX11_worked_b329_14, fX11_opens, hL, hx]
  · simp (disch := omega) only [↓reduceIte, wlet, Option.bind_some, true_and, and_true, not_true_eq_false, not_false_eq_true, reduceCtorEq, n0_, n1_, n2_, n3_, n4_, n5_, n6_, n7_, n8_, n9_, n10_, n12_, n16_, n18_, n20_, n21_, n22_, n24_, n25_, n26_, n27_, n28_, n29_, n30_, n31_, n32_, n40_, n41_, n42_, n43_, n45_, n48_, n54_, n57_, n58_, n59_, n60_, n61_, n63_, n96_, n97_, n99_, n100_, n122_, n126_, n200_, n255_, n375_, n400_, n1000_, n2000_, n9999_, n5764801_, n1000000_, n3000_, m1, m2, le_t, le_f, lt_t, lt_f, eq_t, eq_f, no_lt, no_le, le_no, lt_no, eq_no, no_eq, add_no, wib_t, clamp, nI_add, pk_mul, pk_sub, nor_, nand_, ndif_, shl_, sh1_, shr_, tbn, tb0, tb1, les_t, les_f, pk_div, rem_, remv, and31, wu1, wuc, wui, wu2, ws1, wsc, ws2, wv1, n11_, n13_, n14_, n15_, n17_, n19_, n23_, n56_, n64_, fX11_worked_l14, fX11_worked_b46_14, fX11_worked_b66_14, fX11_worked_b329_14, fX11_opens, hL, hx]
theorem m_22 (hd : d ≤ 5) (hL : h.1 201 0 = nI L) (hk : k < L) (hL2 : L ≤ 1000) (hx : h.1 202 k = nI 22) : mB (nI d, nI k, h) = some (.inl (nI d, nI (k + 1), wuI h 212 d (nI 22))) := by
  show fX11_worked_l14 h (nI 0) (nI d) (nI k) = _
  simp (disch := omega) only [↓reduceIte, wlet, Option.bind_some, true_and, and_true, not_true_eq_false, not_false_eq_true, reduceCtorEq, n0_, n1_, n2_, n3_, n4_, n5_, n6_, n7_, n8_, n9_, n10_, n12_, n16_, n18_, n20_, n21_, n22_, n24_, n25_, n26_, n27_, n28_, n29_, n30_, n31_, n32_, n40_, n41_, n42_, n43_, n45_, n48_, n54_, n57_, n58_, n59_, n60_, n61_, n63_, n96_, n97_, n99_, n100_, n122_, n126_, n200_, n255_, n375_, n400_, n1000_, n2000_, n9999_, n5764801_, n1000000_, n3000_, m1, m2, le_t, le_f, lt_t, lt_f, eq_t, eq_f, no_lt, no_le, le_no, lt_no, eq_no, no_eq, add_no, wib_t, clamp, nI_add, pk_mul, pk_sub, nor_, nand_, ndif_, shl_, sh1_, shr_, tbn, tb0, tb1, les_t, les_f, pk_div, rem_, remv, and31, wu1, wuc, wui, wu2, ws1, wsc, ws2, wv1, n11_, n13_, n14_, n15_, n17_, n19_, n23_, n56_, n64_, fX11_worked_l14, fX11_worked_b329_14, hL, hx]
theorem m_20 {c : Nat} (hc : c = 20 ∨ c = 21) (hd : d ≤ 5) (hL : h.1 201 0 = nI L) (hk : k < L) (hL2 : L ≤ 1000) (hx : h.1 202 k = nI c) : mB (nI d, nI k, h) = some (.inl (nI d, nI (k + 1), wuI (wuI (wuI h 209 d (vS h d)) 212 d (nI 0)) 210 d (nI c))) := by
  show fX11_worked_l14 h (nI 0) (nI d) (nI k) = _
  have es := r_sums (h := h) hd
  rcases hc with rfl | rfl
  · simp (disch := omega) only [↓reduceIte, wlet, Option.bind_some, true_and, and_true, not_true_eq_false, not_false_eq_true, reduceCtorEq, n0_, n1_, n2_, n3_, n4_, n5_, n6_, n7_, n8_, n9_, n10_, n12_, n16_, n18_, n20_, n21_, n22_, n24_, n25_, n26_, n27_, n28_, n29_, n30_, n31_, n32_, n40_, n41_, n42_, n43_, n45_, n48_, n54_, n57_, n58_, n59_, n60_, n61_, n63_, n96_, n97_, n99_, n100_, n122_, n126_, n200_, n255_, n375_, n400_, n1000_, n2000_, n9999_, n5764801_, n1000000_, n3000_, m1, m2, le_t, le_f, lt_t, lt_f, eq_t, eq_f, no_lt, no_le, le_no, lt_no, eq_no, no_eq, add_no, wib_t, clamp, nI_add, pk_mul, pk_sub, nor_, nand_, ndif_, shl_, sh1_, shr_, tbn, tb0, tb1, les_t, les_f, pk_div, rem_, remv, and31, wu1, wuc, wui, wu2, ws1, wsc, ws2, wv1, n11_, n13_, n14_, n15_, n17_, n19_, n23_, n56_, n64_, fX11_worked_l14, fX11_worked_b89_14, fX11_worked_b329_14, hL, hx, es]
  · simp (disch := omega) only [↓reduceIte, wlet, Option.bind_some, true_and, and_true, not_true_eq_false, not_false_eq_true, reduceCtorEq, n0_, n1_, n2_, n3_, n4_, n5_, n6_, n7_, n8_, n9_, n10_, n12_, n16_, n18_, n20_, n21_, n22_, n24_, n25_, n26_, n27_, n28_, n29_, n30_, n31_, n32_, n40_, n41_, n42_, n43_, n45_, n48_, n54_, n57_, n58_, n59_, n60_, n61_, n63_, n96_, n97_, n99_, n100_, n122_, n126_, n200_, n255_, n375_, n400_, n1000_, n2000_, n9999_, n5764801_, n1000000_, n3000_, m1, m2, le_t, le_f, lt_t, lt_f, eq_t, eq_f, no_lt, no_le, le_no, lt_no, eq_no, no_eq, add_no, wib_t, clamp, nI_add, pk_mul, pk_sub, nor_, nand_, ndif_, shl_, sh1_, shr_, tbn, tb0, tb1, les_t, les_f, pk_div, rem_, remv, and31, wu1, wuc, wui, wu2, ws1, wsc, ws2, wv1, n11_, n13_, n14_, n15_, n17_, n19_, n23_, n56_, n64_, fX11_worked_l14, fX11_worked_b89_14, fX11_worked_b329_14, hL, hx, es]
theorem m_24 {c : Nat} (hc : c = 24 ∨ c = 25) (hd : d ≤ 5) (hL : h.1 201 0 = nI L) (hk : k < L) (hL2 : L ≤ 1000) (hx : h.1 202 k = nI c) : mB (nI d, nI k, h) = some (.inl (nI d, nI (k + 1), wuI (wuI (wuI (wuI (wuI (wuI h 209 d (vS h d)) 212 d (nI 0)) 207 d (vS h d)) 208 d (nI c)) 209 d (nI 0)) 210 d (nI 20))) := by
  show fX11_worked_l14 h (nI 0) (nI d) (nI k) = _
  have es := r_sums (h := h) hd
  rcases hc with rfl | rfl
  · simp (disch := omega) only [↓reduceIte, wlet, Option.bind_some, true_and, and_true, not_true_eq_false, not_false_eq_true, reduceCtorEq, n0_, n1_, n2_, n3_, n4_, n5_, n6_, n7_, n8_, n9_, n10_, n12_, n16_, n18_, n20_, n21_, n22_, n24_, n25_, n26_, n27_, n28_, n29_, n30_, n31_, n32_, n40_, n41_, n42_, n43_, n45_, n48_, n54_, n57_, n58_, n59_, n60_, n61_, n63_, n96_, n97_, n99_, n100_, n122_, n126_, n200_, n255_, n375_, n400_, n1000_, n2000_, n9999_, n5764801_, n1000000_, n3000_, m1, m2, le_t, le_f, lt_t, lt_f, eq_t, eq_f, no_lt, no_le, le_no, lt_no, eq_no, no_eq, add_no, wib_t, clamp, nI_add, pk_mul, pk_sub, nor_, nand_, ndif_, shl_, sh1_, shr_, tbn, tb0, tb1, les_t, les_f, pk_div, rem_, remv, and31, wu1, wuc, wui, wu2, ws1, wsc, ws2, wv1, n11_, n13_, n14_, n15_, n17_, n19_, n23_, n56_, n64_, fX11_worked_l14, fX11_worked_b137_14, fX11_worked_b329_14, hL, hx, es]
  · simp (disch := omega) only [↓reduceIte, wlet, Option.bind_some, true_and, and_true, not_true_eq_false, not_false_eq_true, reduceCtorEq, n0_, n1_, n2_, n3_, n4_, n5_, n6_, n7_, n8_, n9_, n10_, n12_, n16_, n18_, n20_, n21_, n22_, n24_, n25_, n26_, n27_, n28_, n29_, n30_, n31_, n32_, n40_, n41_, n42_, n43_, n45_, n48_, n54_, n57_, n58_, n59_, n60_, n61_, n63_, n96_, n97_, n99_, n100_, n122_, n126_, n200_, n255_, n375_, n400_, n1000_, n2000_, n9999_, n5764801_, n1000000_, n3000_, m1, m2, le_t, le_f, lt_t, lt_f, eq_t, eq_f, no_lt, no_le, le_no, lt_no, eq_no, no_eq, add_no, wib_t, clamp, nI_add, pk_mul, pk_sub, nor_, nand_, ndif_, shl_, sh1_, shr_, tbn, tb0, tb1, les_t, les_f, pk_div, rem_, remv, and31, wu1, wuc, wui, wu2, ws1, wsc, ws2, wv1, n11_, n13_, n14_, n15_, n17_, n19_, n23_, n56_, n64_, fX11_worked_l14, fX11_worked_b137_14, fX11_worked_b329_14, hL, hx, es]
theorem m_26 {c : Nat} (hc : c = 26 ∨ c = 27) (hd : d ≤ 5) (hL : h.1 201 0 = nI L) (hk : k < L) (hL2 : L ≤ 1000) (hx : h.1 202 k = nI c) : mB (nI d, nI k, h) = some (.inl (nI d, nI (k + 1), wuI (tsr h d) 206 d (nI c))) := by
  show fX11_worked_l14 h (nI 0) (nI d) (nI k) = _
  have et := r_tests (h := h) hd
  rcases hc with rfl | rfl
  · simp (disch := omega) only [↓reduceIte, wlet, Option.bind_some, true_and, and_true, not_true_eq_false, not_false_eq_true, reduceCtorEq, n0_, n1_, n2_, n3_, n4_, n5_, n6_, n7_, n8_, n9_, n10_, n12_, n16_, n18_, n20_, n21_, n22_, n24_, n25_, n26_, n27_, n28_, n29_, n30_, n31_, n32_, n40_, n41_, n42_, n43_, n45_, n48_, n54_, n57_, n58_, n59_, n60_, n61_, n63_, n96_, n97_, n99_, n100_, n122_, n126_, n200_, n255_, n375_, n400_, n1000_, n2000_, n9999_, n5764801_, n1000000_, n3000_, m1, m2, le_t, le_f, lt_t, lt_f, eq_t, eq_f, no_lt, no_le, le_no, lt_no, eq_no, no_eq, add_no, wib_t, clamp, nI_add, pk_mul, pk_sub, nor_, nand_, ndif_, shl_, sh1_, shr_, tbn, tb0, tb1, les_t, les_f, pk_div, rem_, remv, and31, wu1, wuc, wui, wu2, ws1, wsc, ws2, wv1, n11_, n13_, n14_, n15_, n17_, n19_, n23_, n56_, n64_, fX11_worked_l14, fX11_worked_b194_14, fX11_worked_b329_14, hL, hx, et]
  · simp (disch := omega) only [↓reduceIte, wlet, Option.bind_some, true_and, and_true, not_true_eq_false, not_false_eq_true, reduceCtorEq, n0_, n1_, n2_, n3_, n4_, n5_, n6_, n7_, n8_, n9_, n10_, n12_, n16_, n18_, n20_, n21_, n22_, n24_, n25_, n26_, n27_, n28_, n29_, n30_, n31_, n32_, n40_, n41_, n42_, n43_, n45_, n48_, n54_, n57_, n58_, n59_, n60_, n61_, n63_, n96_, n97_, n99_, n100_, n122_, n126_, n200_, n255_, n375_, n400_, n1000_, n2000_, n9999_, n5764801_, n1000000_, n3000_, m1, m2, le_t, le_f, lt_t, lt_f, eq_t, eq_f, no_lt, no_le, le_no, lt_no, eq_no, no_eq, add_no, wib_t, clamp, nI_add, pk_mul, pk_sub, nor_, nand_, ndif_, shl_, sh1_, shr_, tbn, tb0, tb1, les_t, les_f, pk_div, rem_, remv, and31, wu1, wuc, wui, wu2, ws1, wsc, ws2, wv1, n11_, n13_, n14_, n15_, n17_, n19_, n23_, n56_, n64_, fX11_worked_l14, fX11_worked_b194_14, fX11_worked_b329_14, hL, hx, et]
theorem m_29 (hd : d ≤ 4) (hL : h.1 201 0 = nI L) (hk : k < L) (hL2 : L ≤ 1000) (hx : h.1 202 k = nI 29) : mB (nI (d + 1), nI k, h) = fX11_worked_b243_14 h (nI 0) (nI (d + 1)) (nI k) (nI 29) (nI 0) := by
  show fX11_worked_l14 h (nI 0) (nI (d + 1)) (nI k) = _
  simp (disch := omega) only [↓reduceIte, wlet, Option.bind_some, true_and, and_true, not_true_eq_false, not_false_eq_true, reduceCtorEq, n0_, n1_, n2_, n3_, n4_, n5_, n6_, n7_, n8_, n9_, n10_, n12_, n16_, n18_, n20_, n21_, n22_, n24_, n25_, n26_, n27_, n28_, n29_, n30_, n31_, n32_, n40_, n41_, n42_, n43_, n45_, n48_, n54_, n57_, n58_, n59_, n60_, n61_, n63_, n96_, n97_, n99_, n100_, n122_, n126_, n200_, n255_, n375_, n400_, n1000_, n2000_, n9999_, n5764801_, n1000000_, n3000_, m1, m2, le_t, le_f, lt_t, lt_f, eq_t, eq_f, no_lt, no_le, le_no, lt_no, eq_no, no_eq, add_no, wib_t, clamp, nI_add, pk_mul, pk_sub, nor_, nand_, ndif_, shl_, sh1_, shr_, tbn, tb0, tb1, les_t, les_f, pk_div, rem_, remv, and31, wu1, wuc, wui, wu2, ws1, wsc, ws2, wv1, n11_, n13_, n14_, n15_, n17_, n19_, n23_, n56_, n64_, fX11_worked_l14, hL, hx]
theorem m_num {n : Nat} (hn : n < 10000) (hd : d ≤ 5) (hL : h.1 201 0 = nI L) (hk : k < L) (hL2 : L ≤ 1000) (hx : h.1 202 k = nI (100 + n)) : mB (nI d, nI k, h) = fX11_worked_b243_14 h (nI 0) (nI d) (nI k) (nI (100 + n)) (nI n) := by
  show fX11_worked_l14 h (nI 0) (nI d) (nI k) = _
  simp (disch := omega) only [↓reduceIte, wlet, Option.bind_some, true_and, and_true, not_true_eq_false, not_false_eq_true, reduceCtorEq, n0_, n1_, n2_, n3_, n4_, n5_, n6_, n7_, n8_, n9_, n10_, n12_, n16_, n18_, n20_, n21_, n22_, n24_, n25_, n26_, n27_, n28_, n29_, n30_, n31_, n32_, n40_, n41_, n42_, n43_, n45_, n48_, n54_, n57_, n58_, n59_, n60_, n61_, n63_, n96_, n97_, n99_, n100_, n122_, n126_, n200_, n255_, n375_, n400_, n1000_, n2000_, n9999_, n5764801_, n1000000_, n3000_, m1, m2, le_t, le_f, lt_t, lt_f, eq_t, eq_f, no_lt, no_le, le_no, lt_no, eq_no, no_eq, add_no, wib_t, clamp, nI_add, pk_mul, pk_sub, nor_, nand_, ndif_, shl_, sh1_, shr_, tbn, tb0, tb1, les_t, les_f, pk_div, rem_, remv, and31, wu1, wuc, wui, wu2, ws1, wsc, ws2, wv1, n11_, n13_, n14_, n15_, n17_, n19_, n23_, n56_, n64_, fX11_worked_l14, hL, hx, Nat.add_sub_cancel_left]
theorem m_fct {n : Nat} (hn : 1 ≤ n) (hn4 : n ≤ 4) (hd : d ≤ 5) (hL : h.1 201 0 = nI L) (hk : k < L) (hL2 : L ≤ 1000) (hx : h.1 202 k = nI n) : mB (nI d, nI k, h) = fX11_worked_b243_14 h (nI 0) (nI d) (nI k) (nI n) (h.1 214 n) := by
  show fX11_worked_l14 h (nI 0) (nI d) (nI k) = _
  simp (disch := omega) only [↓reduceIte, wlet, Option.bind_some, true_and, and_true, not_true_eq_false, not_false_eq_true, reduceCtorEq, n0_, n1_, n2_, n3_, n4_, n5_, n6_, n7_, n8_, n9_, n10_, n12_, n16_, n18_, n20_, n21_, n22_, n24_, n25_, n26_, n27_, n28_, n29_, n30_, n31_, n32_, n40_, n41_, n42_, n43_, n45_, n48_, n54_, n57_, n58_, n59_, n60_, n61_, n63_, n96_, n97_, n99_, n100_, n122_, n126_, n200_, n255_, n375_, n400_, n1000_, n2000_, n9999_, n5764801_, n1000000_, n3000_, m1, m2, le_t, le_f, lt_t, lt_f, eq_t, eq_f, no_lt, no_le, le_no, lt_no, eq_no, no_eq, add_no, wib_t, clamp, nI_add, pk_mul, pk_sub, nor_, nand_, ndif_, shl_, sh1_, shr_, tbn, tb0, tb1, les_t, les_f, pk_div, rem_, remv, and31, wu1, wuc, wui, wu2, ws1, wsc, ws2, wv1, n11_, n13_, n14_, n15_, n17_, n19_, n23_, n56_, n64_, fX11_worked_l14, hL, hx]
end G83

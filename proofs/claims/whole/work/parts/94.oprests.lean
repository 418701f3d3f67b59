/-! THE LECTERN: both sides alike -/
theorem rs_c {α : Type} {p1 q1 p2 q2 : Int32} {A B : Option α} : ((if p1 < q1 then some false else some true).bind (fun ya => if ya = true then (if p2 < q2 then some false else some true).bind (fun yb => if yb = true then A else B) else B)) = if ¬ p1 < q1 ∧ ¬ p2 < q2 then A else B := by
  by_cases h1 : p1 < q1
  · have n : ¬ (¬ p1 < q1 ∧ ¬ p2 < q2) := fun z => z.1 h1
    rw [if_neg n, if_pos h1]; rfl
  · rw [if_neg h1]
    by_cases h2 : p2 < q2
    · have n : ¬ (¬ p1 < q1 ∧ ¬ p2 < q2) := fun z => z.2 h2
      rw [if_neg n, if_pos h2]; rfl
    · rw [if_pos (show ¬ p1 < q1 ∧ ¬ p2 < q2 from ⟨h1, h2⟩), if_neg h2]; rfl
theorem rs_r {α : Type} {p1 q1 p2 q2 : Int32} {A B : Option α} : (if p1 < q1 then B else if q2 ≤ p2 then A else B) = if ¬ p1 < q1 ∧ ¬ p2 < q2 then A else B := by
  by_cases h1 : p1 < q1
  · have n : ¬ (¬ p1 < q1 ∧ ¬ p2 < q2) := fun z => z.1 h1
    rw [if_neg n, if_pos h1]
  · rw [if_neg h1]
    by_cases h2 : p2 < q2
    · have n : ¬ (¬ p1 < q1 ∧ ¬ p2 < q2) := fun z => z.2 h2
      rw [if_neg n, if_neg (Int32.not_le.mpr h2)]
    · rw [if_pos (show ¬ p1 < q1 ∧ ¬ p2 < q2 from ⟨h1, h2⟩), if_pos (Int32.not_lt.mp h2)]
theorem z10 : ((1 : Int32) = 0) = False := eq_false (by decide)
theorem z01 : ((0 : Int32) = 1) = False := eq_false (by decide)
theorem ic00 {h : wSt} {a b c : Int32} : fX10_isContent h 0 0 a b c = if (0 : Int32) < b then some false else some true := by
  simp only [fX10_isContent, fX10_isContent_b18, fX10_gainOf, Option.bind_some, z10, ↓reduceIte]
theorem ic01 {h : wSt} {a b c : Int32} : fX10_isContent h 0 1 a b c = if c < -a then some false else some true := by
  simp only [fX10_isContent, fX10_isContent_b18, fX10_gainOf, Option.bind_some, z10, ↓reduceIte]
theorem ic10 {h : wSt} {a b c : Int32} : fX10_isContent h 1 0 a b c = if b < 0 then some false else some true := by
  simp only [fX10_isContent, fX10_isContent_b18, fX10_gainOf, Option.bind_some, z10, ↓reduceIte]
theorem ic11 {h : wSt} {a b c : Int32} : fX10_isContent h 1 1 a b c = if -a < c then some false else some true := by
  simp only [fX10_isContent, fX10_isContent_b18, fX10_gainOf, Option.bind_some, z10, ↓reduceIte]
theorem gb00 {h : wSt} {a b c : Int32} : fX11_getsBy h a b c 0 0 = some 0 := by simp only [fX11_getsBy, z01, ↓reduceIte]
theorem gb01 {h : wSt} {a b c : Int32} : fX11_getsBy h a b c 0 1 = some c := by simp only [fX11_getsBy, z01, ↓reduceIte]
theorem gb10 {h : wSt} {a b c : Int32} : fX11_getsBy h a b c 1 0 = some b := by simp only [fX11_getsBy, z01, ↓reduceIte]
theorem gb11 {h : wSt} {a b c : Int32} : fX11_getsBy h a b c 1 1 = some (-a) := by simp only [fX11_getsBy, ↓reduceIte]
section G94
variable {h g : wSt} {k : Nat}
/-- one choice of both, each side -/
theorem rst (a b c x4 : Int32) {j : Nat} (hj : j < 4) : ∃ p1 q1 p2 q2 : Int32, (∀ (h : wSt) (v5 : Int32), fX10_rests_l41 h a b c x4 v5 (nI j) = if ¬ p1 < q1 ∧ ¬ p2 < q2 then (if v5 = x4 then some (.inr (some (nI j))) else some (.inl (v5 + 1, nI (j + 1)))) else some (.inl (v5, nI (j + 1)))) ∧ ∀ (h : wSt) (v5 : Int32), fX11_rests_l61 h a b c x4 v5 (nI j) = if ¬ p1 < q1 ∧ ¬ p2 < q2 then (if v5 = x4 then some (.inr (.inr (nI j, h))) else some (.inl (v5 + 1, nI (j + 1)))) else some (.inl (v5, nI (j + 1))) := by
  have h0 : j = 0 ∨ j = 1 ∨ j = 2 ∨ j = 3 := by omega
  rcases h0 with rfl | rfl | rfl | rfl
  · refine ⟨0, b, 0, b, fun h v5 => ?_, fun h v5 => ?_⟩
    · unfold fX10_rests_l41
      rw [if_neg (show ¬ (4 : Int32) ≤ nI 0 by decide), if_pos (show nI 0 < (2 : Int32) by decide)]
      unfold fX10_rests_b58
      rw [if_neg (show ¬ nI 0 - nI 0 / 2 * 2 = 1 by decide)]
      unfold fX10_rests_b75
      rw [ic00, rs_c, show nI 0 + 1 = nI (0 + 1) from rfl]
    · unfold fX11_rests_l61 fX11_rests_b145_61
      rw [if_neg (show ¬ (4 : Int32) ≤ nI 0 by decide), show nI 0 / 2 = (0 : Int32) by decide, show nI 0 - (0 : Int32) * 2 = 0 by decide, show nI 0 + 1 = nI (0 + 1) from rfl]
      rw [show (1 : Int32) - 0 = 1 by decide]
      simp only [gb10, gb00, Option.bind_some]
      exact rs_r
  · refine ⟨c, -a, b, 0, fun h v5 => ?_, fun h v5 => ?_⟩
    · unfold fX10_rests_l41
      rw [if_neg (show ¬ (4 : Int32) ≤ nI 1 by decide), if_pos (show nI 1 < (2 : Int32) by decide)]
      unfold fX10_rests_b58
      rw [if_pos (show nI 1 - nI 1 / 2 * 2 = 1 by decide)]
      unfold fX10_rests_b75
      rw [ic01, ic10, rs_c, show nI 1 + 1 = nI (1 + 1) from rfl]
    · unfold fX11_rests_l61 fX11_rests_b145_61
      rw [if_neg (show ¬ (4 : Int32) ≤ nI 1 by decide), show nI 1 / 2 = (0 : Int32) by decide, show nI 1 - (0 : Int32) * 2 = 1 by decide, show nI 1 + 1 = nI (1 + 1) from rfl]
      rw [show (1 : Int32) - 0 = 1 by decide, show (1 : Int32) - 1 = 0 by decide]
      simp only [gb11, gb01, gb00, gb10, Option.bind_some]
      exact rs_r
  · refine ⟨b, 0, c, -a, fun h v5 => ?_, fun h v5 => ?_⟩
    · unfold fX10_rests_l41
      rw [if_neg (show ¬ (4 : Int32) ≤ nI 2 by decide), if_neg (show ¬ nI 2 < (2 : Int32) by decide)]
      unfold fX10_rests_b58
      rw [if_neg (show ¬ nI 2 - nI 2 / 2 * 2 = 1 by decide)]
      unfold fX10_rests_b75
      rw [ic10, ic01, rs_c, show nI 2 + 1 = nI (2 + 1) from rfl]
    · unfold fX11_rests_l61 fX11_rests_b145_61
      rw [if_neg (show ¬ (4 : Int32) ≤ nI 2 by decide), show nI 2 / 2 = (1 : Int32) by decide, show nI 2 - (1 : Int32) * 2 = 0 by decide, show nI 2 + 1 = nI (2 + 1) from rfl]
      rw [show (1 : Int32) - 1 = 0 by decide, show (1 : Int32) - 0 = 1 by decide]
      simp only [gb00, gb10, gb11, gb01, Option.bind_some]
      exact rs_r
  · refine ⟨-a, c, -a, c, fun h v5 => ?_, fun h v5 => ?_⟩
    · unfold fX10_rests_l41
      rw [if_neg (show ¬ (4 : Int32) ≤ nI 3 by decide), if_neg (show ¬ nI 3 < (2 : Int32) by decide)]
      unfold fX10_rests_b58
      rw [if_pos (show nI 3 - nI 3 / 2 * 2 = 1 by decide)]
      unfold fX10_rests_b75
      rw [ic11, rs_c, show nI 3 + 1 = nI (3 + 1) from rfl]
    · unfold fX11_rests_l61 fX11_rests_b145_61
      rw [if_neg (show ¬ (4 : Int32) ≤ nI 3 by decide), show nI 3 / 2 = (1 : Int32) by decide, show nI 3 - (1 : Int32) * 2 = 1 by decide, show nI 3 + 1 = nI (3 + 1) from rfl]
      rw [show (1 : Int32) - 1 = 0 by decide]
      simp only [gb01, gb11, Option.bind_some]
      exact rs_r
theorem rsl (a b c x4 : Int32) (h g : wSt) (M : Nat) : ∀ (n j : Nat) (v5 : Int32), j + n = 4 → ∃ e : Int32 ⊕ (Int32 × wSt), wit (fun v : (Int32 × Int32) => fX11_rests_l61 g a b c x4 v.1 v.2) (M + 1 + n) (v5, nI j) = some e ∧ (∀ z, e = .inr z → z.2 = g) ∧ wit (fun v : (Int32 × Int32) => fX10_rests_l41 h a b c x4 v.1 v.2) (M + 1 + n) (v5, nI j) = some (match e with
    | .inl v => if x4 = -1 then some v else none
    | .inr z => some z.1)
  | 0, j, v5, hj => by
    have hj : j = 4 := by omega
    subst hj
    have e1 : (fun v : (Int32 × Int32) => fX11_rests_l61 g a b c x4 v.1 v.2) (v5, nI 4) = some (.inr (.inl v5)) := by
      show fX11_rests_l61 g a b c x4 v5 (nI 4) = _
      unfold fX11_rests_l61
      rw [if_pos (by decide)]
    have e2 : (fun v : (Int32 × Int32) => fX10_rests_l41 h a b c x4 v.1 v.2) (v5, nI 4) = some (.inr (if x4 = -1 then some v5 else none)) := by
      show fX10_rests_l41 h a b c x4 v5 (nI 4) = _
      unfold fX10_rests_l41
      rw [if_pos (by decide)]
      by_cases q : x4 = -1
      · rw [if_pos q, if_pos q]
      · rw [if_neg q, if_neg q]
    exact ⟨.inl v5, wt2 e1 M, fun z hz => (by cases hz), wt2 e2 M⟩
  | n + 1, j, v5, hj => by
    obtain ⟨p1, q1, p2, q2, r1, r2⟩ := rst a b c x4 (j := j) (by omega)
    by_cases ct : ¬ p1 < q1 ∧ ¬ p2 < q2
    · by_cases q : v5 = x4
      · have e1 : (fun v : (Int32 × Int32) => fX11_rests_l61 g a b c x4 v.1 v.2) (v5, nI j) = some (.inr (.inr (nI j, g))) := by
          show fX11_rests_l61 g a b c x4 v5 (nI j) = _
          rw [r2, if_pos ct, if_pos q]
        have e2 : (fun v : (Int32 × Int32) => fX10_rests_l41 h a b c x4 v.1 v.2) (v5, nI j) = some (.inr (some (nI j))) := by
          show fX10_rests_l41 h a b c x4 v5 (nI j) = _
          rw [r1, if_pos ct, if_pos q]
        exact ⟨.inr (nI j, g), wt2 e1 _, fun z hz => (by cases hz; rfl), wt2 e2 _⟩
      · have e1 : (fun v : (Int32 × Int32) => fX11_rests_l61 g a b c x4 v.1 v.2) (v5, nI j) = some (.inl (v5 + 1, nI (j + 1))) := by
          show fX11_rests_l61 g a b c x4 v5 (nI j) = _
          rw [r2, if_pos ct, if_neg q]
        have e2 : (fun v : (Int32 × Int32) => fX10_rests_l41 h a b c x4 v.1 v.2) (v5, nI j) = some (.inl (v5 + 1, nI (j + 1))) := by
          show fX10_rests_l41 h a b c x4 v5 (nI j) = _
          rw [r1, if_pos ct, if_neg q]
        obtain ⟨e, i1, i2, i3⟩ := rsl a b c x4 h g M n (j + 1) (v5 + 1) (by omega)
        exact ⟨e, (wt1 e1 _).trans i1, i2, (wt1 e2 _).trans i3⟩
    · have e1 : (fun v : (Int32 × Int32) => fX11_rests_l61 g a b c x4 v.1 v.2) (v5, nI j) = some (.inl (v5, nI (j + 1))) := by
        show fX11_rests_l61 g a b c x4 v5 (nI j) = _
        rw [r2, if_neg ct]
      have e2 : (fun v : (Int32 × Int32) => fX10_rests_l41 h a b c x4 v.1 v.2) (v5, nI j) = some (.inl (v5, nI (j + 1))) := by
        show fX10_rests_l41 h a b c x4 v5 (nI j) = _
        rw [r1, if_neg ct]
      obtain ⟨e, i1, i2, i3⟩ := rsl a b c x4 h g M n (j + 1) v5 (by omega)
      exact ⟨e, (wt1 e1 _).trans i1, i2, (wt1 e2 _).trans i3⟩
theorem c_gain (h : wSt) (x : Int32) : fX10_isGain h x = some (gRg 0 9 x).isSome := by
  cases e : gRg 0 9 x with
  | none =>
    rcases gRg_none e (by omega) (by omega) with q | ⟨q1, q2, -⟩
    · simp (disch := omega) only [↓reduceIte, wlet, Option.bind_some, true_and, and_true, not_true_eq_false, not_false_eq_true, reduceCtorEq, n0_, n1_, n2_, n3_, n4_, n5_, n6_, n7_, n8_, n9_, n10_, n12_, n16_, n18_, n20_, n21_, n22_, n24_, n25_, n26_, n27_, n28_, n29_, n30_, n31_, n32_, n40_, n41_, n42_, n43_, n45_, n48_, n54_, n57_, n58_, n59_, n60_, n61_, n63_, n96_, n97_, n99_, n100_, n122_, n126_, n200_, n255_, n375_, n400_, n1000_, n2000_, n9999_, n5764801_, n1000000_, n3000_, m1, m2, le_t, le_f, lt_t, lt_f, eq_t, eq_f, no_lt, no_le, le_no, lt_no, eq_no, no_eq, add_no, wib_t, clamp, nI_add, pk_mul, pk_sub, nor_, nand_, ndif_, shl_, sh1_, shr_, tbn, tb0, tb1, les_t, les_f, pk_div, rem_, remv, and31, wu1, wuc, wui, wu2, ws1, wsc, ws2, wv1, n11_, n13_, n14_, n15_, n17_, n19_, n23_, n56_, n64_, fX10_isGain, q, Option.isSome_none]
    · simp (disch := omega) only [↓reduceIte, wlet, Option.bind_some, true_and, and_true, not_true_eq_false, not_false_eq_true, reduceCtorEq, n0_, n1_, n2_, n3_, n4_, n5_, n6_, n7_, n8_, n9_, n10_, n12_, n16_, n18_, n20_, n21_, n22_, n24_, n25_, n26_, n27_, n28_, n29_, n30_, n31_, n32_, n40_, n41_, n42_, n43_, n45_, n48_, n54_, n57_, n58_, n59_, n60_, n61_, n63_, n96_, n97_, n99_, n100_, n122_, n126_, n200_, n255_, n375_, n400_, n1000_, n2000_, n9999_, n5764801_, n1000000_, n3000_, m1, m2, le_t, le_f, lt_t, lt_f, eq_t, eq_f, no_lt, no_le, le_no, lt_no, eq_no, no_eq, add_no, wib_t, clamp, nI_add, pk_mul, pk_sub, nor_, nand_, ndif_, shl_, sh1_, shr_, tbn, tb0, tb1, les_t, les_f, pk_div, rem_, remv, and31, wu1, wuc, wui, wu2, ws1, wsc, ws2, wv1, n11_, n13_, n14_, n15_, n17_, n19_, n23_, n56_, n64_, fX10_isGain, q1, q2, Option.isSome_none]
  | some j =>
    obtain ⟨rfl, q1, q2⟩ := gRg_some e
    simp (disch := omega) only [↓reduceIte, wlet, Option.bind_some, true_and, and_true, not_true_eq_false, not_false_eq_true, reduceCtorEq, n0_, n1_, n2_, n3_, n4_, n5_, n6_, n7_, n8_, n9_, n10_, n12_, n16_, n18_, n20_, n21_, n22_, n24_, n25_, n26_, n27_, n28_, n29_, n30_, n31_, n32_, n40_, n41_, n42_, n43_, n45_, n48_, n54_, n57_, n58_, n59_, n60_, n61_, n63_, n96_, n97_, n99_, n100_, n122_, n126_, n200_, n255_, n375_, n400_, n1000_, n2000_, n9999_, n5764801_, n1000000_, n3000_, m1, m2, le_t, le_f, lt_t, lt_f, eq_t, eq_f, no_lt, no_le, le_no, lt_no, eq_no, no_eq, add_no, wib_t, clamp, nI_add, pk_mul, pk_sub, nor_, nand_, ndif_, shl_, sh1_, shr_, tbn, tb0, tb1, les_t, les_f, pk_div, rem_, remv, and31, wu1, wuc, wui, wu2, ws1, wsc, ws2, wv1, n11_, n13_, n14_, n15_, n17_, n19_, n23_, n56_, n64_, fX10_isGain, Option.isSome_some]
/-- what rests leaves: only whether it threw -/
def gRo (h : wSt) (res : Option Int32) (r2 : Int32) (h3 : wSt) : Prop := h3 = wuI (gLh h res) 188 0 (gLr res) ∧ ∀ v, res = some v → r2 = v
theorem gRo_f (h : wSt) (x1 x2 x3 x4 : Int32) : fX11_rests_b41 h x1 x2 x3 x4 = some (0, wuI h 188 0 (nI 1)) := by
  unfold fX11_rests_b41 fX11_rests_b42 wlet
  dsimp only
  rw [wu1, if_pos rfl]
  rfl
theorem b_rests (x1 x2 x3 x4 : Int32) : ∃ res r2 h3, fX10_rests h x1 x2 x3 x4 = some res ∧ fX11_rests (gLh h res) x1 x2 x3 x4 = some (r2, h3) ∧ gRo h res r2 h3 := by
  have g1 := c_gain h x1
  have g2 := c_gain h x2
  have g3 := c_gain h x3
  have bad : fX10_rests h x1 x2 x3 x4 = some none → fX11_rests h x1 x2 x3 x4 = fX11_rests_b41 h x1 x2 x3 x4 → ∃ res r2 h3, fX10_rests h x1 x2 x3 x4 = some res ∧ fX11_rests (gLh h res) x1 x2 x3 x4 = some (r2, h3) ∧ gRo h res r2 h3 := by
    intro e1 e2
    refine ⟨none, 0, wuI h 188 0 (nI 1), e1, ?_, rfl, fun v hv => by cases hv⟩
    show fX11_rests h x1 x2 x3 x4 = _
    rw [e2, gRo_f]
  have w1 := fun g : wSt => r_within g x1 (a := 0) (b := 9) (by omega) (by omega)
  have w2 := fun g : wSt => r_within g x2 (a := 0) (b := 9) (by omega) (by omega)
  have w3 := fun g : wSt => r_within g x3 (a := 0) (b := 9) (by omega) (by omega)
  have w1 : ∀ g : wSt, fX11_within g x1 0 9 = some (gRg 0 9 x1).isSome := w1
  have w2 : ∀ g : wSt, fX11_within g x2 0 9 = some (gRg 0 9 x2).isSome := w2
  have w3 : ∀ g : wSt, fX11_within g x3 0 9 = some (gRg 0 9 x3).isSome := w3
  cases q1 : (gRg 0 9 x1).isSome with
  | false =>
    rw [q1] at g1 w1
    exact bad (by unfold fX10_rests; rw [g1]; rfl) (by unfold fX11_rests; rw [w1]; rfl)
  | true =>
    rw [q1] at g1 w1
    cases q2 : (gRg 0 9 x2).isSome with
    | false =>
      rw [q2] at g2 w2
      exact bad (by unfold fX10_rests; rw [g1, g2]; rfl) (by unfold fX11_rests; rw [w1, w2]; rfl)
    | true =>
      rw [q2] at g2 w2
      cases q3 : (gRg 0 9 x3).isSome with
      | false =>
        rw [q3] at g3 w3
        exact bad (by unfold fX10_rests; rw [g1, g2, g3]; rfl) (by unfold fX11_rests; rw [w1, w2, w3]; rfl)
      | true =>
        rw [q3] at g3 w3
        by_cases q4 : -1 ≤ x4
        · have q5 : ¬ x4 < -1 := Int32.not_lt.mpr q4
          have ec : fX10_rests h x1 x2 x3 x4 = wit (fun v : Int32 × Int32 => fX10_rests_l41 h x1 x2 x3 x4 v.1 v.2) 3000 (nI 0, nI 0) := by
            unfold fX10_rests
            rw [g1, g2, g3]
            show (if -1 ≤ x4 then wit (fun v : Int32 × Int32 => fX10_rests_l41 h x1 x2 x3 x4 v.1 v.2) 3000 (0, 0) else some none) = _
            rw [if_pos q4]; rfl
          have er : ∀ g : wSt, fX11_rests g x1 x2 x3 x4 = fX11_rests_b42 g x1 x2 x3 x4 (nI 0) := fun g => by
            unfold fX11_rests
            rw [w1, w2, w3]
            show (if x4 < -1 then fX11_rests_b41 g x1 x2 x3 x4 else fX11_rests_b42 g x1 x2 x3 x4 0) = _
            rw [if_neg q5]; rfl
          have eb : ∀ (g : wSt) (e : Int32 ⊕ (Int32 × wSt)), wit (fun v : (Int32 × Int32) => fX11_rests_l61 (wuI g 188 0 (nI 0)) x1 x2 x3 x4 v.1 v.2) 3000 (nI 0, nI 0) = some e → fX11_rests_b42 g x1 x2 x3 x4 (nI 0) = (match e with
              | .inl v => if x4 = -1 then fX11_rests_b163 (wuI g 188 0 (nI 0)) x4 v 0 else fX11_rests_b163 (wuI g 188 0 (nI 0)) x4 v 1
              | .inr z => some z) := fun g e he => by
            unfold fX11_rests_b42
            show (if (wuI g 188 0 (nI 0)).1 188 0 = 1 then some ((0 : Int32), wuI g 188 0 (nI 0)) else (wit (fun v : (Int32 × Int32) => fX11_rests_l61 (wuI g 188 0 (nI 0)) x1 x2 x3 x4 v.1 v.2) 3000 (nI 0, nI 0)).bind (fun ye27 => match ye27 with
              | .inl ye27v => if x4 = (-1) then fX11_rests_b163 (wuI g 188 0 (nI 0)) x4 ye27v (0 : Int32) else fX11_rests_b163 (wuI g 188 0 (nI 0)) x4 ye27v (1 : Int32)
              | .inr ye27r => some ye27r)) = _
            rw [wu1, if_neg (by decide), he]
            rfl
          -- the way is the same whatever the numbers
          obtain ⟨e0, i1, i2, i3⟩ := rsl x1 x2 x3 x4 h (wuI h 188 0 (nI 0)) 2995 4 0 (nI 0) (by omega)
          cases e0 with
          | inl v =>
            by_cases qx : x4 = -1
            · have i3 : wit (fun v : (Int32 × Int32) => fX10_rests_l41 h x1 x2 x3 x4 v.1 v.2) 3000 (nI 0, nI 0) = some (if x4 = -1 then some v else none) := i3
              rw [if_pos qx] at i3
              obtain ⟨e1, j1, j2, j3⟩ := rsl x1 x2 x3 x4 h (wuI (gLh h (some v)) 188 0 (nI 0)) 2995 4 0 (nI 0) (by omega)
              have j3 : wit (fun v : (Int32 × Int32) => fX10_rests_l41 h x1 x2 x3 x4 v.1 v.2) 3000 (nI 0, nI 0) = _ := j3
              have j1 : wit (fun y : (Int32 × Int32) => fX11_rests_l61 (wuI (gLh h (some v)) 188 0 (nI 0)) x1 x2 x3 x4 y.1 y.2) 3000 (nI 0, nI 0) = some e1 := j1
              rw [i3] at j3
              refine ⟨some v, v, wuI (gLh h (some v)) 188 0 (nI 0), ec.trans i3, ?_, rfl, fun w hw => by injection hw⟩
              rw [er, eb _ e1 j1]
              cases e1 with
              | inl w =>
                have j3 : some (some v) = some (if x4 = -1 then some w else none) := j3
                rw [if_pos qx] at j3
                have j3 : v = w := by injection j3 with j3; injection j3
                subst j3
                show (if x4 = -1 then fX11_rests_b163 (wuI (gLh h (some v)) 188 0 (nI 0)) x4 v 0 else fX11_rests_b163 (wuI (gLh h (some v)) 188 0 (nI 0)) x4 v 1) = _
                rw [if_pos qx]
                unfold fX11_rests_b163 wlet
                dsimp only
                rw [if_pos qx, show (0 : Int32) = nI 0 from rfl, wuI_2]
              | inr z =>
                have j3 : some (some v) = some (some z.1) := j3
                have j3 : v = z.1 := by injection j3 with j3; injection j3
                have j4 := j2 z rfl
                show some z = _
                rw [j3]
                congr 1
                refine Prod.ext rfl ?_
                rw [j4, j3]
            · have i3 : wit (fun v : (Int32 × Int32) => fX10_rests_l41 h x1 x2 x3 x4 v.1 v.2) 3000 (nI 0, nI 0) = some (if x4 = -1 then some v else none) := i3
              rw [if_neg qx] at i3
              have i1 : wit (fun v : (Int32 × Int32) => fX11_rests_l61 (wuI h 188 0 (nI 0)) x1 x2 x3 x4 v.1 v.2) 3000 (nI 0, nI 0) = some (.inl v) := i1
              refine ⟨none, 0, wuI h 188 0 (nI 1), ec.trans i3, ?_, rfl, fun w hw => by cases hw⟩
              show fX11_rests h x1 x2 x3 x4 = _
              rw [er, eb _ _ i1]
              show (if x4 = -1 then fX11_rests_b163 (wuI h 188 0 (nI 0)) x4 v 0 else fX11_rests_b163 (wuI h 188 0 (nI 0)) x4 v 1) = _
              rw [if_neg qx]
              unfold fX11_rests_b163 wlet
              dsimp only
              rw [if_neg qx, show (1 : Int32) = nI 1 from rfl, wuI_2]
          | inr z =>
            have i3 : wit (fun v : (Int32 × Int32) => fX10_rests_l41 h x1 x2 x3 x4 v.1 v.2) 3000 (nI 0, nI 0) = some (some z.1) := i3
            obtain ⟨e1, j1, j2, j3⟩ := rsl x1 x2 x3 x4 h (wuI (gLh h (some z.1)) 188 0 (nI 0)) 2995 4 0 (nI 0) (by omega)
            have j3 : wit (fun v : (Int32 × Int32) => fX10_rests_l41 h x1 x2 x3 x4 v.1 v.2) 3000 (nI 0, nI 0) = _ := j3
            have j1 : wit (fun v : (Int32 × Int32) => fX11_rests_l61 (wuI (gLh h (some z.1)) 188 0 (nI 0)) x1 x2 x3 x4 v.1 v.2) 3000 (nI 0, nI 0) = some e1 := j1
            rw [i3] at j3
            refine ⟨some z.1, z.1, wuI (gLh h (some z.1)) 188 0 (nI 0), ec.trans i3, ?_, rfl, fun w hw => by injection hw⟩
            rw [er, eb _ e1 j1]
            cases e1 with
            | inl w =>
              by_cases qx : x4 = -1
              · have j3 : some (some z.1) = some (if x4 = -1 then some w else none) := j3
                rw [if_pos qx] at j3
                have j3 : z.1 = w := by injection j3 with j3; injection j3
                subst j3
                show (if x4 = -1 then fX11_rests_b163 (wuI (gLh h (some z.1)) 188 0 (nI 0)) x4 z.1 0 else fX11_rests_b163 (wuI (gLh h (some z.1)) 188 0 (nI 0)) x4 z.1 1) = _
                rw [if_pos qx]
                unfold fX11_rests_b163 wlet
                dsimp only
                rw [if_pos qx, show (0 : Int32) = nI 0 from rfl, wuI_2]
              · have j3 : some (some z.1) = some (if x4 = -1 then some w else none) := j3
                rw [if_neg qx] at j3
                cases j3
            | inr y =>
              have j3 : some (some z.1) = some (some y.1) := j3
              have j3 : z.1 = y.1 := by injection j3 with j3; injection j3
              have j4 := j2 y rfl
              show some y = _
              congr 1
              exact Prod.ext j3.symm j4
        · have q5 : x4 < -1 := Int32.not_le.mp q4
          refine bad ?_ ?_
          · unfold fX10_rests
            rw [g1, g2, g3]
            show (if -1 ≤ x4 then wit (fun v : Int32 × Int32 => fX10_rests_l41 h x1 x2 x3 x4 v.1 v.2) 3000 (0, 0) else some none) = _
            rw [if_neg q4]
          · unfold fX11_rests
            rw [w1, w2, w3]
            show (if x4 < -1 then fX11_rests_b41 h x1 x2 x3 x4 else fX11_rests_b42 h x1 x2 x3 x4 0) = _
            rw [if_pos q5]
theorem op_rests (hI : Inv k h) (x1 x2 x3 x4 : Int32) : ∃ res r2 h3, fX10_rests h x1 x2 x3 x4 = some res ∧ fX11_rests (gLh h res) x1 x2 x3 x4 = some (r2, h3) ∧ h3.1 188 0 = gLr res ∧ (∀ v, res = some v → r2 = v ∧ h3.2 233 0 = v.toInt64) ∧ Inv k h3 := by
  obtain ⟨res, r2, h3, e1, e2, e3, e4⟩ := b_rests (h := h) x1 x2 x3 x4
  subst e3
  refine ⟨res, r2, _, e1, e2, wu1, fun v hv => ⟨e4 v hv, by rw [hv]; show (wuJ h 233 0 v.toInt64).2 233 0 = _; exact wv2⟩, ?_⟩
  obtain ⟨L, S, u, M, Y, N, T, W, C, R⟩ := hI
  have f1 : fr (fun c => c = 233) h (gLh h res) := by
    cases res with
    | none => exact fr_rf
    | some v => exact fr_wuJ rfl
  have R1 : MI (gLh h res) L S u M Y N T := by
    have e : (gLh h res).1 188 = h.1 188 := fr_at f1 (by omega)
    exact MI_fr R f1 (fun c _ q z => q (by unfold rs; omega)) (by rw [e]) (by rw [e]) (MS_fr R.2.1 f1 (by omega))
  exact ⟨L, S, u, M, Y, N, T, W, CI_ref (CI_ref C (fr_mono f1 (fun c q => by unfold ref; omega))) (fr_wuI (by unfold ref; omega)), MI_0 R1 (gLr res)⟩
end G94

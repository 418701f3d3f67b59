/-! THE LAW'S TEXT, the other side -/
def uw (o : Nat → Nat) : Nat → Nat
  | 0 => 0
  | d + 1 => if o (d + 1) = 1 then uw o d else d + 1
theorem uw_cong {o q : Nat → Nat} : ∀ {d : Nat}, (∀ i, 1 ≤ i → i ≤ d → o i = q i) → uw o d = uw q d
  | 0, _ => rfl
  | d + 1, h => by rw [uw, uw, h (d + 1) (by omega) (by omega), uw_cong (fun i h1 h2 => h i h1 (by omega))]
def grB (v : Int32 × Int32 × wSt) : Option ((Int32 × Int32 × wSt) ⊕ (Bool × wSt)) := fX11_reads_l11 v.2.2 v.1 v.2.1
theorem rB_1 {v w : Int32 × Int32 × wSt} (e : grB v = some (.inl w)) (N : Nat) : wit grB (N + 1) v = wit grB N w := by rw [wit, e]
theorem rB_2 {v : Int32 × Int32 × wSt} {x : Bool × wSt} (e : grB v = some (.inr x)) (N : Nat) : wit grB (N + 1) v = some x := by rw [wit, e]
def RQ (c d : Nat) (h g : wSt) : Prop := fr (fun x => x = 188 ∨ (202 ≤ x ∧ x ≤ 204)) h g ∧ (∀ j, j ≠ 4 → j ≠ 5 → j ≠ 6 → j ≠ 8 → j ≠ 9 → j ≠ 23 → j ≠ 36 → g.1 188 j = h.1 188 j) ∧ (∀ i, i < c → g.1 202 i = h.1 202 i) ∧ (∀ i, i ≤ d → g.1 203 i = h.1 203 i) ∧ ∀ i, i < d → g.1 204 i = h.1 204 i
theorem RQ_tr {c d c' d' : Nat} {h g f : wSt} (hc : c ≤ c') (hd : d ≤ d') (a : RQ c d h g) (b : RQ c' d' g f) : RQ c d h f :=
  ⟨fr_tr a.1 b.1, fun j h1 h2 h3 h4 h5 h6 h7 => (b.2.1 j h1 h2 h3 h4 h5 h6 h7).trans (a.2.1 j h1 h2 h3 h4 h5 h6 h7), fun i hi => (b.2.2.1 i (by omega)).trans (a.2.2.1 i hi), fun i hi => (b.2.2.2.1 i (by omega)).trans (a.2.2.2.1 i hi), fun i hi => (b.2.2.2.2 i (by omega)).trans (a.2.2.2.2 i hi)⟩
theorem RQ_K {c d : Nat} {h g : wSt} (a : RK h g) : RQ c d h g :=
  ⟨fr_mono a.1 (fun x q => Or.inl q), fun j h1 h2 h3 h4 h5 _ h7 => a.2.1 j h1 h2 h3 h4 h5 h7, fun i _ => by rw [fr_at a.1 (by unfold s188; omega)], fun i _ => by rw [fr_at a.1 (by unfold s188; omega)], fun i _ => by rw [fr_at a.1 (by unfold s188; omega)]⟩
def MR (h : wSt) (T : gTp) (b c d : Nat) (o : Nat → Nat) : Prop := SM h T b ∧ h.1 188 23 = nI c ∧ 1000 ≤ c ∧ c ≤ 1000 + b ∧ ∀ i, 1 ≤ i → i ≤ d → h.1 203 i = nI (o i) ∧ o i ≤ 2
def gEq (l : Nat) (T : gTp) (h g : wSt) (d b : Nat) : Prop := (l ≤ 3 → gJo T 3 b = 0) ∧ (l ≤ 2 → gJo T 2 b = 0) ∧ (l ≤ 1 → gJo T 1 b ≠ 0 → g.1 204 d = nI 1) ∧ (l = 0 → gJo T 0 b = 0) ∧ (2 ≤ l → g.1 204 d = h.1 204 d)
/-- what comes of reading a piece from here -/
def OS (l : Nat) (T : gTp) (h : wSt) (d c dn b : Nat) (X : gPc) : Prop :=
  (X.1.2 = 0 → ∃ n g, b + n ≤ X.1.1 ∧ (∀ N, wit grB (N + n) (nI d, nI 1, h) = wit grB N (nI dn, nI 0, g)) ∧ SM g T X.1.1 ∧ g.1 188 23 = nI (c + X.2.2.1.length) ∧ (∀ i, i < X.2.2.1.length → g.1 202 (c + i) = X.2.2.1.getD i 0) ∧ RQ c d h g ∧ gEq l T h g d X.1.1)
  ∧ (X.1.2 ≠ 0 → ∃ n g, b + n ≤ T.1 + 1 ∧ (∀ N, wit grB (N + n) (nI d, nI 1, h) = some (false, g)) ∧ g.1 188 9 = nI X.1.2 ∧ RQ c d h g)
theorem nar_0 : vp_nar .boolean (nI 0) = nI 0 := by rfl
section G80
variable {h g : wSt} {T : gTp} {b c d : Nat} {o : Nat → Nat}
theorem r_puts (h23 : h.1 188 23 = nI c) (hc : c < 2000) (x : Int32) : ∃ g, fX11_puts h x = some g ∧ g.1 188 23 = nI (c + 1) ∧ (∀ i, g.1 202 i = if i = c then x else h.1 202 i) ∧ (∀ d, RQ c d h g) ∧ g.1 203 = h.1 203 ∧ g.1 204 = h.1 204 ∧ (SM h T b → SM g T b) := by
  refine ⟨wuI (wuI h 202 c x) 188 23 (nI (c + 1)), ?_, wu1, fun i => by rw [wuc (by omega), wuS], fun d => ⟨fr_tr (fr_wuI (Or.inr (by omega))) (fr_wuI (Or.inl rfl)), fun j _ _ _ _ _ hj _ => by rw [wui hj, wuc (by omega)], fun i hi => by rw [wuc (by omega), wui (by omega)], fun i _ => by rw [wuc (by omega), wuc (by omega)], fun i _ => by rw [wuc (by omega), wuc (by omega)]⟩, by rw [wuc (by omega), wuc (by omega)], by rw [wuc (by omega), wuc (by omega)], fun q => SM_u q (fun j hj => by rw [wui (by omega), wuc (by omega)]) rfl (by rw [wuc (by omega), wuc (by omega)])⟩
  simp (disch := omega) only [↓reduceIte, wlet, Option.bind_some, true_and, and_true, not_true_eq_false, not_false_eq_true, reduceCtorEq, n0_, n1_, n2_, n3_, n4_, n5_, n6_, n7_, n8_, n9_, n10_, n12_, n16_, n18_, n20_, n21_, n22_, n24_, n25_, n26_, n27_, n28_, n29_, n30_, n31_, n32_, n40_, n41_, n42_, n43_, n45_, n48_, n54_, n57_, n58_, n59_, n60_, n61_, n63_, n96_, n97_, n99_, n100_, n122_, n126_, n200_, n255_, n375_, n400_, n1000_, n2000_, n9999_, n5764801_, n1000000_, n3000_, m1, m2, le_t, le_f, lt_t, lt_f, eq_t, eq_f, no_lt, no_le, le_no, lt_no, eq_no, no_eq, add_no, wib_t, clamp, nI_add, pk_mul, pk_sub, nor_, nand_, ndif_, shl_, sh1_, shr_, tbn, tb0, tb1, les_t, les_f, pk_div, rem_, remv, and31, wu1, wuc, wui, wu2, ws1, wsc, ws2, wv1, n11_, n13_, n14_, n15_, n17_, n19_, n23_, n56_, n64_, fX11_puts, h23]
theorem iw (h6 : h.1 188 6 = nI 1) {x : Int64} {r : Bool} (e : fX11_isWord h x = some r) : (h.2 188 7 = x) ↔ r = true := by
  unfold fX11_isWord at e
  rw [if_pos (show h.1 188 6 = 1 from h6)] at e
  by_cases q : h.2 188 7 = x
  · rw [if_pos q] at e
    injection e with e
    exact ⟨fun _ => e.symm, fun _ => q⟩
  · rw [if_neg q] at e
    injection e with e
    exact ⟨fun z => absurd z q, fun z => by rw [← e] at z; cases z⟩
theorem r_fact (hs : SM h T b) : fX11_fact h = some (nI (gFa T b)) := by
  have s6 := hs.2.2.2.1
  have hk0 := gTk_0 hs.2.2.1
  by_cases hk : gTk T b = 1
  · have h6 : h.1 188 6 = nI 1 := by rw [s6, hk]
    have i1 := iw h6 (r_w21 hs)
    have i2 := iw h6 (r_w22 hs)
    have i3 := iw h6 (r_w23 hs)
    have i4 := iw h6 (r_w24 hs)
    unfold fX11_fact gFa
    rw [if_pos (show h.1 188 6 = 1 from h6)]
    by_cases q1 : gIs T b 21 = true
    · rw [if_pos (i1.mpr q1), if_pos q1]; rfl
    · rw [if_neg (fun z => q1 (i1.mp z)), if_neg q1]
      by_cases q2 : gIs T b 22 = true
      · rw [if_pos (i2.mpr q2), if_pos q2]; rfl
      · rw [if_neg (fun z => q2 (i2.mp z)), if_neg q2]
        by_cases q3 : gIs T b 23 = true
        · rw [if_pos (i3.mpr q3), if_pos q3]; rfl
        · rw [if_neg (fun z => q3 (i3.mp z)), if_neg q3]
          by_cases q4 : gIs T b 24 = true
          · rw [if_pos (i4.mpr q4), if_pos q4]; rfl
          · rw [if_neg (fun z => q4 (i4.mp z)), if_neg q4]; rfl
  · have hf : gFa T b = 0 := by
      by_cases z : gFa T b = 0
      · exact z
      · exact absurd (gFa_1 z) hk
    rw [hf]
    simp (disch := omega) only [↓reduceIte, wlet, Option.bind_some, true_and, and_true, not_true_eq_false, not_false_eq_true, reduceCtorEq, n0_, n1_, n2_, n3_, n4_, n5_, n6_, n7_, n8_, n9_, n10_, n12_, n16_, n18_, n20_, n21_, n22_, n24_, n25_, n26_, n27_, n28_, n29_, n30_, n31_, n32_, n40_, n41_, n42_, n43_, n45_, n48_, n54_, n57_, n58_, n59_, n60_, n61_, n63_, n96_, n97_, n99_, n100_, n122_, n126_, n200_, n255_, n375_, n400_, n1000_, n2000_, n9999_, n5764801_, n1000000_, n3000_, m1, m2, le_t, le_f, lt_t, lt_f, eq_t, eq_f, no_lt, no_le, le_no, lt_no, eq_no, no_eq, add_no, wib_t, clamp, nI_add, pk_mul, pk_sub, nor_, nand_, ndif_, shl_, sh1_, shr_, tbn, tb0, tb1, les_t, les_f, pk_div, rem_, remv, and31, wu1, wuc, wui, wu2, ws1, wsc, ws2, wv1, n11_, n13_, n14_, n15_, n17_, n19_, n23_, n56_, n64_, fX11_fact, s6]
theorem r_uw {x : Int32} : ∀ (d N : Nat), d ≤ 5 → d < N → (∀ i, 1 ≤ i → i ≤ d → h.1 203 i = nI (o i) ∧ o i ≤ 2) → wit (fun v : Int32 => fX11_reads_l152 h x v) N (nI d) = some (nI (uw o d))
  | 0, N, _, hN, _ => by
    obtain ⟨M, rfl⟩ : ∃ m, N = m + 1 := ⟨N - 1, by omega⟩
    have e : fX11_reads_l152 h x (nI 0) = some (.inr (nI 0)) := by
      simp (disch := omega) only [↓reduceIte, wlet, Option.bind_some, true_and, and_true, not_true_eq_false, not_false_eq_true, reduceCtorEq, n0_, n1_, n2_, n3_, n4_, n5_, n6_, n7_, n8_, n9_, n10_, n12_, n16_, n18_, n20_, n21_, n22_, n24_, n25_, n26_, n27_, n28_, n29_, n30_, n31_, n32_, n40_, n41_, n42_, n43_, n45_, n48_, n54_, n57_, n58_, n59_, n60_, n61_, n63_, n96_, n97_, n99_, n100_, n122_, n126_, n200_, n255_, n375_, n400_, n1000_, n2000_, n9999_, n5764801_, n1000000_, n3000_, m1, m2, le_t, le_f, lt_t, lt_f, eq_t, eq_f, no_lt, no_le, le_no, lt_no, eq_no, no_eq, add_no, wib_t, clamp, nI_add, pk_mul, pk_sub, nor_, nand_, ndif_, shl_, sh1_, shr_, tbn, tb0, tb1, les_t, les_f, pk_div, rem_, remv, and31, wu1, wuc, wui, wu2, ws1, wsc, ws2, wv1, n11_, n13_, n14_, n15_, n17_, n19_, n23_, n56_, n64_, fX11_reads_l152]
    rw [wit, e]
    rfl
  | d + 1, N, hd, hN, ho => by
    obtain ⟨M, rfl⟩ : ∃ m, N = m + 1 := ⟨N - 1, by omega⟩
    obtain ⟨h1, h2⟩ := ho (d + 1) (by omega) (by omega)
    rw [uw]
    by_cases q : o (d + 1) = 1
    · have e : fX11_reads_l152 h x (nI (d + 1)) = some (.inl (nI d)) := by
        rw [q] at h1
        simp (disch := omega) only [↓reduceIte, wlet, Option.bind_some, true_and, and_true, not_true_eq_false, not_false_eq_true, reduceCtorEq, n0_, n1_, n2_, n3_, n4_, n5_, n6_, n7_, n8_, n9_, n10_, n12_, n16_, n18_, n20_, n21_, n22_, n24_, n25_, n26_, n27_, n28_, n29_, n30_, n31_, n32_, n40_, n41_, n42_, n43_, n45_, n48_, n54_, n57_, n58_, n59_, n60_, n61_, n63_, n96_, n97_, n99_, n100_, n122_, n126_, n200_, n255_, n375_, n400_, n1000_, n2000_, n9999_, n5764801_, n1000000_, n3000_, m1, m2, le_t, le_f, lt_t, lt_f, eq_t, eq_f, no_lt, no_le, le_no, lt_no, eq_no, no_eq, add_no, wib_t, clamp, nI_add, pk_mul, pk_sub, nor_, nand_, ndif_, shl_, sh1_, shr_, tbn, tb0, tb1, les_t, les_f, pk_div, rem_, remv, and31, wu1, wuc, wui, wu2, ws1, wsc, ws2, wv1, n11_, n13_, n14_, n15_, n17_, n19_, n23_, n56_, n64_, fX11_reads_l152, h1, Nat.add_sub_cancel]
      rw [if_pos q, wit, e]
      exact r_uw d M (by omega) (by omega) (fun i h1 h2 => ho i h1 (by omega))
    · have e : fX11_reads_l152 h x (nI (d + 1)) = some (.inr (nI (d + 1))) := by
        simp (disch := omega) only [↓reduceIte, wlet, Option.bind_some, true_and, and_true, not_true_eq_false, not_false_eq_true, reduceCtorEq, n0_, n1_, n2_, n3_, n4_, n5_, n6_, n7_, n8_, n9_, n10_, n12_, n16_, n18_, n20_, n21_, n22_, n24_, n25_, n26_, n27_, n28_, n29_, n30_, n31_, n32_, n40_, n41_, n42_, n43_, n45_, n48_, n54_, n57_, n58_, n59_, n60_, n61_, n63_, n96_, n97_, n99_, n100_, n122_, n126_, n200_, n255_, n375_, n400_, n1000_, n2000_, n9999_, n5764801_, n1000000_, n3000_, m1, m2, le_t, le_f, lt_t, lt_f, eq_t, eq_f, no_lt, no_le, le_no, lt_no, eq_no, no_eq, add_no, wib_t, clamp, nI_add, pk_mul, pk_sub, nor_, nand_, ndif_, shl_, sh1_, shr_, tbn, tb0, tb1, les_t, les_f, pk_div, rem_, remv, and31, wu1, wuc, wui, wu2, ws1, wsc, ws2, wv1, n11_, n13_, n14_, n15_, n17_, n19_, n23_, n56_, n64_, fX11_reads_l152, h1]
      rw [if_neg q, wit, e]
theorem r_b65 (hs : SM h T b) (hq : gStt T b = true) : fX11_reads_l11 h (nI d) (nI 1) = fX11_reads_b65_11 h (nI d) (nI 1) (nI (gFa T b)) (wb (gIs T b 18)) (wb (gIg T b 40)) := by
  have ef := r_fact hs
  have en := r_w18 hs
  have eo := r_isSign hs (s := 40) (by omega)
  have s6 := hs.2.2.2.1
  have hk0 := gTk_0 hs.2.2.1
  have hf4 := gFa_le (T := T) (b := b)
  unfold gStt at hq
  by_cases hf : gFa T b = 0
  · rw [hf] at ef hq ⊢
    cases h18 : gIs T b 18 with
    | true =>
      rw [h18] at en
      simp (disch := omega) only [↓reduceIte, wlet, Option.bind_some, true_and, and_true, not_true_eq_false, not_false_eq_true, reduceCtorEq, n0_, n1_, n2_, n3_, n4_, n5_, n6_, n7_, n8_, n9_, n10_, n12_, n16_, n18_, n20_, n21_, n22_, n24_, n25_, n26_, n27_, n28_, n29_, n30_, n31_, n32_, n40_, n41_, n42_, n43_, n45_, n48_, n54_, n57_, n58_, n59_, n60_, n61_, n63_, n96_, n97_, n99_, n100_, n122_, n126_, n200_, n255_, n375_, n400_, n1000_, n2000_, n9999_, n5764801_, n1000000_, n3000_, m1, m2, le_t, le_f, lt_t, lt_f, eq_t, eq_f, no_lt, no_le, le_no, lt_no, eq_no, no_eq, add_no, wib_t, clamp, nI_add, pk_mul, pk_sub, nor_, nand_, ndif_, shl_, sh1_, shr_, tbn, tb0, tb1, les_t, les_f, pk_div, rem_, remv, and31, wu1, wuc, wui, wu2, ws1, wsc, ws2, wv1, n11_, n13_, n14_, n15_, n17_, n19_, n23_, n56_, n64_, fX11_reads_l11, ef, en, eo]
    | false =>
      rw [h18] at en hq
      cases h40 : gIg T b 40 with
      | true =>
        rw [h40] at eo
        simp (disch := omega) only [↓reduceIte, wlet, Option.bind_some, true_and, and_true, not_true_eq_false, not_false_eq_true, reduceCtorEq, n0_, n1_, n2_, n3_, n4_, n5_, n6_, n7_, n8_, n9_, n10_, n12_, n16_, n18_, n20_, n21_, n22_, n24_, n25_, n26_, n27_, n28_, n29_, n30_, n31_, n32_, n40_, n41_, n42_, n43_, n45_, n48_, n54_, n57_, n58_, n59_, n60_, n61_, n63_, n96_, n97_, n99_, n100_, n122_, n126_, n200_, n255_, n375_, n400_, n1000_, n2000_, n9999_, n5764801_, n1000000_, n3000_, m1, m2, le_t, le_f, lt_t, lt_f, eq_t, eq_f, no_lt, no_le, le_no, lt_no, eq_no, no_eq, add_no, wib_t, clamp, nI_add, pk_mul, pk_sub, nor_, nand_, ndif_, shl_, sh1_, shr_, tbn, tb0, tb1, les_t, les_f, pk_div, rem_, remv, and31, wu1, wuc, wui, wu2, ws1, wsc, ws2, wv1, n11_, n13_, n14_, n15_, n17_, n19_, n23_, n56_, n64_, fX11_reads_l11, ef, en, eo, Option.isSome_none, Option.isSome_some, Bool.false_eq_true]
      | false =>
        rw [h40] at eo hq
        have hk : gTk T b = 2 := by simpa using hq
        rw [hk] at s6
        simp (disch := omega) only [↓reduceIte, wlet, Option.bind_some, true_and, and_true, not_true_eq_false, not_false_eq_true, reduceCtorEq, n0_, n1_, n2_, n3_, n4_, n5_, n6_, n7_, n8_, n9_, n10_, n12_, n16_, n18_, n20_, n21_, n22_, n24_, n25_, n26_, n27_, n28_, n29_, n30_, n31_, n32_, n40_, n41_, n42_, n43_, n45_, n48_, n54_, n57_, n58_, n59_, n60_, n61_, n63_, n96_, n97_, n99_, n100_, n122_, n126_, n200_, n255_, n375_, n400_, n1000_, n2000_, n9999_, n5764801_, n1000000_, n3000_, m1, m2, le_t, le_f, lt_t, lt_f, eq_t, eq_f, no_lt, no_le, le_no, lt_no, eq_no, no_eq, add_no, wib_t, clamp, nI_add, pk_mul, pk_sub, nor_, nand_, ndif_, shl_, sh1_, shr_, tbn, tb0, tb1, les_t, les_f, pk_div, rem_, remv, and31, wu1, wuc, wui, wu2, ws1, wsc, ws2, wv1, n11_, n13_, n14_, n15_, n17_, n19_, n23_, n56_, n64_, fX11_reads_l11, ef, en, eo, s6, Option.isSome_none, Option.isSome_some, Bool.false_eq_true]
  · simp (disch := omega) only [↓reduceIte, wlet, Option.bind_some, true_and, and_true, not_true_eq_false, not_false_eq_true, reduceCtorEq, n0_, n1_, n2_, n3_, n4_, n5_, n6_, n7_, n8_, n9_, n10_, n12_, n16_, n18_, n20_, n21_, n22_, n24_, n25_, n26_, n27_, n28_, n29_, n30_, n31_, n32_, n40_, n41_, n42_, n43_, n45_, n48_, n54_, n57_, n58_, n59_, n60_, n61_, n63_, n96_, n97_, n99_, n100_, n122_, n126_, n200_, n255_, n375_, n400_, n1000_, n2000_, n9999_, n5764801_, n1000000_, n3000_, m1, m2, le_t, le_f, lt_t, lt_f, eq_t, eq_f, no_lt, no_le, le_no, lt_no, eq_no, no_eq, add_no, wib_t, clamp, nI_add, pk_mul, pk_sub, nor_, nand_, ndif_, shl_, sh1_, shr_, tbn, tb0, tb1, les_t, les_f, pk_div, rem_, remv, and31, wu1, wuc, wui, wu2, ws1, wsc, ws2, wv1, n11_, n13_, n14_, n15_, n17_, n19_, n23_, n56_, n64_, fX11_reads_l11, ef, en, eo]
theorem r_bad1 (hs : SM h T b) (hq : gStt T b = false) : ∃ g, grB (nI d, nI 1, h) = some (.inr (false, g)) ∧ g.1 188 9 = nI (fl T 1 (b, 0)).2 ∧ RK h g := by
  obtain ⟨g, e1, g9, k1⟩ := r_fails hs 1
  refine ⟨g, ?_, g9, k1⟩
  have ef := r_fact hs
  have en := r_w18 hs
  have eo := r_isSign hs (s := 40) (by omega)
  have s6 := hs.2.2.2.1
  have hk0 := gTk_0 hs.2.2.1
  unfold gStt at hq
  simp only [Bool.or_eq_false_iff, decide_eq_false_iff_not, ne_eq, Decidable.not_not] at hq
  obtain ⟨z1, z2, z3, z4⟩ := hq
  rw [z1] at ef
  rw [z2] at en
  rw [z4] at eo
  show fX11_reads_l11 h (nI d) (nI 1) = _
  simp (disch := omega) only [↓reduceIte, wlet, Option.bind_some, true_and, and_true, not_true_eq_false, not_false_eq_true, reduceCtorEq, n0_, n1_, n2_, n3_, n4_, n5_, n6_, n7_, n8_, n9_, n10_, n12_, n16_, n18_, n20_, n21_, n22_, n24_, n25_, n26_, n27_, n28_, n29_, n30_, n31_, n32_, n40_, n41_, n42_, n43_, n45_, n48_, n54_, n57_, n58_, n59_, n60_, n61_, n63_, n96_, n97_, n99_, n100_, n122_, n126_, n200_, n255_, n375_, n400_, n1000_, n2000_, n9999_, n5764801_, n1000000_, n3000_, m1, m2, le_t, le_f, lt_t, lt_f, eq_t, eq_f, no_lt, no_le, le_no, lt_no, eq_no, no_eq, add_no, wib_t, clamp, nI_add, pk_mul, pk_sub, nor_, nand_, ndif_, shl_, sh1_, shr_, tbn, tb0, tb1, les_t, les_f, pk_div, rem_, remv, and31, wu1, wuc, wui, wu2, ws1, wsc, ws2, wv1, n11_, n13_, n14_, n15_, n17_, n19_, n23_, n56_, n64_, fX11_reads_l11, ef, en, eo, s6, e1, Option.isSome_none, Option.isSome_some, Bool.false_eq_true]
/-- opening: not, or a bracket -/
theorem r_open (a : MR h T b c d o) (hd : d ≤ 4) (hk : gTk T b ≠ 0) (x : Int32) {w : Nat} (hw : w ≤ 2) : ∃ g1 g3, fX11_puts h x = some g1 ∧ fX11_nextToken (wuI (wuI g1 203 (d + 1) (nI w)) 204 (d + 1) (nI 0)) = some g3 ∧ MR g3 T (gTe T b) (c + 1) (d + 1) (fun i => if i = d + 1 then w else o i) ∧ RQ c d h g3 ∧ g3.1 204 (d + 1) = nI 0 ∧ g3.1 204 d = h.1 204 d ∧ g3.1 202 c = x := by
  obtain ⟨hs, h23, c1, c2, ho⟩ := a
  have w0 := hs.2.1.1
  obtain ⟨t1, t2⟩ := gTe_s hs.2.2.1 hk
  obtain ⟨g1, e1, p1, p2, p3, p4, p5, p6⟩ := r_puts (T := T) (b := b) h23 (by omega) x
  have f2 : fr (fun c => c = 203 ∨ c = 204) g1 (wuI (wuI g1 203 (d + 1) (nI w)) 204 (d + 1) (nI 0)) := fr_tr (fr_wuI (Or.inl rfl)) (fr_wuI (Or.inr rfl))
  obtain ⟨g3, e3, s3, j3⟩ := r_next (SM_fr (p6 hs) f2 (by omega) (by omega))
  have k3 := RK_J j3
  have q : ∀ c, c ≠ 188 → g3.1 c = (wuI (wuI g1 203 (d + 1) (nI w)) 204 (d + 1) (nI 0)).1 c := fun c hc => fr_at k3.1 (by unfold s188; exact hc)
  refine ⟨g1, g3, e1, e3, ⟨s3, ?_, by omega, by omega, fun i h1 h2 => ?_⟩, ?_, ?_, ?_, ?_⟩
  · rw [k3.2.1 23 (by omega) (by omega) (by omega) (by omega) (by omega) (by omega), wuc (by omega), wuc (by omega)]; exact p1
  · rw [q 203 (by omega), wuc (by omega), wuS]
    by_cases e : i = d + 1
    · rw [if_pos e]
      show nI w = nI (if i = d + 1 then w else o i) ∧ (if i = d + 1 then w else o i) ≤ 2
      rw [if_pos e]; exact ⟨rfl, hw⟩
    · rw [if_neg e, p4]
      show h.1 203 i = nI (if i = d + 1 then w else o i) ∧ (if i = d + 1 then w else o i) ≤ 2
      rw [if_neg e]; exact ho i h1 (by omega)
  · refine RQ_tr (Nat.le_refl _) (Nat.le_refl _) (p3 d) (RQ_tr (Nat.le_refl _) (Nat.le_refl _) ?_ (RQ_K k3))
    exact ⟨fr_mono f2 (fun x q => by omega), fun j _ _ _ _ _ _ _ => by rw [wuc (by omega), wuc (by omega)], fun i _ => by rw [wuc (by omega), wuc (by omega)], fun i hi => by rw [wuc (by omega), wui (by omega)], fun i hi => by rw [wui (by omega), wuc (by omega)]⟩
  · rw [q 204 (by omega)]; exact wu1
  · rw [q 204 (by omega), wui (by omega), wuc (by omega), p5]
  · rw [q 202 (by omega), wuc (by omega), wuc (by omega), p2, if_pos rfl]
theorem gJ_3 (q : gJo T 3 b = 0) : gIg T b 42 = false := by
  cases z : gIg T b 42 with
  | false => rfl
  | true => unfold gJo at q; rw [z] at q; simp at q
theorem gJ_2 (q : gJo T 2 b = 0) : gIg T b 43 = false ∧ gIg T b 45 = false := by
  unfold gJo at q
  revert q
  cases gIg T b 43 <;> cases gIg T b 45 <;> simp
theorem gJ_0 (q : gJo T 0 b = 0) : gIs T b 19 = false ∧ gIs T b 20 = false := by
  unfold gJo at q
  revert q
  cases gIs T b 19 <;> cases gIs T b 20 <;> simp
theorem gJ_1 (q : gJo T 1 b = 0) : gIg T b 60 = false ∧ gIg T b 61 = false := by
  unfold gJo at q
  revert q
  cases gIg T b 60 <;> cases gIg T b 61 <;> simp
theorem r_304 (hs : SM g T b) (hd : d ≤ 5) (q3 : gJo T 3 b = 0) (q2 : gJo T 2 b = 0) (q1 : gJo T 1 b ≠ 0 → g.1 204 d = nI 1) : fX11_reads_l11 g (nI d) (nI 0) = fX11_reads_b304_11 g (nI d) (nI 0) := by
  have e43 := r_isSign hs (s := 43) (by omega)
  have e45 := r_isSign hs (s := 45) (by omega)
  have e42 := r_isSign hs (s := 42) (by omega)
  have e60 := r_isSign hs (s := 60) (by omega)
  have e61 := r_isSign hs (s := 61) (by omega)
  rw [gJ_3 q3] at e42
  rw [(gJ_2 q2).1] at e43
  rw [(gJ_2 q2).2] at e45
  by_cases q : gJo T 1 b = 0
  · rw [(gJ_1 q).1] at e60
    rw [(gJ_1 q).2] at e61
    simp (disch := omega) only [↓reduceIte, wlet, Option.bind_some, true_and, and_true, not_true_eq_false, not_false_eq_true, reduceCtorEq, n0_, n1_, n2_, n3_, n4_, n5_, n6_, n7_, n8_, n9_, n10_, n12_, n16_, n18_, n20_, n21_, n22_, n24_, n25_, n26_, n27_, n28_, n29_, n30_, n31_, n32_, n40_, n41_, n42_, n43_, n45_, n48_, n54_, n57_, n58_, n59_, n60_, n61_, n63_, n96_, n97_, n99_, n100_, n122_, n126_, n200_, n255_, n375_, n400_, n1000_, n2000_, n9999_, n5764801_, n1000000_, n3000_, m1, m2, le_t, le_f, lt_t, lt_f, eq_t, eq_f, no_lt, no_le, le_no, lt_no, eq_no, no_eq, add_no, wib_t, clamp, nI_add, pk_mul, pk_sub, nor_, nand_, ndif_, shl_, sh1_, shr_, tbn, tb0, tb1, les_t, les_f, pk_div, rem_, remv, and31, wu1, wuc, wui, wu2, ws1, wsc, ws2, wv1, n11_, n13_, n14_, n15_, n17_, n19_, n23_, n56_, n64_, fX11_reads_l11, e43, e45, e42, e60, e61, Option.isSome_none, Option.isSome_some, Bool.false_eq_true]
  · have h1 := q1 q
    cases z : gIg T b 60 with
    | true =>
      rw [z] at e60
      simp (disch := omega) only [↓reduceIte, wlet, Option.bind_some, true_and, and_true, not_true_eq_false, not_false_eq_true, reduceCtorEq, n0_, n1_, n2_, n3_, n4_, n5_, n6_, n7_, n8_, n9_, n10_, n12_, n16_, n18_, n20_, n21_, n22_, n24_, n25_, n26_, n27_, n28_, n29_, n30_, n31_, n32_, n40_, n41_, n42_, n43_, n45_, n48_, n54_, n57_, n58_, n59_, n60_, n61_, n63_, n96_, n97_, n99_, n100_, n122_, n126_, n200_, n255_, n375_, n400_, n1000_, n2000_, n9999_, n5764801_, n1000000_, n3000_, m1, m2, le_t, le_f, lt_t, lt_f, eq_t, eq_f, no_lt, no_le, le_no, lt_no, eq_no, no_eq, add_no, wib_t, clamp, nI_add, pk_mul, pk_sub, nor_, nand_, ndif_, shl_, sh1_, shr_, tbn, tb0, tb1, les_t, les_f, pk_div, rem_, remv, and31, wu1, wuc, wui, wu2, ws1, wsc, ws2, wv1, n11_, n13_, n14_, n15_, n17_, n19_, n23_, n56_, n64_, fX11_reads_l11, fX11_reads_b263_11, e43, e45, e42, e60, h1, Option.isSome_none, Option.isSome_some, Bool.false_eq_true]
    | false =>
      rw [z] at e60
      cases z2 : gIg T b 61 with
      | true =>
        rw [z2] at e61
        simp (disch := omega) only [↓reduceIte, wlet, Option.bind_some, true_and, and_true, not_true_eq_false, not_false_eq_true, reduceCtorEq, n0_, n1_, n2_, n3_, n4_, n5_, n6_, n7_, n8_, n9_, n10_, n12_, n16_, n18_, n20_, n21_, n22_, n24_, n25_, n26_, n27_, n28_, n29_, n30_, n31_, n32_, n40_, n41_, n42_, n43_, n45_, n48_, n54_, n57_, n58_, n59_, n60_, n61_, n63_, n96_, n97_, n99_, n100_, n122_, n126_, n200_, n255_, n375_, n400_, n1000_, n2000_, n9999_, n5764801_, n1000000_, n3000_, m1, m2, le_t, le_f, lt_t, lt_f, eq_t, eq_f, no_lt, no_le, le_no, lt_no, eq_no, no_eq, add_no, wib_t, clamp, nI_add, pk_mul, pk_sub, nor_, nand_, ndif_, shl_, sh1_, shr_, tbn, tb0, tb1, les_t, les_f, pk_div, rem_, remv, and31, wu1, wuc, wui, wu2, ws1, wsc, ws2, wv1, n11_, n13_, n14_, n15_, n17_, n19_, n23_, n56_, n64_, fX11_reads_l11, fX11_reads_b263_11, e43, e45, e42, e60, e61, h1, Option.isSome_none, Option.isSome_some, Bool.false_eq_true]
      | false =>
        rw [z2] at e61
        simp (disch := omega) only [↓reduceIte, wlet, Option.bind_some, true_and, and_true, not_true_eq_false, not_false_eq_true, reduceCtorEq, n0_, n1_, n2_, n3_, n4_, n5_, n6_, n7_, n8_, n9_, n10_, n12_, n16_, n18_, n20_, n21_, n22_, n24_, n25_, n26_, n27_, n28_, n29_, n30_, n31_, n32_, n40_, n41_, n42_, n43_, n45_, n48_, n54_, n57_, n58_, n59_, n60_, n61_, n63_, n96_, n97_, n99_, n100_, n122_, n126_, n200_, n255_, n375_, n400_, n1000_, n2000_, n9999_, n5764801_, n1000000_, n3000_, m1, m2, le_t, le_f, lt_t, lt_f, eq_t, eq_f, no_lt, no_le, le_no, lt_no, eq_no, no_eq, add_no, wib_t, clamp, nI_add, pk_mul, pk_sub, nor_, nand_, ndif_, shl_, sh1_, shr_, tbn, tb0, tb1, les_t, les_f, pk_div, rem_, remv, and31, wu1, wuc, wui, wu2, ws1, wsc, ws2, wv1, n11_, n13_, n14_, n15_, n17_, n19_, n23_, n56_, n64_, fX11_reads_l11, e43, e45, e42, e60, e61, Option.isSome_none, Option.isSome_some, Bool.false_eq_true]
theorem r_joint (hs : SM g T b) {l : Nat} (hl : l ≤ 3) (hd : d ≤ 5) (hj : gJo T l b ≠ 0) (h23 : g.1 188 23 = nI c) (hc : c < 2000) (h204 : l = 1 → g.1 204 d = nI 0) : ∃ f, grB (nI d, nI 0, g) = some (.inl (nI d, nI 1, f)) ∧ SM f T (gTe T b) ∧ f.1 188 23 = nI (c + 1) ∧ f.1 202 c = nI (gJo T l b) ∧ RQ c d g f ∧ f.1 204 d = (if l = 0 then nI 0 else if l = 1 then nI 1 else g.1 204 d) := by
  have e43 := r_isSign hs (s := 43) (by omega)
  have e45 := r_isSign hs (s := 45) (by omega)
  have e42 := r_isSign hs (s := 42) (by omega)
  have e60 := r_isSign hs (s := 60) (by omega)
  have e61 := r_isSign hs (s := 61) (by omega)
  have e19 := r_w19 hs
  have e20 := r_w20 hs
  obtain ⟨g1, e1, p1, p2, p3, p4, p5, p6⟩ := r_puts (T := T) (b := b) h23 hc (nI (gJo T l b))
  have wA : ∃ f, fX11_nextToken g1 = some f ∧ SM f T (gTe T b) ∧ f.1 188 23 = nI (c + 1) ∧ f.1 202 c = nI (gJo T l b) ∧ RQ c d g f ∧ f.1 204 d = g.1 204 d := by
    obtain ⟨f, e2, s2, j2⟩ := r_next (p6 hs)
    have k2 := RK_J j2
    refine ⟨f, e2, s2, by rw [k2.2.1 23 (by omega) (by omega) (by omega) (by omega) (by omega) (by omega)]; exact p1, by rw [fr_at k2.1 (by unfold s188; omega), p2, if_pos rfl], RQ_tr (Nat.le_refl _) (Nat.le_refl _) (p3 d) (RQ_K k2), by rw [fr_at k2.1 (by unfold s188; omega), p5]⟩
  have wB : ∀ w : Int32, ∃ f, fX11_nextToken (wuI g1 204 d w) = some f ∧ SM f T (gTe T b) ∧ f.1 188 23 = nI (c + 1) ∧ f.1 202 c = nI (gJo T l b) ∧ RQ c d g f ∧ f.1 204 d = w := by
    intro w
    have f2 : fr (fun c => c = 204) g1 (wuI g1 204 d w) := fr_wuI rfl
    obtain ⟨f, e2, s2, j2⟩ := r_next (SM_fr (p6 hs) f2 (by omega) (by omega))
    have k2 := RK_J j2
    refine ⟨f, e2, s2, by rw [k2.2.1 23 (by omega) (by omega) (by omega) (by omega) (by omega) (by omega), wuc (by omega)]; exact p1, by rw [fr_at k2.1 (by unfold s188; omega), wuc (by omega), p2, if_pos rfl], RQ_tr (Nat.le_refl _) (Nat.le_refl _) (p3 d) (RQ_tr (Nat.le_refl _) (Nat.le_refl _) ?_ (RQ_K k2)), by rw [fr_at k2.1 (by unfold s188; omega), wu1]⟩
    exact ⟨fr_mono f2 (fun x q => by omega), fun j _ _ _ _ _ _ _ => by rw [wuc (by omega)], fun i _ => by rw [wuc (by omega)], fun i hi => by rw [wuc (by omega)], fun i hi => by rw [wui (by omega)]⟩
  rcases gJ_v hl hj with ⟨rfl, ⟨e, q⟩ | ⟨e, q⟩⟩ | ⟨rfl, ⟨e, q⟩ | ⟨e, q⟩⟩ | ⟨rfl, ⟨e, q⟩ | ⟨e, q⟩⟩ | ⟨rfl, e, q⟩
  · obtain ⟨f, e2, r2⟩ := wB (nI 0)
    rw [e] at e1
    refine ⟨f, ?_, r2⟩
    rw [gIs_w q] at e43 e45 e42 e60 e61
    rw [q] at e19
    show fX11_reads_l11 g (nI d) (nI 0) = _
    simp (disch := omega) only [↓reduceIte, wlet, Option.bind_some, true_and, and_true, not_true_eq_false, not_false_eq_true, reduceCtorEq, n0_, n1_, n2_, n3_, n4_, n5_, n6_, n7_, n8_, n9_, n10_, n12_, n16_, n18_, n20_, n21_, n22_, n24_, n25_, n26_, n27_, n28_, n29_, n30_, n31_, n32_, n40_, n41_, n42_, n43_, n45_, n48_, n54_, n57_, n58_, n59_, n60_, n61_, n63_, n96_, n97_, n99_, n100_, n122_, n126_, n200_, n255_, n375_, n400_, n1000_, n2000_, n9999_, n5764801_, n1000000_, n3000_, m1, m2, le_t, le_f, lt_t, lt_f, eq_t, eq_f, no_lt, no_le, le_no, lt_no, eq_no, no_eq, add_no, wib_t, clamp, nI_add, pk_mul, pk_sub, nor_, nand_, ndif_, shl_, sh1_, shr_, tbn, tb0, tb1, les_t, les_f, pk_div, rem_, remv, and31, wu1, wuc, wui, wu2, ws1, wsc, ws2, wv1, n11_, n13_, n14_, n15_, n17_, n19_, n23_, n56_, n64_, fX11_reads_l11, fX11_reads_b304_11, fX11_reads_b324_11, fX11_reads_b342_11, fX11_reads_b424_11, e43, e45, e42, e60, e61, e19, e1, nar_0, e2, Option.isSome_none, Option.isSome_some, Bool.false_eq_true]
  · obtain ⟨f, e2, r2⟩ := wB (nI 0)
    rw [e] at e1
    refine ⟨f, ?_, r2⟩
    rw [gIs_w q] at e43 e45 e42 e60 e61
    rw [gIs_ne (j := 19) (by decide) q] at e19
    rw [q] at e20
    show fX11_reads_l11 g (nI d) (nI 0) = _
    simp (disch := omega) only [↓reduceIte, wlet, Option.bind_some, true_and, and_true, not_true_eq_false, not_false_eq_true, reduceCtorEq, n0_, n1_, n2_, n3_, n4_, n5_, n6_, n7_, n8_, n9_, n10_, n12_, n16_, n18_, n20_, n21_, n22_, n24_, n25_, n26_, n27_, n28_, n29_, n30_, n31_, n32_, n40_, n41_, n42_, n43_, n45_, n48_, n54_, n57_, n58_, n59_, n60_, n61_, n63_, n96_, n97_, n99_, n100_, n122_, n126_, n200_, n255_, n375_, n400_, n1000_, n2000_, n9999_, n5764801_, n1000000_, n3000_, m1, m2, le_t, le_f, lt_t, lt_f, eq_t, eq_f, no_lt, no_le, le_no, lt_no, eq_no, no_eq, add_no, wib_t, clamp, nI_add, pk_mul, pk_sub, nor_, nand_, ndif_, shl_, sh1_, shr_, tbn, tb0, tb1, les_t, les_f, pk_div, rem_, remv, and31, wu1, wuc, wui, wu2, ws1, wsc, ws2, wv1, n11_, n13_, n14_, n15_, n17_, n19_, n23_, n56_, n64_, fX11_reads_l11, fX11_reads_b304_11, fX11_reads_b324_11, fX11_reads_b342_11, fX11_reads_b424_11, e43, e45, e42, e60, e61, e19, e20, e1, nar_0, e2, Option.isSome_none, Option.isSome_some, Bool.false_eq_true]
  · obtain ⟨f, e2, r2⟩ := wB (nI 1)
    rw [e] at e1
    refine ⟨f, ?_, r2⟩
    rw [gIg_ne (j := 43) (by omega) q] at e43
    rw [gIg_ne (j := 45) (by omega) q] at e45
    rw [gIg_ne (j := 42) (by omega) q] at e42
    rw [q] at e60
    have h0 := h204 rfl
    show fX11_reads_l11 g (nI d) (nI 0) = _
    simp (disch := omega) only [↓reduceIte, wlet, Option.bind_some, true_and, and_true, not_true_eq_false, not_false_eq_true, reduceCtorEq, n0_, n1_, n2_, n3_, n4_, n5_, n6_, n7_, n8_, n9_, n10_, n12_, n16_, n18_, n20_, n21_, n22_, n24_, n25_, n26_, n27_, n28_, n29_, n30_, n31_, n32_, n40_, n41_, n42_, n43_, n45_, n48_, n54_, n57_, n58_, n59_, n60_, n61_, n63_, n96_, n97_, n99_, n100_, n122_, n126_, n200_, n255_, n375_, n400_, n1000_, n2000_, n9999_, n5764801_, n1000000_, n3000_, m1, m2, le_t, le_f, lt_t, lt_f, eq_t, eq_f, no_lt, no_le, le_no, lt_no, eq_no, no_eq, add_no, wib_t, clamp, nI_add, pk_mul, pk_sub, nor_, nand_, ndif_, shl_, sh1_, shr_, tbn, tb0, tb1, les_t, les_f, pk_div, rem_, remv, and31, wu1, wuc, wui, wu2, ws1, wsc, ws2, wv1, n11_, n13_, n14_, n15_, n17_, n19_, n23_, n56_, n64_, fX11_reads_l11, fX11_reads_b263_11, fX11_reads_b289_11, fX11_reads_b424_11, e43, e45, e42, e60, h0, e1, nar_1, e2, Option.isSome_none, Option.isSome_some, Bool.false_eq_true]
  · obtain ⟨f, e2, r2⟩ := wB (nI 1)
    rw [e] at e1
    refine ⟨f, ?_, r2⟩
    rw [gIg_ne (j := 43) (by omega) q] at e43
    rw [gIg_ne (j := 45) (by omega) q] at e45
    rw [gIg_ne (j := 42) (by omega) q] at e42
    rw [gIg_ne (j := 60) (by omega) q] at e60
    rw [q] at e61
    have h0 := h204 rfl
    show fX11_reads_l11 g (nI d) (nI 0) = _
    simp (disch := omega) only [↓reduceIte, wlet, Option.bind_some, true_and, and_true, not_true_eq_false, not_false_eq_true, reduceCtorEq, n0_, n1_, n2_, n3_, n4_, n5_, n6_, n7_, n8_, n9_, n10_, n12_, n16_, n18_, n20_, n21_, n22_, n24_, n25_, n26_, n27_, n28_, n29_, n30_, n31_, n32_, n40_, n41_, n42_, n43_, n45_, n48_, n54_, n57_, n58_, n59_, n60_, n61_, n63_, n96_, n97_, n99_, n100_, n122_, n126_, n200_, n255_, n375_, n400_, n1000_, n2000_, n9999_, n5764801_, n1000000_, n3000_, m1, m2, le_t, le_f, lt_t, lt_f, eq_t, eq_f, no_lt, no_le, le_no, lt_no, eq_no, no_eq, add_no, wib_t, clamp, nI_add, pk_mul, pk_sub, nor_, nand_, ndif_, shl_, sh1_, shr_, tbn, tb0, tb1, les_t, les_f, pk_div, rem_, remv, and31, wu1, wuc, wui, wu2, ws1, wsc, ws2, wv1, n11_, n13_, n14_, n15_, n17_, n19_, n23_, n56_, n64_, fX11_reads_l11, fX11_reads_b263_11, fX11_reads_b289_11, fX11_reads_b424_11, e43, e45, e42, e60, e61, h0, e1, nar_1, e2, Option.isSome_none, Option.isSome_some, Bool.false_eq_true]
  · obtain ⟨f, e2, r2⟩ := wA
    rw [e] at e1
    refine ⟨f, ?_, r2⟩
    rw [q] at e43
    show fX11_reads_l11 g (nI d) (nI 0) = _
    simp (disch := omega) only [↓reduceIte, wlet, Option.bind_some, true_and, and_true, not_true_eq_false, not_false_eq_true, reduceCtorEq, n0_, n1_, n2_, n3_, n4_, n5_, n6_, n7_, n8_, n9_, n10_, n12_, n16_, n18_, n20_, n21_, n22_, n24_, n25_, n26_, n27_, n28_, n29_, n30_, n31_, n32_, n40_, n41_, n42_, n43_, n45_, n48_, n54_, n57_, n58_, n59_, n60_, n61_, n63_, n96_, n97_, n99_, n100_, n122_, n126_, n200_, n255_, n375_, n400_, n1000_, n2000_, n9999_, n5764801_, n1000000_, n3000_, m1, m2, le_t, le_f, lt_t, lt_f, eq_t, eq_f, no_lt, no_le, le_no, lt_no, eq_no, no_eq, add_no, wib_t, clamp, nI_add, pk_mul, pk_sub, nor_, nand_, ndif_, shl_, sh1_, shr_, tbn, tb0, tb1, les_t, les_f, pk_div, rem_, remv, and31, wu1, wuc, wui, wu2, ws1, wsc, ws2, wv1, n11_, n13_, n14_, n15_, n17_, n19_, n23_, n56_, n64_, fX11_reads_l11, fX11_reads_b206_11, fX11_reads_b237_11, fX11_reads_b424_11, e43, e1, e2, Option.isSome_none, Option.isSome_some, Bool.false_eq_true]
  · obtain ⟨f, e2, r2⟩ := wA
    rw [e] at e1
    refine ⟨f, ?_, r2⟩
    rw [gIg_ne (j := 43) (by omega) q] at e43
    rw [q] at e45
    show fX11_reads_l11 g (nI d) (nI 0) = _
    simp (disch := omega) only [↓reduceIte, wlet, Option.bind_some, true_and, and_true, not_true_eq_false, not_false_eq_true, reduceCtorEq, n0_, n1_, n2_, n3_, n4_, n5_, n6_, n7_, n8_, n9_, n10_, n12_, n16_, n18_, n20_, n21_, n22_, n24_, n25_, n26_, n27_, n28_, n29_, n30_, n31_, n32_, n40_, n41_, n42_, n43_, n45_, n48_, n54_, n57_, n58_, n59_, n60_, n61_, n63_, n96_, n97_, n99_, n100_, n122_, n126_, n200_, n255_, n375_, n400_, n1000_, n2000_, n9999_, n5764801_, n1000000_, n3000_, m1, m2, le_t, le_f, lt_t, lt_f, eq_t, eq_f, no_lt, no_le, le_no, lt_no, eq_no, no_eq, add_no, wib_t, clamp, nI_add, pk_mul, pk_sub, nor_, nand_, ndif_, shl_, sh1_, shr_, tbn, tb0, tb1, les_t, les_f, pk_div, rem_, remv, and31, wu1, wuc, wui, wu2, ws1, wsc, ws2, wv1, n11_, n13_, n14_, n15_, n17_, n19_, n23_, n56_, n64_, fX11_reads_l11, fX11_reads_b206_11, fX11_reads_b237_11, fX11_reads_b424_11, e43, e45, e1, e2, Option.isSome_none, Option.isSome_some, Bool.false_eq_true]
  · obtain ⟨f, e2, r2⟩ := wA
    rw [e] at e1
    refine ⟨f, ?_, r2⟩
    rw [gIg_ne (j := 43) (by omega) q] at e43
    rw [gIg_ne (j := 45) (by omega) q] at e45
    rw [q] at e42
    show fX11_reads_l11 g (nI d) (nI 0) = _
    simp (disch := omega) only [↓reduceIte, wlet, Option.bind_some, true_and, and_true, not_true_eq_false, not_false_eq_true, reduceCtorEq, n0_, n1_, n2_, n3_, n4_, n5_, n6_, n7_, n8_, n9_, n10_, n12_, n16_, n18_, n20_, n21_, n22_, n24_, n25_, n26_, n27_, n28_, n29_, n30_, n31_, n32_, n40_, n41_, n42_, n43_, n45_, n48_, n54_, n57_, n58_, n59_, n60_, n61_, n63_, n96_, n97_, n99_, n100_, n122_, n126_, n200_, n255_, n375_, n400_, n1000_, n2000_, n9999_, n5764801_, n1000000_, n3000_, m1, m2, le_t, le_f, lt_t, lt_f, eq_t, eq_f, no_lt, no_le, le_no, lt_no, eq_no, no_eq, add_no, wib_t, clamp, nI_add, pk_mul, pk_sub, nor_, nand_, ndif_, shl_, sh1_, shr_, tbn, tb0, tb1, les_t, les_f, pk_div, rem_, remv, and31, wu1, wuc, wui, wu2, ws1, wsc, ws2, wv1, n11_, n13_, n14_, n15_, n17_, n19_, n23_, n56_, n64_, fX11_reads_l11, fX11_reads_b206_11, fX11_reads_b237_11, fX11_reads_b424_11, e43, e45, e42, e1, e2, Option.isSome_none, Option.isSome_some, Bool.false_eq_true]
end G80

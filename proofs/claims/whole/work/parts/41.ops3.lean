/-! CALLS that do: writing, scraping, weeks, undoing -/
def gKeep (u : gUn) (S : gSh) : gUn := if u.1 = 16 then (16, (u.2.1 + 1) % 16, fun i => if i = 15 then S else u.2.2 (i + 1)) else (u.1 + 1, (u.2.1 + 1) % 16, fun i => if i = u.1 then S else u.2.2 i)
def skU (c : Nat) : Prop := c = 48 ∨ (50 ≤ c ∧ c ≤ 129)
def skV (c : Nat) : Prop := c = 188 ∨ c = 229
theorem wmn_ {a b : Nat} (ha : a < 2147483648) (hb : b < 2147483648) : wmn (nI a) (nI b) = nI (min a b) := by
  unfold wmn
  by_cases q : b < a
  · rw [if_pos (nI_lt q (by omega)), Nat.min_eq_right (by omega)]
  · rw [if_neg (nI_nlt (by omega) (by omega)), Nat.min_eq_left (by omega)]
theorem gPut_week (L : gLib) (t i j : Nat) (S : gSh) : (gPut L t i j S).1 = S.1 := by
  unfold gPut
  generalize gtl L t = n
  induction n with
  | zero => rfl
  | succ n ih => rw [gF]; exact ih
theorem gRub_week (L : gLib) (i m : Nat) (S : gSh) : (gRub L i m S).1 = S.1 := by
  unfold gRub
  split
  · rfl
  · split <;> rfl
section G41
variable {h : wSt} {k : Nat} {L : gLib} {S : gSh} {u : gUn} {M : gMk} {Y : gYr} {N : gSn} {T : gTp}
theorem c_keep (hu : UC h u) (hS : SH h 29 S) (h1 : u.1 ≤ 16) (h2 : u.2.1 < 16) : ∃ g, fX8_keep h 29 = some g ∧ UC g (gKeep u S) ∧ fr skU h g := by
  obtain ⟨u0, u1, u2⟩ := hu
  obtain ⟨g1, e1, s1, f1⟩ := c_copy h (k := 50 + 5 * u.2.1) (k0 := 29) hS (by omega)
  have v0 : g1.1 48 0 = nI u.1 := by rw [fr_at f1 (by unfold sk; omega)]; exact u0
  have v1 : g1.1 48 1 = nI u.2.1 := by rw [fr_at f1 (by unfold sk; omega)]; exact u1
  have f2 : fr (fun c => c = 48) g1 (wuI (wuI g1 48 1 (nI ((u.2.1 + 1) % 16))) 48 0 (nI (min (u.1 + 1) 16))) := fr_tr (fr_wuI rfl) (fr_wuI rfl)
  have e2 := wmn_ (a := u.1 + 1) (b := 16) (by omega) (by omega)
  refine ⟨_, ?_, ?_, fr_tr (fr_mono f1 (fun c q => by unfold sk at q; unfold skU; omega)) (fr_mono f2 (fun c q => Or.inl q))⟩
  · simp (disch := omega) only [↓reduceIte, wlet, Option.bind_some, true_and, and_true, not_true_eq_false, not_false_eq_true, reduceCtorEq, n0_, n1_, n2_, n3_, n4_, n5_, n6_, n7_, n8_, n9_, n10_, n12_, n16_, n18_, n20_, n21_, n22_, n24_, n25_, n26_, n27_, n28_, n29_, n30_, n31_, n32_, n40_, n41_, n42_, n43_, n45_, n48_, n54_, n57_, n58_, n59_, n60_, n61_, n63_, n96_, n97_, n99_, n100_, n122_, n126_, n200_, n255_, n375_, n400_, n1000_, n2000_, n9999_, n5764801_, n1000000_, n3000_, m1, m2, le_t, le_f, lt_t, lt_f, eq_t, eq_f, no_lt, no_le, le_no, lt_no, eq_no, no_eq, add_no, wib_t, clamp, nI_add, pk_mul, pk_sub, nor_, nand_, ndif_, shl_, sh1_, shr_, tbn, tb0, tb1, les_t, les_f, pk_div, rem_, remv, and31, wu1, wuc, wui, wu2, ws1, wsc, ws2, wv1, n11_, n13_, n14_, n15_, n17_, n19_, n23_, n56_, n64_, fX8_keep, u1, e1, v0, v1, e2]
  · have key : ∀ i, i < (gKeep u S).1 → SH (wuI (wuI g1 48 1 (nI ((u.2.1 + 1) % 16))) 48 0 (nI (min (u.1 + 1) 16))) (gAt (gKeep u S) i) ((gKeep u S).2.2 i) := by
      intro i hi
      have hb := gAt_b (gKeep u S) i
      refine SH_fr ?_ f2 (fun c _ _ => by omega)
      unfold gKeep gAt at *
      by_cases q : u.1 = 16
      · simp only [if_pos q] at hi hb ⊢
        by_cases q2 : i = 15
        · rw [if_pos q2, show ((u.2.1 + 1) % 16 + 16 - 16 + i) % 16 = u.2.1 by omega]
          exact s1
        · rw [if_neg q2]
          have s2 := u2 (i + 1) (by omega)
          rw [show (u.2.1 + 16 - u.1 + (i + 1)) % 16 = ((u.2.1 + 1) % 16 + 16 - 16 + i) % 16 by omega] at s2
          exact SH_fr s2 f1 (fun c _ _ => by unfold sk; omega)
      · simp only [if_neg q] at hi hb ⊢
        by_cases q2 : i = u.1
        · rw [if_pos q2, show ((u.2.1 + 1) % 16 + 16 - (u.1 + 1) + i) % 16 = u.2.1 by omega]
          exact s1
        · rw [if_neg q2]
          have s2 := u2 i (by omega)
          rw [show (u.2.1 + 16 - u.1 + i) % 16 = ((u.2.1 + 1) % 16 + 16 - (u.1 + 1) + i) % 16 by omega] at s2
          exact SH_fr s2 f1 (fun c _ _ => by unfold sk; omega)
    refine ⟨?_, ?_, key⟩
    · rw [wu1]
      unfold gKeep
      by_cases q : u.1 = 16
      · rw [if_pos q, q]; rfl
      · rw [if_neg q, Nat.min_eq_left (by omega)]
    · rw [wui (by omega), wu1]
      unfold gKeep
      by_cases q : u.1 = 16
      · rw [if_pos q]
      · rw [if_neg q]
theorem r_shift (h : wSt) : ∃ g, wit (fun v : (Int32 × wSt) => fX11_keeps_l11 v.2 v.1) 3000 (nI 0, h) = some g ∧ fr (fun c => c = 229) h g ∧ ∀ q, q < 375 → g.1 229 q = h.1 229 (q + 25) := by
  obtain ⟨e, he, eg⟩ := wit_for (b := fun v : (Int32 × wSt) => fX11_keeps_l11 v.2 v.1) (fun _ (u : Unit) => u) 375
    (fun m _ v => ∃ g, v = (nI m, g) ∧ fr (fun c => c = 229) h g ∧ ∀ q, g.1 229 q = if q < m then h.1 229 (q + 25) else h.1 229 q)
    (fun _ g => fr (fun c => c = 229) h g ∧ ∀ q, q < 375 → g.1 229 q = h.1 229 (q + 25))
    (by
      rintro m _ v hm ⟨g, rfl, fg, gq⟩
      have g1 := gq (m + 25)
      rw [if_neg (by omega)] at g1
      refine ⟨(nI (m + 1), wuI g 229 m (h.1 229 (m + 25))), ?_, _, rfl, fr_tr fg (fr_wuI rfl), ?_⟩
      · simp (disch := omega) only [↓reduceIte, wlet, Option.bind_some, true_and, and_true, not_true_eq_false, not_false_eq_true, reduceCtorEq, n0_, n1_, n2_, n3_, n4_, n5_, n6_, n7_, n8_, n9_, n10_, n12_, n16_, n18_, n20_, n21_, n22_, n24_, n25_, n26_, n27_, n28_, n29_, n30_, n31_, n32_, n40_, n41_, n42_, n43_, n45_, n48_, n54_, n57_, n58_, n59_, n60_, n61_, n63_, n96_, n97_, n99_, n100_, n122_, n126_, n200_, n255_, n375_, n400_, n1000_, n2000_, n9999_, n5764801_, n1000000_, n3000_, m1, m2, le_t, le_f, lt_t, lt_f, eq_t, eq_f, no_lt, no_le, le_no, lt_no, eq_no, no_eq, add_no, wib_t, clamp, nI_add, pk_mul, pk_sub, nor_, nand_, ndif_, shl_, sh1_, shr_, tbn, tb0, tb1, les_t, les_f, pk_div, rem_, remv, and31, wu1, wuc, wui, wu2, ws1, wsc, ws2, wv1, n11_, n13_, n14_, n15_, n17_, n19_, n23_, n56_, n64_, fX11_keeps_l11, g1]
      · intro q
        rw [wuS, gq]
        by_cases e1 : q = m
        · rw [if_pos e1, if_pos (by omega), e1]
        · rw [if_neg e1]
          by_cases e2 : q < m
          · rw [if_pos e2, if_pos (by omega)]
          · rw [if_neg e2, if_neg (by omega)])
    (by
      rintro _ v ⟨g, rfl, fg, gq⟩
      refine ⟨g, ?_, fg, fun q hq => by rw [gq, if_pos hq]⟩
      simp (disch := omega) only [↓reduceIte, wlet, Option.bind_some, true_and, and_true, not_true_eq_false, not_false_eq_true, reduceCtorEq, n0_, n1_, n2_, n3_, n4_, n5_, n6_, n7_, n8_, n9_, n10_, n12_, n16_, n18_, n20_, n21_, n22_, n24_, n25_, n26_, n27_, n28_, n29_, n30_, n31_, n32_, n40_, n41_, n42_, n43_, n45_, n48_, n54_, n57_, n58_, n59_, n60_, n61_, n63_, n96_, n97_, n99_, n100_, n122_, n126_, n200_, n255_, n375_, n400_, n1000_, n2000_, n9999_, n5764801_, n1000000_, n3000_, m1, m2, le_t, le_f, lt_t, lt_f, eq_t, eq_f, no_lt, no_le, le_no, lt_no, eq_no, no_eq, add_no, wib_t, clamp, nI_add, pk_mul, pk_sub, nor_, nand_, ndif_, shl_, sh1_, shr_, tbn, tb0, tb1, les_t, les_f, pk_div, rem_, remv, and31, wu1, wuc, wui, wu2, ws1, wsc, ws2, wv1, n11_, n13_, n14_, n15_, n17_, n19_, n23_, n56_, n64_, fX11_keeps_l11])
    (N := 3000) (by omega) (a0 := ()) (v0 := (nI 0, h)) ⟨_, rfl, fr_rf, fun q => by rw [if_neg (by omega)]⟩
  exact ⟨e, he, eg⟩
theorem r_keep0 {h : wSt} {S : gSh} {w : Nat → gSh} {n : Nat} (hn : n < 16) (h54 : h.1 188 54 = nI n) (hS : MS h 225 0 S) (hw : ∀ i, i < n → MS h 229 (25 * i) (w i)) : ∃ g, fX11_keeps_b49 h = some g ∧ g.1 188 54 = nI (n + 1) ∧ (∀ j, j ≠ 54 → g.1 188 j = h.1 188 j) ∧ (∀ i, i < n + 1 → MS g 229 (25 * i) (if i = n then S else w i)) ∧ fr skV h g := by
  obtain ⟨g1, e1, f1, q1⟩ := r_copies h (a0 := 225) (g0 := 25) (o := 0) (a2 := 229) (g2 := 400) (o2 := 25 * n) (by omega) (by omega) (by omega) (by omega) (by omega)
  have v54 : g1.1 188 = h.1 188 := fr_at f1 (by omega)
  refine ⟨wuI g1 188 54 (nI (n + 1)), ?_, wu1, ?_, ?_, fr_tr (fr_mono f1 (fun c q => Or.inr q)) (fr_wuI (Or.inl rfl))⟩
  · simp (disch := omega) only [↓reduceIte, wlet, Option.bind_some, true_and, and_true, not_true_eq_false, not_false_eq_true, reduceCtorEq, n0_, n1_, n2_, n3_, n4_, n5_, n6_, n7_, n8_, n9_, n10_, n12_, n16_, n18_, n20_, n21_, n22_, n24_, n25_, n26_, n27_, n28_, n29_, n30_, n31_, n32_, n40_, n41_, n42_, n43_, n45_, n48_, n54_, n57_, n58_, n59_, n60_, n61_, n63_, n96_, n97_, n99_, n100_, n122_, n126_, n200_, n255_, n375_, n400_, n1000_, n2000_, n9999_, n5764801_, n1000000_, n3000_, m1, m2, le_t, le_f, lt_t, lt_f, eq_t, eq_f, no_lt, no_le, le_no, lt_no, eq_no, no_eq, add_no, wib_t, clamp, nI_add, pk_mul, pk_sub, nor_, nand_, ndif_, shl_, sh1_, shr_, tbn, tb0, tb1, les_t, les_f, pk_div, rem_, remv, and31, wu1, wuc, wui, wu2, ws1, wsc, ws2, wv1, n11_, n13_, n14_, n15_, n17_, n19_, n23_, n56_, n64_, fX11_keeps_b49, h54, e1, v54]
  · intro j hj
    rw [wui hj, v54]
  · intro i hi
    refine MS_fr (P := fun c => c = 188) ?_ (fr_wuI rfl) (by omega)
    by_cases q : i = n
    · rw [if_pos q, q]
      exact MS_copies hS q1
    · rw [if_neg q]
      exact MS_copy (hw i (by omega)) (fun j hj => by rw [q1, if_neg (by omega)])
theorem r_keep (hu : UM h u) (hS : MS h 225 0 S) (h1 : u.1 ≤ 16) : ∃ g, fX11_keeps h = some g ∧ UM g (gKeep u S) ∧ (∀ j, j ≠ 54 → g.1 188 j = h.1 188 j) ∧ fr skV h g := by
  obtain ⟨u0, u2⟩ := hu
  by_cases q : u.1 = 16
  · obtain ⟨g1, e1, f1, q1⟩ := r_shift h
    have v54 : g1.1 188 = h.1 188 := fr_at f1 (by omega)
    have f2 : fr (fun c => c = 188) g1 (wuI g1 188 54 (nI 15)) := fr_wuI rfl
    obtain ⟨g, e2, a1, a2, a3, a4⟩ := r_keep0 (h := wuI g1 188 54 (nI 15)) (S := S) (w := fun i => u.2.2 (i + 1)) (n := 15) (by omega) wu1 (MS_fr (MS_fr hS f1 (by omega)) f2 (by omega)) (fun i hi => by
      refine MS_fr ?_ f2 (by omega)
      have := u2 (i + 1) (by omega)
      exact MS_copy this (fun j hj => by rw [q1 _ (by omega), show 25 * i + j + 25 = 25 * (i + 1) + j by omega]))
    refine ⟨g, ?_, ⟨?_, ?_⟩, ?_, fr_tr (fr_mono f1 (fun c q => Or.inr q)) (fr_tr (fr_mono f2 (fun c q => Or.inl q)) a4)⟩
    · simp (disch := omega) only [↓reduceIte, wlet, Option.bind_some, true_and, and_true, not_true_eq_false, not_false_eq_true, reduceCtorEq, n0_, n1_, n2_, n3_, n4_, n5_, n6_, n7_, n8_, n9_, n10_, n12_, n16_, n18_, n20_, n21_, n22_, n24_, n25_, n26_, n27_, n28_, n29_, n30_, n31_, n32_, n40_, n41_, n42_, n43_, n45_, n48_, n54_, n57_, n58_, n59_, n60_, n61_, n63_, n96_, n97_, n99_, n100_, n122_, n126_, n200_, n255_, n375_, n400_, n1000_, n2000_, n9999_, n5764801_, n1000000_, n3000_, m1, m2, le_t, le_f, lt_t, lt_f, eq_t, eq_f, no_lt, no_le, le_no, lt_no, eq_no, no_eq, add_no, wib_t, clamp, nI_add, pk_mul, pk_sub, nor_, nand_, ndif_, shl_, sh1_, shr_, tbn, tb0, tb1, les_t, les_f, pk_div, rem_, remv, and31, wu1, wuc, wui, wu2, ws1, wsc, ws2, wv1, n11_, n13_, n14_, n15_, n17_, n19_, n23_, n56_, n64_, fX11_keeps, u0, q, e1, v54, e2]
    · rw [a1]
      unfold gKeep
      rw [if_pos q]
    · intro i hi
      unfold gKeep at hi ⊢
      rw [if_pos q] at hi ⊢
      exact a3 i hi
    · intro j hj
      rw [a2 j hj, wui hj, v54]
  · obtain ⟨g, e2, a1, a2, a3, a4⟩ := r_keep0 (n := u.1) (by omega) u0 hS u2
    refine ⟨g, ?_, ⟨?_, ?_⟩, a2, a4⟩
    · simp (disch := omega) only [↓reduceIte, wlet, Option.bind_some, true_and, and_true, not_true_eq_false, not_false_eq_true, reduceCtorEq, n0_, n1_, n2_, n3_, n4_, n5_, n6_, n7_, n8_, n9_, n10_, n12_, n16_, n18_, n20_, n21_, n22_, n24_, n25_, n26_, n27_, n28_, n29_, n30_, n31_, n32_, n40_, n41_, n42_, n43_, n45_, n48_, n54_, n57_, n58_, n59_, n60_, n61_, n63_, n96_, n97_, n99_, n100_, n122_, n126_, n200_, n255_, n375_, n400_, n1000_, n2000_, n9999_, n5764801_, n1000000_, n3000_, m1, m2, le_t, le_f, lt_t, lt_f, eq_t, eq_f, no_lt, no_le, le_no, lt_no, eq_no, no_eq, add_no, wib_t, clamp, nI_add, pk_mul, pk_sub, nor_, nand_, ndif_, shl_, sh1_, shr_, tbn, tb0, tb1, les_t, les_f, pk_div, rem_, remv, and31, wu1, wuc, wui, wu2, ws1, wsc, ws2, wv1, n11_, n13_, n14_, n15_, n17_, n19_, n23_, n56_, n64_, fX11_keeps, u0, e2]
    · rw [a1]
      unfold gKeep
      rw [if_neg q]
    · intro i hi
      unfold gKeep at hi ⊢
      rw [if_neg q] at hi ⊢
      exact a3 i hi
theorem W_keep (W : WI k L S u M Y N T) : (gKeep u S).1 ≤ 16 ∧ (gKeep u S).2.1 < 16 ∧ ∀ i, i < (gKeep u S).1 → WS L ((gKeep u S).2.2 i) ∧ ((gKeep u S).2.2 i).1 ≤ k := by
  obtain ⟨-, w2, w3, ⟨w4, w5, w6⟩, -⟩ := W
  unfold gKeep
  by_cases q : u.1 = 16
  · simp only [if_pos q]
    refine ⟨by omega, Nat.mod_lt _ (by omega), fun i hi => ?_⟩
    by_cases q2 : i = 15
    · rw [if_pos q2]; exact ⟨w2, w3⟩
    · rw [if_neg q2]; exact w6 _ (by omega)
  · simp only [if_neg q]
    refine ⟨by omega, Nat.mod_lt _ (by omega), fun i hi => ?_⟩
    by_cases q2 : i = u.1
    · rw [if_pos q2]; exact ⟨w2, w3⟩
    · rw [if_neg q2]; exact w6 _ (by omega)
theorem WI_mono {k2 : Nat} (W : WI k L S u M Y N T) (hk : k ≤ k2) : WI k2 L S u M Y N T := by
  obtain ⟨w1, w2, w3, ⟨w4, w5, w6⟩, w7, w8⟩ := W
  exact ⟨w1, w2, by omega, ⟨w4, w5, fun i hi => ⟨(w6 i hi).1, by have := (w6 i hi).2; omega⟩⟩, fun i s y n e => ⟨(w7 i s y n e).1, by have := (w7 i s y n e).2.1; omega, (w7 i s y n e).2.2⟩, w8⟩
theorem Inv_mono {k2 : Nat} (hI : Inv k h) (hk : k ≤ k2) : Inv k2 h := by
  obtain ⟨L, S, u, M, Y, N, T, W, C, R⟩ := hI
  exact ⟨L, S, u, M, Y, N, T, WI_mono W hk, C, R⟩
/-- a deed: keep, then change the shelf -/
theorem Inv_deed {h1 h2 : wSt} {S2 : gSh} {k2 : Nat} (W : WI k L S u M Y N T) (C : CI h L S u M Y N T) (R : MI h L S u M Y N T) (f1 : fr (fun c => skU c ∨ sk 29 c) h h1) (c1 : UC h1 (gKeep u S)) (c2 : SH h1 29 S2)
    (f2 : fr (fun c => skV c ∨ c = 225) h1 h2) (m1 : UM h2 (gKeep u S)) (m2 : MS h2 225 0 S2) (m3 : h2.1 188 1 = h1.1 188 1) (hv : WS L S2) (hk : S2.1 ≤ k2) (hk2 : k ≤ k2) : Inv k2 h2 := by
  have W2 := WI_mono W hk2
  obtain ⟨w1, w2, w3, w4, w5⟩ := W2
  have w6 := W_keep W
  have w7 : (gKeep u S).1 ≤ 16 ∧ (gKeep u S).2.1 < 16 ∧ ∀ i, i < (gKeep u S).1 → WS L ((gKeep u S).2.2 i) ∧ ((gKeep u S).2.2 i).1 ≤ k2 := ⟨w6.1, w6.2.1, fun i hi => ⟨(w6.2.2 i hi).1, by have := (w6.2.2 i hi).2; omega⟩⟩
  have q1 : ∀ c, skU c ∨ sk 29 c → (c = 48 ∨ (50 ≤ c ∧ c ≤ 129)) ∨ (29 ≤ c ∧ c ≤ 33) := fun c q => q
  have q2 : ∀ c, skV c ∨ c = 225 → c = 188 ∨ c = 229 ∨ c = 225 := fun c q => by unfold skV at q; omega
  have f1' := fr_mono f1 q1
  have f2' := fr_mono f2 q2
  obtain ⟨a1, a2, a3, a4, a5, a6, a7⟩ := C
  obtain ⟨b1, b2, b3, b4, b5, b6, b7⟩ := R
  have f3 : fr ref h1 h2 := fr_mono f2' (fun c q => by unfold ref; omega)
  have f4 : fr cls h h1 := fr_mono f1' (fun c q => by unfold cls; omega)
  have C1 : CI h1 L S2 (gKeep u S) M Y N T := ⟨CL_fr a1 f1' (fun c _ _ => by omega), c2, c1, BC_fr a4 f1' (fun c _ _ => by omega), YC_fr a5 f1' (by omega) (by omega), NC_fr a6 f1' (fun c _ _ => by omega), TC_fr a7 f1' (by omega) (by omega)⟩
  have R1 := MI_cls ⟨b1, b2, b3, b4, b5, b6, b7⟩ f4
  obtain ⟨b1, b2, b3, b4, b5, b6, b7⟩ := R1
  exact ⟨L, S2, gKeep u S, M, Y, N, T, ⟨w1, hv, hk, w7, w5⟩, CI_ref C1 f3, ML_fr b1 f2' (fun c _ _ => by omega), m2, m1, BM_fr b4 f2' (fun c _ _ _ => by omega), YM_fr b5 f2' (fun c _ _ => by omega), NM_fr b6 f2' (fun c _ _ => by omega), TM_fr b7 f2' m3 (by omega)⟩
theorem neg_no {x : Int32} (h : x < 0) : (x < nI 0) = True := neg_lt h (by omega)
theorem gLn_can {t i : Nat} {y : Int32} (hi : i < gns L) (hq : gLn L (nI i) y = none) (hl : gln L i ≤ 6) (hn : gns L ≤ 3) : (y < nI 0) = True ∨ ∃ j, gln L i ≤ j ∧ j < 2147483648 ∧ y = nI j := by
  unfold gLn at hq
  rw [gIx_at hi (by omega), Option.bind_some] at hq
  cases e : gIx (gln L i) y with
  | none =>
    rcases gIx_none e with q | q
    · exact Or.inl (neg_no q)
    · exact Or.inr q
  | some j => rw [e] at hq; cases hq
theorem op_write (hI : Inv k h) (x0 x1 x2 : Int32) : ∃ r h1 h2, fX10_write h x0 x1 x2 = some (r, h1) ∧ fX11_write h1 x0 x1 x2 = some (r, h2) ∧ Inv k h2 := by
  obtain ⟨L, S, u, M, Y, N, T, W, C, R⟩ := hI
  have hC := W_CX W C
  have n1 := W.1.1
  have a1 := c_hasText W.1 C.1 x0
  have a3 := c_hasSkin W.1 C.1 x1
  have R0 := MI_0 R (nI 0)
  have a2 := r_isText W.1 R0.1 x0
  have a4 := r_isLine W.1 R0.1 x1 x2
  cases e : gIx (gnt L) x0 with
  | none =>
    rw [e] at a1 a2
    refine ⟨false, h, _, ?_, ?_, Inv_q0 W C R fr_rf⟩
    · simp (disch := omega) only [↓reduceIte, wlet, Option.bind_some, true_and, and_true, not_true_eq_false, not_false_eq_true, reduceCtorEq, n0_, n1_, n2_, n3_, n4_, n5_, n6_, n7_, n8_, n9_, n10_, n12_, n16_, n18_, n20_, n21_, n22_, n24_, n25_, n26_, n27_, n28_, n29_, n30_, n31_, n32_, n40_, n41_, n42_, n43_, n45_, n48_, n54_, n57_, n58_, n59_, n60_, n61_, n63_, n96_, n97_, n99_, n100_, n122_, n126_, n200_, n255_, n375_, n400_, n1000_, n2000_, n9999_, n5764801_, n1000000_, n3000_, m1, m2, le_t, le_f, lt_t, lt_f, eq_t, eq_f, no_lt, no_le, le_no, lt_no, eq_no, no_eq, add_no, wib_t, clamp, nI_add, pk_mul, pk_sub, nor_, nand_, ndif_, shl_, sh1_, shr_, tbn, tb0, tb1, les_t, les_f, pk_div, rem_, remv, and31, wu1, wuc, wui, wu2, ws1, wsc, ws2, wv1, n11_, n13_, n14_, n15_, n17_, n19_, n23_, n56_, n64_, fX10_write, a1, Option.isSome_none, Option.isSome_some, Bool.false_eq_true]
    · simp (disch := omega) only [↓reduceIte, wlet, Option.bind_some, true_and, and_true, not_true_eq_false, not_false_eq_true, reduceCtorEq, n0_, n1_, n2_, n3_, n4_, n5_, n6_, n7_, n8_, n9_, n10_, n12_, n16_, n18_, n20_, n21_, n22_, n24_, n25_, n26_, n27_, n28_, n29_, n30_, n31_, n32_, n40_, n41_, n42_, n43_, n45_, n48_, n54_, n57_, n58_, n59_, n60_, n61_, n63_, n96_, n97_, n99_, n100_, n122_, n126_, n200_, n255_, n375_, n400_, n1000_, n2000_, n9999_, n5764801_, n1000000_, n3000_, m1, m2, le_t, le_f, lt_t, lt_f, eq_t, eq_f, no_lt, no_le, le_no, lt_no, eq_no, no_eq, add_no, wib_t, clamp, nI_add, pk_mul, pk_sub, nor_, nand_, ndif_, shl_, sh1_, shr_, tbn, tb0, tb1, les_t, les_f, pk_div, rem_, remv, and31, wu1, wuc, wui, wu2, ws1, wsc, ws2, wv1, n11_, n13_, n14_, n15_, n17_, n19_, n23_, n56_, n64_, fX11_write, a2, Option.isSome_none, Option.isSome_some, Bool.false_eq_true]
  | some t =>
    obtain ⟨rfl, ht⟩ := gIx_some e
    have t1 := (W.1.2.2.2.2.1 t ht).2.2.1
    rw [e] at a1 a2
    cases e1 : gIx (gns L) x1 with
    | none =>
      have e2 : gLn L x1 x2 = none := by unfold gLn; rw [e1]; rfl
      rw [e1] at a3
      rw [e2] at a4
      refine ⟨false, h, _, ?_, ?_, Inv_q0 W C R fr_rf⟩
      · simp (disch := omega) only [↓reduceIte, wlet, Option.bind_some, true_and, and_true, not_true_eq_false, not_false_eq_true, reduceCtorEq, n0_, n1_, n2_, n3_, n4_, n5_, n6_, n7_, n8_, n9_, n10_, n12_, n16_, n18_, n20_, n21_, n22_, n24_, n25_, n26_, n27_, n28_, n29_, n30_, n31_, n32_, n40_, n41_, n42_, n43_, n45_, n48_, n54_, n57_, n58_, n59_, n60_, n61_, n63_, n96_, n97_, n99_, n100_, n122_, n126_, n200_, n255_, n375_, n400_, n1000_, n2000_, n9999_, n5764801_, n1000000_, n3000_, m1, m2, le_t, le_f, lt_t, lt_f, eq_t, eq_f, no_lt, no_le, le_no, lt_no, eq_no, no_eq, add_no, wib_t, clamp, nI_add, pk_mul, pk_sub, nor_, nand_, ndif_, shl_, sh1_, shr_, tbn, tb0, tb1, les_t, les_f, pk_div, rem_, remv, and31, wu1, wuc, wui, wu2, ws1, wsc, ws2, wv1, n11_, n13_, n14_, n15_, n17_, n19_, n23_, n56_, n64_, fX10_write, a1, a3, Option.isSome_none, Option.isSome_some, Bool.false_eq_true]
      · simp (disch := omega) only [↓reduceIte, wlet, Option.bind_some, true_and, and_true, not_true_eq_false, not_false_eq_true, reduceCtorEq, n0_, n1_, n2_, n3_, n4_, n5_, n6_, n7_, n8_, n9_, n10_, n12_, n16_, n18_, n20_, n21_, n22_, n24_, n25_, n26_, n27_, n28_, n29_, n30_, n31_, n32_, n40_, n41_, n42_, n43_, n45_, n48_, n54_, n57_, n58_, n59_, n60_, n61_, n63_, n96_, n97_, n99_, n100_, n122_, n126_, n200_, n255_, n375_, n400_, n1000_, n2000_, n9999_, n5764801_, n1000000_, n3000_, m1, m2, le_t, le_f, lt_t, lt_f, eq_t, eq_f, no_lt, no_le, le_no, lt_no, eq_no, no_eq, add_no, wib_t, clamp, nI_add, pk_mul, pk_sub, nor_, nand_, ndif_, shl_, sh1_, shr_, tbn, tb0, tb1, les_t, les_f, pk_div, rem_, remv, and31, wu1, wuc, wui, wu2, ws1, wsc, ws2, wv1, n11_, n13_, n14_, n15_, n17_, n19_, n23_, n56_, n64_, fX11_write, a2, a4, Option.isSome_none, Option.isSome_some, Bool.false_eq_true]
    | some i =>
      obtain ⟨rfl, hi⟩ := gIx_some e1
      rw [e1] at a3
      have l2 := (W.1.2.2.2.1 i hi).2.1
      cases e2 : gLn L (nI i) x2 with
      | none =>
        rw [e2] at a4
        have b1 : fX6_canWrite h 29 (nI t) (nI i) x2 = some false := by
          rcases gLn_can (t := t) hi e2 l2 n1 with q | ⟨j, q1, q2, rfl⟩
          · simp (disch := omega) only [↓reduceIte, wlet, Option.bind_some, true_and, and_true, not_true_eq_false, not_false_eq_true, reduceCtorEq, n0_, n1_, n2_, n3_, n4_, n5_, n6_, n7_, n8_, n9_, n10_, n12_, n16_, n18_, n20_, n21_, n22_, n24_, n25_, n26_, n27_, n28_, n29_, n30_, n31_, n32_, n40_, n41_, n42_, n43_, n45_, n48_, n54_, n57_, n58_, n59_, n60_, n61_, n63_, n96_, n97_, n99_, n100_, n122_, n126_, n200_, n255_, n375_, n400_, n1000_, n2000_, n9999_, n5764801_, n1000000_, n3000_, m1, m2, le_t, le_f, lt_t, lt_f, eq_t, eq_f, no_lt, no_le, le_no, lt_no, eq_no, no_eq, add_no, wib_t, clamp, nI_add, pk_mul, pk_sub, nor_, nand_, ndif_, shl_, sh1_, shr_, tbn, tb0, tb1, les_t, les_f, pk_div, rem_, remv, and31, wu1, wuc, wui, wu2, ws1, wsc, ws2, wv1, n11_, n13_, n14_, n15_, n17_, n19_, n23_, n56_, n64_, fX6_canWrite, q]
          · rw [c_can hC ht hi q2]
            unfold gCan
            rw [decide_eq_false (by omega), Bool.false_and]
        refine ⟨false, h, _, ?_, ?_, Inv_q0 W C R fr_rf⟩
        · simp (disch := omega) only [↓reduceIte, wlet, Option.bind_some, true_and, and_true, not_true_eq_false, not_false_eq_true, reduceCtorEq, n0_, n1_, n2_, n3_, n4_, n5_, n6_, n7_, n8_, n9_, n10_, n12_, n16_, n18_, n20_, n21_, n22_, n24_, n25_, n26_, n27_, n28_, n29_, n30_, n31_, n32_, n40_, n41_, n42_, n43_, n45_, n48_, n54_, n57_, n58_, n59_, n60_, n61_, n63_, n96_, n97_, n99_, n100_, n122_, n126_, n200_, n255_, n375_, n400_, n1000_, n2000_, n9999_, n5764801_, n1000000_, n3000_, m1, m2, le_t, le_f, lt_t, lt_f, eq_t, eq_f, no_lt, no_le, le_no, lt_no, eq_no, no_eq, add_no, wib_t, clamp, nI_add, pk_mul, pk_sub, nor_, nand_, ndif_, shl_, sh1_, shr_, tbn, tb0, tb1, les_t, les_f, pk_div, rem_, remv, and31, wu1, wuc, wui, wu2, ws1, wsc, ws2, wv1, n11_, n13_, n14_, n15_, n17_, n19_, n23_, n56_, n64_, fX10_write, a1, a3, b1, Option.isSome_none, Option.isSome_some, Bool.false_eq_true]
        · simp (disch := omega) only [↓reduceIte, wlet, Option.bind_some, true_and, and_true, not_true_eq_false, not_false_eq_true, reduceCtorEq, n0_, n1_, n2_, n3_, n4_, n5_, n6_, n7_, n8_, n9_, n10_, n12_, n16_, n18_, n20_, n21_, n22_, n24_, n25_, n26_, n27_, n28_, n29_, n30_, n31_, n32_, n40_, n41_, n42_, n43_, n45_, n48_, n54_, n57_, n58_, n59_, n60_, n61_, n63_, n96_, n97_, n99_, n100_, n122_, n126_, n200_, n255_, n375_, n400_, n1000_, n2000_, n9999_, n5764801_, n1000000_, n3000_, m1, m2, le_t, le_f, lt_t, lt_f, eq_t, eq_f, no_lt, no_le, le_no, lt_no, eq_no, no_eq, add_no, wib_t, clamp, nI_add, pk_mul, pk_sub, nor_, nand_, ndif_, shl_, sh1_, shr_, tbn, tb0, tb1, les_t, les_f, pk_div, rem_, remv, and31, wu1, wuc, wui, wu2, ws1, wsc, ws2, wv1, n11_, n13_, n14_, n15_, n17_, n19_, n23_, n56_, n64_, fX11_write, a2, a4, Option.isSome_none, Option.isSome_some, Bool.false_eq_true]
      | some p =>
        obtain ⟨i', j⟩ := p
        obtain ⟨p1, p2, p3, p4⟩ := gLn_some e2
        have p1 : nI i = nI i' := p1
        have p3 : i' < gns L := p3
        have p4 : j < gln L i' := p4
        have p5 : i = i' := (nI_eq (by omega) (by omega)).mp p1
        subst p5
        have p2 : x2 = nI j := p2
        subst p2
        rw [e2] at a4
        have b1 := c_can hC ht hi (j := j) (by omega)
        have b2 := r_can (W_MX W R0) ht hi (j := j) (by omega)
        cases hq : gCan L S t i j with
        | false =>
          rw [hq] at b1 b2
          refine ⟨false, h, _, ?_, ?_, Inv_q0 W C R fr_rf⟩
          · simp (disch := omega) only [↓reduceIte, wlet, Option.bind_some, true_and, and_true, not_true_eq_false, not_false_eq_true, reduceCtorEq, n0_, n1_, n2_, n3_, n4_, n5_, n6_, n7_, n8_, n9_, n10_, n12_, n16_, n18_, n20_, n21_, n22_, n24_, n25_, n26_, n27_, n28_, n29_, n30_, n31_, n32_, n40_, n41_, n42_, n43_, n45_, n48_, n54_, n57_, n58_, n59_, n60_, n61_, n63_, n96_, n97_, n99_, n100_, n122_, n126_, n200_, n255_, n375_, n400_, n1000_, n2000_, n9999_, n5764801_, n1000000_, n3000_, m1, m2, le_t, le_f, lt_t, lt_f, eq_t, eq_f, no_lt, no_le, le_no, lt_no, eq_no, no_eq, add_no, wib_t, clamp, nI_add, pk_mul, pk_sub, nor_, nand_, ndif_, shl_, sh1_, shr_, tbn, tb0, tb1, les_t, les_f, pk_div, rem_, remv, and31, wu1, wuc, wui, wu2, ws1, wsc, ws2, wv1, n11_, n13_, n14_, n15_, n17_, n19_, n23_, n56_, n64_, fX10_write, a1, a3, b1, Option.isSome_none, Option.isSome_some, Bool.false_eq_true]
          · simp (disch := omega) only [↓reduceIte, wlet, Option.bind_some, true_and, and_true, not_true_eq_false, not_false_eq_true, reduceCtorEq, n0_, n1_, n2_, n3_, n4_, n5_, n6_, n7_, n8_, n9_, n10_, n12_, n16_, n18_, n20_, n21_, n22_, n24_, n25_, n26_, n27_, n28_, n29_, n30_, n31_, n32_, n40_, n41_, n42_, n43_, n45_, n48_, n54_, n57_, n58_, n59_, n60_, n61_, n63_, n96_, n97_, n99_, n100_, n122_, n126_, n200_, n255_, n375_, n400_, n1000_, n2000_, n9999_, n5764801_, n1000000_, n3000_, m1, m2, le_t, le_f, lt_t, lt_f, eq_t, eq_f, no_lt, no_le, le_no, lt_no, eq_no, no_eq, add_no, wib_t, clamp, nI_add, pk_mul, pk_sub, nor_, nand_, ndif_, shl_, sh1_, shr_, tbn, tb0, tb1, les_t, les_f, pk_div, rem_, remv, and31, wu1, wuc, wui, wu2, ws1, wsc, ws2, wv1, n11_, n13_, n14_, n15_, n17_, n19_, n23_, n56_, n64_, fX11_write, a2, a4, b2, Option.isSome_none, Option.isSome_some, Bool.false_eq_true]
        | true =>
          rw [hq] at b1
          obtain ⟨g1, e3, c1, f1⟩ := c_keep C.2.2.1 C.2.1 W.2.2.2.1.1 W.2.2.2.1.2.1
          have hx1 : CX g1 L 29 S := ⟨W.1, CL_fr C.1 f1 (fun c _ _ => by unfold skU; omega), W.2.1, SH_fr C.2.1 f1 (fun c _ _ => by unfold skU; omega), by omega⟩
          obtain ⟨g2, e4, hx2, f2⟩ := c_put hx1 ht hi hq
          have f12 : fr (fun c => skU c ∨ sk 29 c) h g2 := fr_tr (fr_mono f1 (fun c q => Or.inl q)) (fr_mono f2 (fun c q => Or.inr q))
          have R2 := MI_0 (MI_cls R (fr_mono f12 (fun c q => by unfold skU sk at q; unfold cls; omega))) (nI 0)
          have a2 := r_isText W.1 R2.1 (nI t)
          have a4 := r_isLine W.1 R2.1 (nI i) (nI j)
          rw [e] at a2
          rw [e2] at a4
          have b2 := r_can (W_MX W R2) ht hi (j := j) (by omega)
          rw [hq] at b2
          obtain ⟨g3, e5, m1, m2, f3⟩ := r_keep R2.2.2.1 R2.2.1 W.2.2.2.1.1
          have hm3 : MX g3 L S := ⟨W.1, ML_fr R2.1 f3 (fun c _ _ => by unfold skV; omega), W.2.1, MS_fr R2.2.1 f3 (by unfold skV; omega)⟩
          obtain ⟨g4, e6, hm4, f4⟩ := r_put hm3 ht hi hq
          have f0 : fr skV g2 (wuI g2 188 0 (nI 0)) := fr_wuI (Or.inl rfl)
          refine ⟨true, g2, g4, ?_, ?_, Inv_deed W C R f12 (UC_fr c1 f2 (fun c _ _ => by unfold sk; omega)) hx2.2.2.2.1 (fr_tr (fr_mono (fr_tr f0 f3) (fun c q => Or.inl q)) (fr_mono f4 (fun c q => Or.inr q))) (UM_fr m1 f4 (by rw [fr_at f4 (by unfold s225; omega)]) (by unfold s225; omega)) hm4.2.2.2 ?_ hm4.2.2.1 (S2 := gPut L t i j S) ?_ (Nat.le_refl _)⟩
          · simp (disch := omega) only [↓reduceIte, wlet, Option.bind_some, true_and, and_true, not_true_eq_false, not_false_eq_true, reduceCtorEq, n0_, n1_, n2_, n3_, n4_, n5_, n6_, n7_, n8_, n9_, n10_, n12_, n16_, n18_, n20_, n21_, n22_, n24_, n25_, n26_, n27_, n28_, n29_, n30_, n31_, n32_, n40_, n41_, n42_, n43_, n45_, n48_, n54_, n57_, n58_, n59_, n60_, n61_, n63_, n96_, n97_, n99_, n100_, n122_, n126_, n200_, n255_, n375_, n400_, n1000_, n2000_, n9999_, n5764801_, n1000000_, n3000_, m1, m2, le_t, le_f, lt_t, lt_f, eq_t, eq_f, no_lt, no_le, le_no, lt_no, eq_no, no_eq, add_no, wib_t, clamp, nI_add, pk_mul, pk_sub, nor_, nand_, ndif_, shl_, sh1_, shr_, tbn, tb0, tb1, les_t, les_f, pk_div, rem_, remv, and31, wu1, wuc, wui, wu2, ws1, wsc, ws2, wv1, n11_, n13_, n14_, n15_, n17_, n19_, n23_, n56_, n64_, fX10_write, a1, a3, b1, e3, e4, Option.isSome_none, Option.isSome_some, Bool.false_eq_true]
          · simp (disch := omega) only [↓reduceIte, wlet, Option.bind_some, true_and, and_true, not_true_eq_false, not_false_eq_true, reduceCtorEq, n0_, n1_, n2_, n3_, n4_, n5_, n6_, n7_, n8_, n9_, n10_, n12_, n16_, n18_, n20_, n21_, n22_, n24_, n25_, n26_, n27_, n28_, n29_, n30_, n31_, n32_, n40_, n41_, n42_, n43_, n45_, n48_, n54_, n57_, n58_, n59_, n60_, n61_, n63_, n96_, n97_, n99_, n100_, n122_, n126_, n200_, n255_, n375_, n400_, n1000_, n2000_, n9999_, n5764801_, n1000000_, n3000_, m1, m2, le_t, le_f, lt_t, lt_f, eq_t, eq_f, no_lt, no_le, le_no, lt_no, eq_no, no_eq, add_no, wib_t, clamp, nI_add, pk_mul, pk_sub, nor_, nand_, ndif_, shl_, sh1_, shr_, tbn, tb0, tb1, les_t, les_f, pk_div, rem_, remv, and31, wu1, wuc, wui, wu2, ws1, wsc, ws2, wv1, n11_, n13_, n14_, n15_, n17_, n19_, n23_, n56_, n64_, fX11_write, a2, a4, b2, e5, e6, Option.isSome_none, Option.isSome_some, Bool.false_eq_true]
          · rw [fr_at f4 (by unfold s225; omega), m2 1 (by omega), wui (by omega)]
          · rw [gPut_week]; exact W.2.2.1
theorem op_rub (hI : Inv k h) (x0 : Int32) (m : Nat) : ∃ r h1 h2, fX10_rubByHand h x0 (nI m) = some (r, h1) ∧ fX11_scrapesNow (wuI h1 188 0 (nI 0)) x0 (nI m) = some (r, h2) ∧ Inv k h2 := by
  obtain ⟨L, S, u, M, Y, N, T, W, C, R⟩ := hI
  have hC := W_CX W C
  have n1 := W.1.1
  have a3 := c_hasSkin W.1 C.1 x0
  have R0 := MI_0 R (nI 0)
  have a4 := r_isSkin W.1 R0.1 x0
  cases e1 : gIx (gns L) x0 with
  | none =>
    rw [e1] at a3 a4
    refine ⟨wno, h, _, ?_, ?_, Inv_q0 W C R fr_rf⟩
    · simp (disch := omega) only [↓reduceIte, wlet, Option.bind_some, true_and, and_true, not_true_eq_false, not_false_eq_true, reduceCtorEq, n0_, n1_, n2_, n3_, n4_, n5_, n6_, n7_, n8_, n9_, n10_, n12_, n16_, n18_, n20_, n21_, n22_, n24_, n25_, n26_, n27_, n28_, n29_, n30_, n31_, n32_, n40_, n41_, n42_, n43_, n45_, n48_, n54_, n57_, n58_, n59_, n60_, n61_, n63_, n96_, n97_, n99_, n100_, n122_, n126_, n200_, n255_, n375_, n400_, n1000_, n2000_, n9999_, n5764801_, n1000000_, n3000_, m1, m2, le_t, le_f, lt_t, lt_f, eq_t, eq_f, no_lt, no_le, le_no, lt_no, eq_no, no_eq, add_no, wib_t, clamp, nI_add, pk_mul, pk_sub, nor_, nand_, ndif_, shl_, sh1_, shr_, tbn, tb0, tb1, les_t, les_f, pk_div, rem_, remv, and31, wu1, wuc, wui, wu2, ws1, wsc, ws2, wv1, n11_, n13_, n14_, n15_, n17_, n19_, n23_, n56_, n64_, fX10_rubByHand, a3, Option.isSome_none, Option.isSome_some, Bool.false_eq_true]
    · simp (disch := omega) only [↓reduceIte, wlet, Option.bind_some, true_and, and_true, not_true_eq_false, not_false_eq_true, reduceCtorEq, n0_, n1_, n2_, n3_, n4_, n5_, n6_, n7_, n8_, n9_, n10_, n12_, n16_, n18_, n20_, n21_, n22_, n24_, n25_, n26_, n27_, n28_, n29_, n30_, n31_, n32_, n40_, n41_, n42_, n43_, n45_, n48_, n54_, n57_, n58_, n59_, n60_, n61_, n63_, n96_, n97_, n99_, n100_, n122_, n126_, n200_, n255_, n375_, n400_, n1000_, n2000_, n9999_, n5764801_, n1000000_, n3000_, m1, m2, le_t, le_f, lt_t, lt_f, eq_t, eq_f, no_lt, no_le, le_no, lt_no, eq_no, no_eq, add_no, wib_t, clamp, nI_add, pk_mul, pk_sub, nor_, nand_, ndif_, shl_, sh1_, shr_, tbn, tb0, tb1, les_t, les_f, pk_div, rem_, remv, and31, wu1, wuc, wui, wu2, ws1, wsc, ws2, wv1, n11_, n13_, n14_, n15_, n17_, n19_, n23_, n56_, n64_, fX11_scrapesNow, a4, Option.isSome_none, Option.isSome_some, Bool.false_eq_true]
  | some i =>
    obtain ⟨rfl, hi⟩ := gIx_some e1
    rw [e1] at a3 a4
    have b1 := c_canRub hC (m := m) hi
    have b2 := r_wear (W_MX W R0) (m := m) hi
    by_cases hq : S.2.2.1 i &&& m = 0
    · rw [decide_eq_false (fun q => q hq)] at b1
      rw [if_pos hq] at b2
      refine ⟨wno, h, _, ?_, ?_, Inv_q0 W C R fr_rf⟩
      · simp (disch := omega) only [↓reduceIte, wlet, Option.bind_some, true_and, and_true, not_true_eq_false, not_false_eq_true, reduceCtorEq, n0_, n1_, n2_, n3_, n4_, n5_, n6_, n7_, n8_, n9_, n10_, n12_, n16_, n18_, n20_, n21_, n22_, n24_, n25_, n26_, n27_, n28_, n29_, n30_, n31_, n32_, n40_, n41_, n42_, n43_, n45_, n48_, n54_, n57_, n58_, n59_, n60_, n61_, n63_, n96_, n97_, n99_, n100_, n122_, n126_, n200_, n255_, n375_, n400_, n1000_, n2000_, n9999_, n5764801_, n1000000_, n3000_, m1, m2, le_t, le_f, lt_t, lt_f, eq_t, eq_f, no_lt, no_le, le_no, lt_no, eq_no, no_eq, add_no, wib_t, clamp, nI_add, pk_mul, pk_sub, nor_, nand_, ndif_, shl_, sh1_, shr_, tbn, tb0, tb1, les_t, les_f, pk_div, rem_, remv, and31, wu1, wuc, wui, wu2, ws1, wsc, ws2, wv1, n11_, n13_, n14_, n15_, n17_, n19_, n23_, n56_, n64_, fX10_rubByHand, a3, b1, Option.isSome_none, Option.isSome_some, Bool.false_eq_true]
      · simp (disch := omega) only [↓reduceIte, wlet, Option.bind_some, true_and, and_true, not_true_eq_false, not_false_eq_true, reduceCtorEq, n0_, n1_, n2_, n3_, n4_, n5_, n6_, n7_, n8_, n9_, n10_, n12_, n16_, n18_, n20_, n21_, n22_, n24_, n25_, n26_, n27_, n28_, n29_, n30_, n31_, n32_, n40_, n41_, n42_, n43_, n45_, n48_, n54_, n57_, n58_, n59_, n60_, n61_, n63_, n96_, n97_, n99_, n100_, n122_, n126_, n200_, n255_, n375_, n400_, n1000_, n2000_, n9999_, n5764801_, n1000000_, n3000_, m1, m2, le_t, le_f, lt_t, lt_f, eq_t, eq_f, no_lt, no_le, le_no, lt_no, eq_no, no_eq, add_no, wib_t, clamp, nI_add, pk_mul, pk_sub, nor_, nand_, ndif_, shl_, sh1_, shr_, tbn, tb0, tb1, les_t, les_f, pk_div, rem_, remv, and31, wu1, wuc, wui, wu2, ws1, wsc, ws2, wv1, n11_, n13_, n14_, n15_, n17_, n19_, n23_, n56_, n64_, fX11_scrapesNow, a4, b2, Option.isSome_none, Option.isSome_some, Bool.false_eq_true]
    · rw [decide_eq_true hq] at b1
      obtain ⟨g1, e3, c1, f1⟩ := c_keep C.2.2.1 C.2.1 W.2.2.2.1.1 W.2.2.2.1.2.1
      have hx1 : CX g1 L 29 S := ⟨W.1, CL_fr C.1 f1 (fun c _ _ => by unfold skU; omega), W.2.1, SH_fr C.2.1 f1 (fun c _ _ => by unfold skU; omega), by omega⟩
      obtain ⟨g2, e4, hx2, f2⟩ := c_rub hx1 (m := m) hi
      have f12 : fr (fun c => skU c ∨ sk 29 c) h g2 := fr_tr (fr_mono f1 (fun c q => Or.inl q)) (fr_mono f2 (fun c q => Or.inr q))
      have R2 := MI_0 (MI_cls R (fr_mono f12 (fun c q => by unfold skU sk at q; unfold cls; omega))) (nI 0)
      have a4 := r_isSkin W.1 R2.1 (nI i)
      rw [e1] at a4
      have b2 := r_wear (W_MX W R2) (m := m) hi
      rw [if_neg hq] at b2
      have hb := gWear_b W.1 W.2.1 (S.2.2.1 i &&& m) (i := i) (by omega)
      obtain ⟨g3, e5, m1, m2, f3⟩ := r_keep R2.2.2.1 R2.2.1 W.2.2.2.1.1
      have hm3 : MX g3 L S := ⟨W.1, ML_fr R2.1 f3 (fun c _ _ => by unfold skV; omega), W.2.1, MS_fr R2.2.1 f3 (by unfold skV; omega)⟩
      obtain ⟨g4, e6, hm4, f4⟩ := r_scrapes hm3 hi hq
      have f0 : fr skV g2 (wuI g2 188 0 (nI 0)) := fr_wuI (Or.inl rfl)
      have s1 := (hx2.2.2.2.1.2.1 i (by omega)).1
      have s2 := (hm4.2.2.2.2.1 i (by omega)).1
      simp only [Nat.reduceAdd, Nat.zero_add] at s1 s2
      refine ⟨nI ((gRub L i m S).2.1 i), g2, g4, ?_, ?_, Inv_deed W C R f12 (UC_fr c1 f2 (fun c _ _ => by unfold sk; omega)) hx2.2.2.2.1 (fr_tr (fr_mono (fr_tr f0 f3) (fun c q => Or.inl q)) (fr_mono f4 (fun c q => Or.inr q))) (UM_fr m1 f4 (by rw [fr_at f4 (by unfold s225; omega)]) (by unfold s225; omega)) hm4.2.2.2 ?_ hm4.2.2.1 (S2 := gRub L i m S) ?_ (Nat.le_refl _)⟩
      · simp (disch := omega) only [↓reduceIte, wlet, Option.bind_some, true_and, and_true, not_true_eq_false, not_false_eq_true, reduceCtorEq, n0_, n1_, n2_, n3_, n4_, n5_, n6_, n7_, n8_, n9_, n10_, n12_, n16_, n18_, n20_, n21_, n22_, n24_, n25_, n26_, n27_, n28_, n29_, n30_, n31_, n32_, n40_, n41_, n42_, n43_, n45_, n48_, n54_, n57_, n58_, n59_, n60_, n61_, n63_, n96_, n97_, n99_, n100_, n122_, n126_, n200_, n255_, n375_, n400_, n1000_, n2000_, n9999_, n5764801_, n1000000_, n3000_, m1, m2, le_t, le_f, lt_t, lt_f, eq_t, eq_f, no_lt, no_le, le_no, lt_no, eq_no, no_eq, add_no, wib_t, clamp, nI_add, pk_mul, pk_sub, nor_, nand_, ndif_, shl_, sh1_, shr_, tbn, tb0, tb1, les_t, les_f, pk_div, rem_, remv, and31, wu1, wuc, wui, wu2, ws1, wsc, ws2, wv1, n11_, n13_, n14_, n15_, n17_, n19_, n23_, n56_, n64_, fX10_rubByHand, a3, b1, e3, e4, s1, Option.isSome_none, Option.isSome_some, Bool.false_eq_true]
      · simp (disch := omega) only [↓reduceIte, wlet, Option.bind_some, true_and, and_true, not_true_eq_false, not_false_eq_true, reduceCtorEq, n0_, n1_, n2_, n3_, n4_, n5_, n6_, n7_, n8_, n9_, n10_, n12_, n16_, n18_, n20_, n21_, n22_, n24_, n25_, n26_, n27_, n28_, n29_, n30_, n31_, n32_, n40_, n41_, n42_, n43_, n45_, n48_, n54_, n57_, n58_, n59_, n60_, n61_, n63_, n96_, n97_, n99_, n100_, n122_, n126_, n200_, n255_, n375_, n400_, n1000_, n2000_, n9999_, n5764801_, n1000000_, n3000_, m1, m2, le_t, le_f, lt_t, lt_f, eq_t, eq_f, no_lt, no_le, le_no, lt_no, eq_no, no_eq, add_no, wib_t, clamp, nI_add, pk_mul, pk_sub, nor_, nand_, ndif_, shl_, sh1_, shr_, tbn, tb0, tb1, les_t, les_f, pk_div, rem_, remv, and31, wu1, wuc, wui, wu2, ws1, wsc, ws2, wv1, n11_, n13_, n14_, n15_, n17_, n19_, n23_, n56_, n64_, fX11_scrapesNow, a4, b2, e5, e6, s2, Option.isSome_none, Option.isSome_some, Bool.false_eq_true]
      · rw [fr_at f4 (by unfold s225; omega), m2 1 (by omega), wui (by omega)]
      · rw [gRub_week]; exact W.2.2.1
theorem op_scrape (hI : Inv k h) (x0 : Int32) : ∃ r h1 h2, fX10_scrape h x0 = some (r, h1) ∧ fX11_scrape h1 x0 = some (r, h2) ∧ Inv k h2 := by
  obtain ⟨r, h1, h2, e1, e2, hI2⟩ := op_rub hI x0 63
  refine ⟨r, h1, h2, ?_, ?_, hI2⟩
  · simp (disch := omega) only [↓reduceIte, wlet, Option.bind_some, true_and, and_true, not_true_eq_false, not_false_eq_true, reduceCtorEq, n0_, n1_, n2_, n3_, n4_, n5_, n6_, n7_, n8_, n9_, n10_, n12_, n16_, n18_, n20_, n21_, n22_, n24_, n25_, n26_, n27_, n28_, n29_, n30_, n31_, n32_, n40_, n41_, n42_, n43_, n45_, n48_, n54_, n57_, n58_, n59_, n60_, n61_, n63_, n96_, n97_, n99_, n100_, n122_, n126_, n200_, n255_, n375_, n400_, n1000_, n2000_, n9999_, n5764801_, n1000000_, n3000_, m1, m2, le_t, le_f, lt_t, lt_f, eq_t, eq_f, no_lt, no_le, le_no, lt_no, eq_no, no_eq, add_no, wib_t, clamp, nI_add, pk_mul, pk_sub, nor_, nand_, ndif_, shl_, sh1_, shr_, tbn, tb0, tb1, les_t, les_f, pk_div, rem_, remv, and31, wu1, wuc, wui, wu2, ws1, wsc, ws2, wv1, n11_, n13_, n14_, n15_, n17_, n19_, n23_, n56_, n64_, fX10_scrape, e1]
  · simp (disch := omega) only [↓reduceIte, wlet, Option.bind_some, true_and, and_true, not_true_eq_false, not_false_eq_true, reduceCtorEq, n0_, n1_, n2_, n3_, n4_, n5_, n6_, n7_, n8_, n9_, n10_, n12_, n16_, n18_, n20_, n21_, n22_, n24_, n25_, n26_, n27_, n28_, n29_, n30_, n31_, n32_, n40_, n41_, n42_, n43_, n45_, n48_, n54_, n57_, n58_, n59_, n60_, n61_, n63_, n96_, n97_, n99_, n100_, n122_, n126_, n200_, n255_, n375_, n400_, n1000_, n2000_, n9999_, n5764801_, n1000000_, n3000_, m1, m2, le_t, le_f, lt_t, lt_f, eq_t, eq_f, no_lt, no_le, le_no, lt_no, eq_no, no_eq, add_no, wib_t, clamp, nI_add, pk_mul, pk_sub, nor_, nand_, ndif_, shl_, sh1_, shr_, tbn, tb0, tb1, les_t, les_f, pk_div, rem_, remv, and31, wu1, wuc, wui, wu2, ws1, wsc, ws2, wv1, n11_, n13_, n14_, n15_, n17_, n19_, n23_, n56_, n64_, fX11_scrape, e2]
theorem op_third (hI : Inv k h) (x0 : Int32) : ∃ r h1 h2, fX10_third h x0 = some (r, h1) ∧ fX11_third h1 x0 = some (r, h2) ∧ Inv k h2 := by
  obtain ⟨r, h1, h2, e1, e2, hI2⟩ := op_rub hI x0 9
  refine ⟨r, h1, h2, ?_, ?_, hI2⟩
  · simp (disch := omega) only [↓reduceIte, wlet, Option.bind_some, true_and, and_true, not_true_eq_false, not_false_eq_true, reduceCtorEq, n0_, n1_, n2_, n3_, n4_, n5_, n6_, n7_, n8_, n9_, n10_, n12_, n16_, n18_, n20_, n21_, n22_, n24_, n25_, n26_, n27_, n28_, n29_, n30_, n31_, n32_, n40_, n41_, n42_, n43_, n45_, n48_, n54_, n57_, n58_, n59_, n60_, n61_, n63_, n96_, n97_, n99_, n100_, n122_, n126_, n200_, n255_, n375_, n400_, n1000_, n2000_, n9999_, n5764801_, n1000000_, n3000_, m1, m2, le_t, le_f, lt_t, lt_f, eq_t, eq_f, no_lt, no_le, le_no, lt_no, eq_no, no_eq, add_no, wib_t, clamp, nI_add, pk_mul, pk_sub, nor_, nand_, ndif_, shl_, sh1_, shr_, tbn, tb0, tb1, les_t, les_f, pk_div, rem_, remv, and31, wu1, wuc, wui, wu2, ws1, wsc, ws2, wv1, n11_, n13_, n14_, n15_, n17_, n19_, n23_, n56_, n64_, fX10_third, e1]
  · simp (disch := omega) only [↓reduceIte, wlet, Option.bind_some, true_and, and_true, not_true_eq_false, not_false_eq_true, reduceCtorEq, n0_, n1_, n2_, n3_, n4_, n5_, n6_, n7_, n8_, n9_, n10_, n12_, n16_, n18_, n20_, n21_, n22_, n24_, n25_, n26_, n27_, n28_, n29_, n30_, n31_, n32_, n40_, n41_, n42_, n43_, n45_, n48_, n54_, n57_, n58_, n59_, n60_, n61_, n63_, n96_, n97_, n99_, n100_, n122_, n126_, n200_, n255_, n375_, n400_, n1000_, n2000_, n9999_, n5764801_, n1000000_, n3000_, m1, m2, le_t, le_f, lt_t, lt_f, eq_t, eq_f, no_lt, no_le, le_no, lt_no, eq_no, no_eq, add_no, wib_t, clamp, nI_add, pk_mul, pk_sub, nor_, nand_, ndif_, shl_, sh1_, shr_, tbn, tb0, tb1, les_t, les_f, pk_div, rem_, remv, and31, wu1, wuc, wui, wu2, ws1, wsc, ws2, wv1, n11_, n13_, n14_, n15_, n17_, n19_, n23_, n56_, n64_, fX11_third, e2]
theorem SH_week (hS : SH h 29 S) (x : Nat) : SH (wuI h 29 1 (nI x)) 29 (x, S.2) := by
  obtain ⟨s0, s1, s2⟩ := hS
  refine ⟨wu1, fun i hi => ?_, fun p hp => ?_⟩
  · rw [wuc (by omega), wuc (by omega)]; exact s1 i hi
  · rw [wuc (by omega), wuc (by omega)]; exact s2 p hp
theorem MS_week (hS : MS h 225 0 S) (x : Nat) : MS (wuI h 225 0 (nI x)) 225 0 (x, S.2) := by
  obtain ⟨s0, s1, s2⟩ := hS
  refine ⟨wu1, fun i hi => ?_, fun p hp => ?_⟩
  · rw [wui (by omega), wui (by omega)]; exact s1 i hi
  · rw [wui (by omega)]; exact s2 p hp
theorem op_week (hI : Inv k h) (hk : k ≤ 1000) : ∃ r h1 h2, fX10_week h = some (r, h1) ∧ fX11_week h1 = some (r, h2) ∧ Inv (k + 1) h2 := by
  obtain ⟨L, S, u, M, Y, N, T, W, C, R⟩ := hI
  have w3 := W.2.2.1
  obtain ⟨g1, e3, c1, f1⟩ := c_keep C.2.2.1 C.2.1 W.2.2.2.1.1 W.2.2.2.1.2.1
  have s1 := SH_fr C.2.1 f1 (fun c _ _ => by unfold skU; omega)
  have f2 : fr (sk 29) g1 (wuI g1 29 1 (nI (S.1 + 1))) := fr_wuI (by unfold sk; omega)
  have f12 : fr (fun c => skU c ∨ sk 29 c) h (wuI g1 29 1 (nI (S.1 + 1))) := fr_tr (fr_mono f1 (fun c q => Or.inl q)) (fr_mono f2 (fun c q => Or.inr q))
  have R2 := MI_0 (MI_cls R (fr_mono f12 (fun c q => by unfold skU sk at q; unfold cls; omega))) (nI 0)
  obtain ⟨g3, e5, m1, m2, f3⟩ := r_keep R2.2.2.1 R2.2.1 W.2.2.2.1.1
  have s3 := MS_fr R2.2.1 f3 (by unfold skV; omega)
  have f4 : fr s225 g3 (wuI g3 225 0 (nI (S.1 + 1))) := fr_wuI rfl
  have f0 : fr skV (wuI g1 29 1 (nI (S.1 + 1))) (wuI (wuI g1 29 1 (nI (S.1 + 1))) 188 0 (nI 0)) := fr_wuI (Or.inl rfl)
  have t1 := s1.1
  have t3 := s3.1
  refine ⟨nI (S.1 + 1), wuI g1 29 1 (nI (S.1 + 1)), wuI g3 225 0 (nI (S.1 + 1)), ?_, ?_, Inv_deed (S2 := (S.1 + 1, S.2)) W C R f12 (UC_fr c1 f2 (fun c _ _ => by unfold sk; omega)) (SH_week s1 _) (fr_tr (fr_mono (fr_tr f0 f3) (fun c q => Or.inl q)) (fr_mono f4 (fun c q => Or.inr q))) (UM_fr m1 f4 (by rw [fr_at f4 (by unfold s225; omega)]) (by unfold s225; omega)) (MS_week s3 _) ?_ ?_ ?_ (by omega)⟩
  · simp (disch := omega) only [↓reduceIte, wlet, Option.bind_some, true_and, and_true, not_true_eq_false, not_false_eq_true, reduceCtorEq, n0_, n1_, n2_, n3_, n4_, n5_, n6_, n7_, n8_, n9_, n10_, n12_, n16_, n18_, n20_, n21_, n22_, n24_, n25_, n26_, n27_, n28_, n29_, n30_, n31_, n32_, n40_, n41_, n42_, n43_, n45_, n48_, n54_, n57_, n58_, n59_, n60_, n61_, n63_, n96_, n97_, n99_, n100_, n122_, n126_, n200_, n255_, n375_, n400_, n1000_, n2000_, n9999_, n5764801_, n1000000_, n3000_, m1, m2, le_t, le_f, lt_t, lt_f, eq_t, eq_f, no_lt, no_le, le_no, lt_no, eq_no, no_eq, add_no, wib_t, clamp, nI_add, pk_mul, pk_sub, nor_, nand_, ndif_, shl_, sh1_, shr_, tbn, tb0, tb1, les_t, les_f, pk_div, rem_, remv, and31, wu1, wuc, wui, wu2, ws1, wsc, ws2, wv1, n11_, n13_, n14_, n15_, n17_, n19_, n23_, n56_, n64_, fX10_week, e3, t1]
  · simp (disch := omega) only [↓reduceIte, wlet, Option.bind_some, true_and, and_true, not_true_eq_false, not_false_eq_true, reduceCtorEq, n0_, n1_, n2_, n3_, n4_, n5_, n6_, n7_, n8_, n9_, n10_, n12_, n16_, n18_, n20_, n21_, n22_, n24_, n25_, n26_, n27_, n28_, n29_, n30_, n31_, n32_, n40_, n41_, n42_, n43_, n45_, n48_, n54_, n57_, n58_, n59_, n60_, n61_, n63_, n96_, n97_, n99_, n100_, n122_, n126_, n200_, n255_, n375_, n400_, n1000_, n2000_, n9999_, n5764801_, n1000000_, n3000_, m1, m2, le_t, le_f, lt_t, lt_f, eq_t, eq_f, no_lt, no_le, le_no, lt_no, eq_no, no_eq, add_no, wib_t, clamp, nI_add, pk_mul, pk_sub, nor_, nand_, ndif_, shl_, sh1_, shr_, tbn, tb0, tb1, les_t, les_f, pk_div, rem_, remv, and31, wu1, wuc, wui, wu2, ws1, wsc, ws2, wv1, n11_, n13_, n14_, n15_, n17_, n19_, n23_, n56_, n64_, fX11_week, e5, t3]
  · rw [fr_at f4 (by unfold s225; omega), m2 1 (by omega), wui (by omega)]
  · obtain ⟨v1, v2⟩ := W.2.1
    exact ⟨by show S.1 + 1 < 1048576; omega, v2⟩
  · show S.1 + 1 ≤ k + 1
    omega
end G41

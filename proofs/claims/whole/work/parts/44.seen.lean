/-! WHAT WAS SEEN: see, who, ask -/
def gSt (L : gLib) (S : gSh) (N : gSn) (t i : Nat) : Bool := gShow L t (N.2 i).2.1 (N.2 i).2.2.1 (S.2.1 (N.2 i).1) == (N.2 i).2.2.2
def gAg (L : gLib) (S : gSh) (N : gSn) (t : Nat) : Bool := gF (fun i a => a && gSt L S N t i) N.1 true
def gWho (L : gLib) (S : gSh) (N : gSn) : Nat := gF (fun t a => if gAg L S N t then a ||| 2 ^ t else a) (gnt L) 0
def gMany (L : gLib) (S : gSh) (x d w i : Nat) : Nat := gCount (fun t => x.testBit t && gShow L t d w (S.2.1 i)) (gnt L) 0
def gAskSt (L : gLib) (S : gSh) (x i m : Nat) (a : Int32 × Int32) : Int32 × Int32 :=
  if a.1 ≤ wmx (nI (gMany L S x (m / 10 + 1) (m % 10) i)) (nI (gBits x) - nI (gMany L S x (m / 10 + 1) (m % 10) i)) then a else (wmx (nI (gMany L S x (m / 10 + 1) (m % 10) i)) (nI (gBits x) - nI (gMany L S x (m / 10 + 1) (m % 10) i)), nI (m + 10))
theorem gAnd_iff {p : Nat → Bool} : ∀ n, gF (fun i a => a && p i) n true = true ↔ ∀ i, i < n → p i = true
  | 0 => ⟨fun _ i hi => absurd hi (Nat.not_lt_zero _), fun _ => rfl⟩
  | n + 1 => by
    rw [gF, Bool.and_eq_true, gAnd_iff n]
    constructor
    · rintro ⟨h1, h2⟩ i hi
      by_cases e : i = n
      · rw [e]; exact h2
      · exact h1 i (by omega)
    · intro q
      exact ⟨fun i hi => q i (by omega), q n (by omega)⟩
theorem gAnd_fn {p : Nat → Bool} (n : Nat) : gF (fun i a => a && p i) n true = (gFn (fun i => !p i) n 0).isNone := by
  cases hq : gFn (fun i => !p i) n 0 with
  | none =>
    rw [Option.isNone_none, gAnd_iff]
    intro i hi
    have := gFn_none hq i (by omega) (by omega)
    simpa using this
  | some j =>
    obtain ⟨-, h2, h3⟩ := gFn_some hq
    rw [Option.isNone_some]
    cases hr : gF (fun i a => a && p i) n true with
    | false => rfl
    | true =>
      have := (gAnd_iff n).mp hr j (by omega)
      rw [this] at h3
      cases h3
theorem gF_add {α : Type} {f : Nat → α → α} (a : Nat) (x : α) : ∀ b, gF f (a + b) x = gF (fun i => f (a + i)) b (gF f a x)
  | 0 => rfl
  | b + 1 => by rw [← Nat.add_assoc, gF, gF, gF_add a x b]
theorem gF_nest {α : Type} {f : Nat → α → α} (x : α) : ∀ n, gF (fun d a => gF (fun w => f (10 * d + w)) 10 a) n x = gF f (10 * n) x
  | 0 => rfl
  | n + 1 => by rw [gF, gF_nest x n, show 10 * (n + 1) = 10 * n + 10 by omega, gF_add]
theorem bq00 : (false == false) = true := rfl
theorem bq01 : (false == true) = false := rfl
theorem bq10 : (true == false) = false := rfl
theorem bq11 : (true == true) = true := rfl
theorem wb_nat (b : Bool) : wb b = nI b.toNat := by cases b <;> rfl
theorem nb_eq (a b : Bool) : (nI a.toNat = nI b.toNat) = (a = b) := by cases a <;> cases b <;> simp <;> decide
theorem nb_1 (a : Bool) : (nI a.toNat = nI 1) = (a = true) := tb1 a
theorem nb_0 (a : Bool) : (nI a.toNat = nI 0) = (a = false) := tb0 a
section G44
variable {h : wSt} {k : Nat} {L : gLib} {S : gSh} {u : gUn} {M : gMk} {Y : gYr} {N : gSn} {T : gTp}
theorem gWho_bit (b : Nat) : (gWho L S N).testBit b = (decide (b < gnt L) && gAg L S N b) := setbit (p := fun t => gAg L S N t) _ _
theorem gWho_lt (hW : WL L) : gWho L S N < 64 := by
  have n2 := hW.2.1
  have := lt_pow_bits (x := gWho L S N) (m := 6) (fun b hb => by rw [gWho_bit, decide_eq_false (by omega)]; rfl)
  omega
theorem op_see (hI : Inv k h) (x0 x1 x2 : Int32) (b : Bool) : ∃ r h1 h2, fX10_see h x0 x1 x2 (nI b.toNat) = some (r, h1) ∧ fX11_see h1 x0 x1 x2 (nI b.toNat) = some (r, h2) ∧ Inv k h2 := by
  obtain ⟨L, S, u, M, Y, N, T, W, C, R⟩ := hI
  have n1 := W.1.1
  have a1 := c_hasSkin W.1 C.1 x0
  have R0 := MI_0 R (nI 0)
  have a2 := r_isSkin W.1 R0.1 x0
  have a3 := r_within (wuI h 188 0 (nI 0)) x1 (a := 1) (b := 9) (by omega) (by omega)
  have a4 := r_within (wuI h 188 0 (nI 0)) x2 (a := 0) (b := 9) (by omega) (by omega)
  obtain ⟨c1, c2, c3, c4, c5, ⟨c6, c60⟩, c7⟩ := id C
  obtain ⟨w1, w2, w3, w4, w5, w6, ⟨w7, w70⟩, w8⟩ := id W
  cases e : gIx (gns L) x0 with
  | none =>
    rw [e] at a1 a2
    refine ⟨false, h, _, ?_, ?_, Inv_q0 W C R fr_rf⟩
    · simp (disch := omega) only [↓reduceIte, wlet, Option.bind_some, true_and, and_true, not_true_eq_false, not_false_eq_true, reduceCtorEq, n0_, n1_, n2_, n3_, n4_, n5_, n6_, n7_, n8_, n9_, n10_, n12_, n16_, n18_, n20_, n21_, n22_, n24_, n25_, n26_, n27_, n28_, n29_, n30_, n31_, n32_, n40_, n41_, n42_, n43_, n45_, n48_, n54_, n57_, n58_, n59_, n60_, n61_, n63_, n96_, n97_, n99_, n100_, n122_, n126_, n200_, n255_, n375_, n400_, n1000_, n2000_, n9999_, n5764801_, n1000000_, n3000_, m1, m2, le_t, le_f, lt_t, lt_f, eq_t, eq_f, no_lt, no_le, le_no, lt_no, eq_no, no_eq, add_no, wib_t, clamp, nI_add, pk_mul, pk_sub, nor_, nand_, ndif_, shl_, sh1_, shr_, tbn, tb0, tb1, les_t, les_f, pk_div, rem_, remv, and31, wu1, wuc, wui, wu2, ws1, wsc, ws2, wv1, n11_, n13_, n14_, n15_, n17_, n19_, n23_, n56_, n64_, fX10_see, a1, Option.isSome_none, Option.isSome_some, Bool.false_eq_true]
    · simp (disch := omega) only [↓reduceIte, wlet, Option.bind_some, true_and, and_true, not_true_eq_false, not_false_eq_true, reduceCtorEq, n0_, n1_, n2_, n3_, n4_, n5_, n6_, n7_, n8_, n9_, n10_, n12_, n16_, n18_, n20_, n21_, n22_, n24_, n25_, n26_, n27_, n28_, n29_, n30_, n31_, n32_, n40_, n41_, n42_, n43_, n45_, n48_, n54_, n57_, n58_, n59_, n60_, n61_, n63_, n96_, n97_, n99_, n100_, n122_, n126_, n200_, n255_, n375_, n400_, n1000_, n2000_, n9999_, n5764801_, n1000000_, n3000_, m1, m2, le_t, le_f, lt_t, lt_f, eq_t, eq_f, no_lt, no_le, le_no, lt_no, eq_no, no_eq, add_no, wib_t, clamp, nI_add, pk_mul, pk_sub, nor_, nand_, ndif_, shl_, sh1_, shr_, tbn, tb0, tb1, les_t, les_f, pk_div, rem_, remv, and31, wu1, wuc, wui, wu2, ws1, wsc, ws2, wv1, n11_, n13_, n14_, n15_, n17_, n19_, n23_, n56_, n64_, fX11_see, a2, Option.isSome_none, Option.isSome_some, Bool.false_eq_true]
  | some i =>
    obtain ⟨rfl, hi⟩ := gIx_some e
    rw [e] at a1 a2
    cases e1 : gRg 1 9 x1 with
    | none =>
      rw [e1] at a3
      refine ⟨false, h, _, ?_, ?_, Inv_q0 W C R fr_rf⟩
      · rcases gRg_none e1 (by omega) (by omega) with q | ⟨q1, q2, q3⟩
        · simp (disch := omega) only [↓reduceIte, wlet, Option.bind_some, true_and, and_true, not_true_eq_false, not_false_eq_true, reduceCtorEq, n0_, n1_, n2_, n3_, n4_, n5_, n6_, n7_, n8_, n9_, n10_, n12_, n16_, n18_, n20_, n21_, n22_, n24_, n25_, n26_, n27_, n28_, n29_, n30_, n31_, n32_, n40_, n41_, n42_, n43_, n45_, n48_, n54_, n57_, n58_, n59_, n60_, n61_, n63_, n96_, n97_, n99_, n100_, n122_, n126_, n200_, n255_, n375_, n400_, n1000_, n2000_, n9999_, n5764801_, n1000000_, n3000_, m1, m2, le_t, le_f, lt_t, lt_f, eq_t, eq_f, no_lt, no_le, le_no, lt_no, eq_no, no_eq, add_no, wib_t, clamp, nI_add, pk_mul, pk_sub, nor_, nand_, ndif_, shl_, sh1_, shr_, tbn, tb0, tb1, les_t, les_f, pk_div, rem_, remv, and31, wu1, wuc, wui, wu2, ws1, wsc, ws2, wv1, n11_, n13_, n14_, n15_, n17_, n19_, n23_, n56_, n64_, fX10_see, a1, q, Option.isSome_none, Option.isSome_some, Bool.false_eq_true]
        · simp (disch := omega) only [↓reduceIte, wlet, Option.bind_some, true_and, and_true, not_true_eq_false, not_false_eq_true, reduceCtorEq, n0_, n1_, n2_, n3_, n4_, n5_, n6_, n7_, n8_, n9_, n10_, n12_, n16_, n18_, n20_, n21_, n22_, n24_, n25_, n26_, n27_, n28_, n29_, n30_, n31_, n32_, n40_, n41_, n42_, n43_, n45_, n48_, n54_, n57_, n58_, n59_, n60_, n61_, n63_, n96_, n97_, n99_, n100_, n122_, n126_, n200_, n255_, n375_, n400_, n1000_, n2000_, n9999_, n5764801_, n1000000_, n3000_, m1, m2, le_t, le_f, lt_t, lt_f, eq_t, eq_f, no_lt, no_le, le_no, lt_no, eq_no, no_eq, add_no, wib_t, clamp, nI_add, pk_mul, pk_sub, nor_, nand_, ndif_, shl_, sh1_, shr_, tbn, tb0, tb1, les_t, les_f, pk_div, rem_, remv, and31, wu1, wuc, wui, wu2, ws1, wsc, ws2, wv1, n11_, n13_, n14_, n15_, n17_, n19_, n23_, n56_, n64_, fX10_see, a1, q1, q2, Option.isSome_none, Option.isSome_some, Bool.false_eq_true]
      · simp (disch := omega) only [↓reduceIte, wlet, Option.bind_some, true_and, and_true, not_true_eq_false, not_false_eq_true, reduceCtorEq, n0_, n1_, n2_, n3_, n4_, n5_, n6_, n7_, n8_, n9_, n10_, n12_, n16_, n18_, n20_, n21_, n22_, n24_, n25_, n26_, n27_, n28_, n29_, n30_, n31_, n32_, n40_, n41_, n42_, n43_, n45_, n48_, n54_, n57_, n58_, n59_, n60_, n61_, n63_, n96_, n97_, n99_, n100_, n122_, n126_, n200_, n255_, n375_, n400_, n1000_, n2000_, n9999_, n5764801_, n1000000_, n3000_, m1, m2, le_t, le_f, lt_t, lt_f, eq_t, eq_f, no_lt, no_le, le_no, lt_no, eq_no, no_eq, add_no, wib_t, clamp, nI_add, pk_mul, pk_sub, nor_, nand_, ndif_, shl_, sh1_, shr_, tbn, tb0, tb1, les_t, les_f, pk_div, rem_, remv, and31, wu1, wuc, wui, wu2, ws1, wsc, ws2, wv1, n11_, n13_, n14_, n15_, n17_, n19_, n23_, n56_, n64_, fX11_see, a2, a3, Option.isSome_none, Option.isSome_some, Bool.false_eq_true]
    | some d =>
      obtain ⟨rfl, hd1, hd2⟩ := gRg_some e1
      rw [e1] at a3
      cases e2 : gRg 0 9 x2 with
      | none =>
        rw [e2] at a4
        refine ⟨false, h, _, ?_, ?_, Inv_q0 W C R fr_rf⟩
        · rcases gRg_none e2 (by omega) (by omega) with q | ⟨q1, q2, q3⟩
          · simp (disch := omega) only [↓reduceIte, wlet, Option.bind_some, true_and, and_true, not_true_eq_false, not_false_eq_true, reduceCtorEq, n0_, n1_, n2_, n3_, n4_, n5_, n6_, n7_, n8_, n9_, n10_, n12_, n16_, n18_, n20_, n21_, n22_, n24_, n25_, n26_, n27_, n28_, n29_, n30_, n31_, n32_, n40_, n41_, n42_, n43_, n45_, n48_, n54_, n57_, n58_, n59_, n60_, n61_, n63_, n96_, n97_, n99_, n100_, n122_, n126_, n200_, n255_, n375_, n400_, n1000_, n2000_, n9999_, n5764801_, n1000000_, n3000_, m1, m2, le_t, le_f, lt_t, lt_f, eq_t, eq_f, no_lt, no_le, le_no, lt_no, eq_no, no_eq, add_no, wib_t, clamp, nI_add, pk_mul, pk_sub, nor_, nand_, ndif_, shl_, sh1_, shr_, tbn, tb0, tb1, les_t, les_f, pk_div, rem_, remv, and31, wu1, wuc, wui, wu2, ws1, wsc, ws2, wv1, n11_, n13_, n14_, n15_, n17_, n19_, n23_, n56_, n64_, fX10_see, a1, q, Option.isSome_none, Option.isSome_some, Bool.false_eq_true]
          · simp (disch := omega) only [↓reduceIte, wlet, Option.bind_some, true_and, and_true, not_true_eq_false, not_false_eq_true, reduceCtorEq, n0_, n1_, n2_, n3_, n4_, n5_, n6_, n7_, n8_, n9_, n10_, n12_, n16_, n18_, n20_, n21_, n22_, n24_, n25_, n26_, n27_, n28_, n29_, n30_, n31_, n32_, n40_, n41_, n42_, n43_, n45_, n48_, n54_, n57_, n58_, n59_, n60_, n61_, n63_, n96_, n97_, n99_, n100_, n122_, n126_, n200_, n255_, n375_, n400_, n1000_, n2000_, n9999_, n5764801_, n1000000_, n3000_, m1, m2, le_t, le_f, lt_t, lt_f, eq_t, eq_f, no_lt, no_le, le_no, lt_no, eq_no, no_eq, add_no, wib_t, clamp, nI_add, pk_mul, pk_sub, nor_, nand_, ndif_, shl_, sh1_, shr_, tbn, tb0, tb1, les_t, les_f, pk_div, rem_, remv, and31, wu1, wuc, wui, wu2, ws1, wsc, ws2, wv1, n11_, n13_, n14_, n15_, n17_, n19_, n23_, n56_, n64_, fX10_see, a1, q1, q3, Option.isSome_none, Option.isSome_some, Bool.false_eq_true]
        · simp (disch := omega) only [↓reduceIte, wlet, Option.bind_some, true_and, and_true, not_true_eq_false, not_false_eq_true, reduceCtorEq, n0_, n1_, n2_, n3_, n4_, n5_, n6_, n7_, n8_, n9_, n10_, n12_, n16_, n18_, n20_, n21_, n22_, n24_, n25_, n26_, n27_, n28_, n29_, n30_, n31_, n32_, n40_, n41_, n42_, n43_, n45_, n48_, n54_, n57_, n58_, n59_, n60_, n61_, n63_, n96_, n97_, n99_, n100_, n122_, n126_, n200_, n255_, n375_, n400_, n1000_, n2000_, n9999_, n5764801_, n1000000_, n3000_, m1, m2, le_t, le_f, lt_t, lt_f, eq_t, eq_f, no_lt, no_le, le_no, lt_no, eq_no, no_eq, add_no, wib_t, clamp, nI_add, pk_mul, pk_sub, nor_, nand_, ndif_, shl_, sh1_, shr_, tbn, tb0, tb1, les_t, les_f, pk_div, rem_, remv, and31, wu1, wuc, wui, wu2, ws1, wsc, ws2, wv1, n11_, n13_, n14_, n15_, n17_, n19_, n23_, n56_, n64_, fX11_see, a2, a3, a4, Option.isSome_none, Option.isSome_some, Bool.false_eq_true]
      | some w =>
        obtain ⟨rfl, -, hw⟩ := gRg_some e2
        rw [e2] at a4
        obtain ⟨d1, d2, d3, d4, d5, ⟨d6, d60⟩, d7⟩ := id R
        by_cases hn : N.1 = 8
        · refine ⟨false, h, _, ?_, ?_, Inv_q0 W C R fr_rf⟩
          · simp (disch := omega) only [↓reduceIte, wlet, Option.bind_some, true_and, and_true, not_true_eq_false, not_false_eq_true, reduceCtorEq, n0_, n1_, n2_, n3_, n4_, n5_, n6_, n7_, n8_, n9_, n10_, n12_, n16_, n18_, n20_, n21_, n22_, n24_, n25_, n26_, n27_, n28_, n29_, n30_, n31_, n32_, n40_, n41_, n42_, n43_, n45_, n48_, n54_, n57_, n58_, n59_, n60_, n61_, n63_, n96_, n97_, n99_, n100_, n122_, n126_, n200_, n255_, n375_, n400_, n1000_, n2000_, n9999_, n5764801_, n1000000_, n3000_, m1, m2, le_t, le_f, lt_t, lt_f, eq_t, eq_f, no_lt, no_le, le_no, lt_no, eq_no, no_eq, add_no, wib_t, clamp, nI_add, pk_mul, pk_sub, nor_, nand_, ndif_, shl_, sh1_, shr_, tbn, tb0, tb1, les_t, les_f, pk_div, rem_, remv, and31, wu1, wuc, wui, wu2, ws1, wsc, ws2, wv1, n11_, n13_, n14_, n15_, n17_, n19_, n23_, n56_, n64_, fX10_see, fX5_add, a1, c6, Option.isSome_none, Option.isSome_some, Bool.false_eq_true]
          · simp (disch := omega) only [↓reduceIte, wlet, Option.bind_some, true_and, and_true, not_true_eq_false, not_false_eq_true, reduceCtorEq, n0_, n1_, n2_, n3_, n4_, n5_, n6_, n7_, n8_, n9_, n10_, n12_, n16_, n18_, n20_, n21_, n22_, n24_, n25_, n26_, n27_, n28_, n29_, n30_, n31_, n32_, n40_, n41_, n42_, n43_, n45_, n48_, n54_, n57_, n58_, n59_, n60_, n61_, n63_, n96_, n97_, n99_, n100_, n122_, n126_, n200_, n255_, n375_, n400_, n1000_, n2000_, n9999_, n5764801_, n1000000_, n3000_, m1, m2, le_t, le_f, lt_t, lt_f, eq_t, eq_f, no_lt, no_le, le_no, lt_no, eq_no, no_eq, add_no, wib_t, clamp, nI_add, pk_mul, pk_sub, nor_, nand_, ndif_, shl_, sh1_, shr_, tbn, tb0, tb1, les_t, les_f, pk_div, rem_, remv, and31, wu1, wuc, wui, wu2, ws1, wsc, ws2, wv1, n11_, n13_, n14_, n15_, n17_, n19_, n23_, n56_, n64_, fX11_see, a2, a3, a4, d6, hn, Option.isSome_none, Option.isSome_some, Bool.false_eq_true]
        · have f1 : fr (fun c => 43 ≤ c ∧ c ≤ 47) h (wuI (wuI (wuI (wuI (wuI h 44 N.1 (nI i)) 45 N.1 (nI d)) 46 N.1 (nI w)) 47 N.1 (nI b.toNat)) 43 0 (nI (N.1 + 1))) := fr_tr (fr_tr (fr_tr (fr_tr (fr_wuI (by omega)) (fr_wuI (by omega))) (fr_wuI (by omega))) (fr_wuI (by omega))) (fr_wuI (by omega))
          have R1 := MI_0 (MI_cls R (fr_mono f1 (fun c q => by unfold cls; omega))) (nI 0)
          have a2 := r_isSkin W.1 R1.1 (nI i)
          rw [e] at a2
          have a3 := r_within (wuI (wuI (wuI (wuI (wuI (wuI h 44 N.1 (nI i)) 45 N.1 (nI d)) 46 N.1 (nI w)) 47 N.1 (nI b.toNat)) 43 0 (nI (N.1 + 1))) 188 0 (nI 0)) (nI d) (a := 1) (b := 9) (by omega) (by omega)
          have a4 := r_within (wuI (wuI (wuI (wuI (wuI (wuI h 44 N.1 (nI i)) 45 N.1 (nI d)) 46 N.1 (nI w)) 47 N.1 (nI b.toNat)) 43 0 (nI (N.1 + 1))) 188 0 (nI 0)) (nI w) (a := 0) (b := 9) (by omega) (by omega)
          rw [e1] at a3
          rw [e2] at a4
          have hN : NC (wuI (wuI (wuI (wuI (wuI h 44 N.1 (nI i)) 45 N.1 (nI d)) 46 N.1 (nI w)) 47 N.1 (nI b.toNat)) 43 0 (nI (N.1 + 1))) 43 (N.1 + 1, fun j => if j = N.1 then (i, d, w, b) else N.2 j) := by
            refine ⟨wu1, fun j hj => ?_⟩
            have hj : j < N.1 + 1 := hj
            simp only [Nat.reduceAdd]
            rw [wuc (show 44 ≠ 43 by omega), wuc (show 44 ≠ 47 by omega), wuc (show 44 ≠ 46 by omega), wuc (show 44 ≠ 45 by omega), wuS, wuc (show 45 ≠ 43 by omega), wuc (show 45 ≠ 47 by omega), wuc (show 45 ≠ 46 by omega), wuS, wuc (show 45 ≠ 44 by omega), wuc (show 46 ≠ 43 by omega), wuc (show 46 ≠ 47 by omega), wuS, wuc (show 46 ≠ 45 by omega), wuc (show 46 ≠ 44 by omega), wuc (show 47 ≠ 43 by omega), wuS, wuc (show 47 ≠ 46 by omega), wuc (show 47 ≠ 45 by omega), wuc (show 47 ≠ 44 by omega)]
            by_cases ej : j = N.1
            · simp only [if_pos ej, and_self]
            · simp only [if_neg ej]
              exact c60 j (by omega)
          have f2 : fr (fun c => 220 ≤ c ∧ c ≤ 224) (wuI (wuI (wuI (wuI (wuI (wuI h 44 N.1 (nI i)) 45 N.1 (nI d)) 46 N.1 (nI w)) 47 N.1 (nI b.toNat)) 43 0 (nI (N.1 + 1))) 188 0 (nI 0)) (wuI (wuI (wuI (wuI (wuI (wuI (wuI (wuI (wuI (wuI (wuI h 44 N.1 (nI i)) 45 N.1 (nI d)) 46 N.1 (nI w)) 47 N.1 (nI b.toNat)) 43 0 (nI (N.1 + 1))) 188 0 (nI 0)) 221 N.1 (nI i)) 222 N.1 (nI d)) 223 N.1 (nI w)) 224 N.1 (nI b.toNat)) 220 0 (nI (N.1 + 1))) := fr_tr (fr_tr (fr_tr (fr_tr (fr_wuI (by omega)) (fr_wuI (by omega))) (fr_wuI (by omega))) (fr_wuI (by omega))) (fr_wuI (by omega))
          revert a2 a3 a4 hN f1 R1 f2
          generalize hg : (wuI (wuI (wuI (wuI (wuI h 44 N.1 (nI i)) 45 N.1 (nI d)) 46 N.1 (nI w)) 47 N.1 (nI b.toNat)) 43 0 (nI (N.1 + 1))) = g
          intro f1 R1 a2 a3 a4 hN f2
          obtain ⟨d1, d2, d3, d4, d5, ⟨d6, d60⟩, d7⟩ := id R1
          have hM : NM (wuI (wuI (wuI (wuI (wuI (wuI g 188 0 (nI 0)) 221 N.1 (nI i)) 222 N.1 (nI d)) 223 N.1 (nI w)) 224 N.1 (nI b.toNat)) 220 0 (nI (N.1 + 1))) 0 (N.1 + 1, fun j => if j = N.1 then (i, d, w, b) else N.2 j) := by
            refine ⟨wu1, fun j hj => ?_⟩
            have hj : j < N.1 + 1 := hj
            simp only [Nat.mul_zero, Nat.zero_add]
            rw [wuc (show 221 ≠ 220 by omega), wuc (show 221 ≠ 224 by omega), wuc (show 221 ≠ 223 by omega), wuc (show 221 ≠ 222 by omega), wuS, wuc (show 222 ≠ 220 by omega), wuc (show 222 ≠ 224 by omega), wuc (show 222 ≠ 223 by omega), wuS, wuc (show 222 ≠ 221 by omega), wuc (show 223 ≠ 220 by omega), wuc (show 223 ≠ 224 by omega), wuS, wuc (show 223 ≠ 222 by omega), wuc (show 223 ≠ 221 by omega), wuc (show 224 ≠ 220 by omega), wuS, wuc (show 224 ≠ 223 by omega), wuc (show 224 ≠ 222 by omega), wuc (show 224 ≠ 221 by omega)]
            by_cases ej : j = N.1
            · simp only [if_pos ej, and_self]
            · simp only [if_neg ej]
              have := d60 j (by omega)
              simp only [Nat.mul_zero, Nat.zero_add] at this
              exact this
          have e188 : (wuI (wuI (wuI (wuI (wuI (wuI g 188 0 (nI 0)) 221 N.1 (nI i)) 222 N.1 (nI d)) 223 N.1 (nI w)) 224 N.1 (nI b.toNat)) 220 0 (nI (N.1 + 1))).1 188 = (wuI g 188 0 (nI 0)).1 188 := fr_at f2 (by omega)
          have d6' : g.1 220 0 = nI N.1 := by rw [wuc (by omega)] at d6; exact d6
          have nb := nar_b b
          refine ⟨true, g, _, ?_, ?_, L, S, u, M, Y, (N.1 + 1, fun j => if j = N.1 then (i, d, w, b) else N.2 j), T, ?_, CI_ref (h := g) ?_ (fr_tr (fr_wuI (by unfold ref; omega)) (fr_mono f2 (fun c q => by unfold ref; omega))), ML_fr d1 f2 (fun c _ _ => by omega), MS_fr d2 f2 (by omega), UM_fr d3 f2 (by rw [e188]) (by omega), fun j hj => ?_, YM_fr d5 f2 (fun c _ _ => by omega), hM, TM_fr d7 f2 (by rw [e188]) (by omega)⟩
          · rw [← hg]
            cases b
            · simp (disch := omega) only [↓reduceIte, wlet, Option.bind_some, true_and, and_true, not_true_eq_false, not_false_eq_true, reduceCtorEq, n0_, n1_, n2_, n3_, n4_, n5_, n6_, n7_, n8_, n9_, n10_, n12_, n16_, n18_, n20_, n21_, n22_, n24_, n25_, n26_, n27_, n28_, n29_, n30_, n31_, n32_, n40_, n41_, n42_, n43_, n45_, n48_, n54_, n57_, n58_, n59_, n60_, n61_, n63_, n96_, n97_, n99_, n100_, n122_, n126_, n200_, n255_, n375_, n400_, n1000_, n2000_, n9999_, n5764801_, n1000000_, n3000_, m1, m2, le_t, le_f, lt_t, lt_f, eq_t, eq_f, no_lt, no_le, le_no, lt_no, eq_no, no_eq, add_no, wib_t, clamp, nI_add, pk_mul, pk_sub, nor_, nand_, ndif_, shl_, sh1_, shr_, tbn, tb0, tb1, les_t, les_f, pk_div, rem_, remv, and31, wu1, wuc, wui, wu2, ws1, wsc, ws2, wv1, n11_, n13_, n14_, n15_, n17_, n19_, n23_, n56_, n64_, fX10_see, fX5_add, fX5_add_b59, a1, c6, Bool.toNat_false, Option.isSome_none, Option.isSome_some, Bool.false_eq_true]
            · simp (disch := omega) only [↓reduceIte, wlet, Option.bind_some, true_and, and_true, not_true_eq_false, not_false_eq_true, reduceCtorEq, n0_, n1_, n2_, n3_, n4_, n5_, n6_, n7_, n8_, n9_, n10_, n12_, n16_, n18_, n20_, n21_, n22_, n24_, n25_, n26_, n27_, n28_, n29_, n30_, n31_, n32_, n40_, n41_, n42_, n43_, n45_, n48_, n54_, n57_, n58_, n59_, n60_, n61_, n63_, n96_, n97_, n99_, n100_, n122_, n126_, n200_, n255_, n375_, n400_, n1000_, n2000_, n9999_, n5764801_, n1000000_, n3000_, m1, m2, le_t, le_f, lt_t, lt_f, eq_t, eq_f, no_lt, no_le, le_no, lt_no, eq_no, no_eq, add_no, wib_t, clamp, nI_add, pk_mul, pk_sub, nor_, nand_, ndif_, shl_, sh1_, shr_, tbn, tb0, tb1, les_t, les_f, pk_div, rem_, remv, and31, wu1, wuc, wui, wu2, ws1, wsc, ws2, wv1, n11_, n13_, n14_, n15_, n17_, n19_, n23_, n56_, n64_, fX10_see, fX5_add, fX5_add_b59, a1, c6, Bool.toNat_true, Option.isSome_none, Option.isSome_some, Bool.false_eq_true]
          · simp (disch := omega) only [↓reduceIte, wlet, Option.bind_some, true_and, and_true, not_true_eq_false, not_false_eq_true, reduceCtorEq, n0_, n1_, n2_, n3_, n4_, n5_, n6_, n7_, n8_, n9_, n10_, n12_, n16_, n18_, n20_, n21_, n22_, n24_, n25_, n26_, n27_, n28_, n29_, n30_, n31_, n32_, n40_, n41_, n42_, n43_, n45_, n48_, n54_, n57_, n58_, n59_, n60_, n61_, n63_, n96_, n97_, n99_, n100_, n122_, n126_, n200_, n255_, n375_, n400_, n1000_, n2000_, n9999_, n5764801_, n1000000_, n3000_, m1, m2, le_t, le_f, lt_t, lt_f, eq_t, eq_f, no_lt, no_le, le_no, lt_no, eq_no, no_eq, add_no, wib_t, clamp, nI_add, pk_mul, pk_sub, nor_, nand_, ndif_, shl_, sh1_, shr_, tbn, tb0, tb1, les_t, les_f, pk_div, rem_, remv, and31, wu1, wuc, wui, wu2, ws1, wsc, ws2, wv1, n11_, n13_, n14_, n15_, n17_, n19_, n23_, n56_, n64_, fX11_see, a2, a3, a4, d6', nb, Option.isSome_none, Option.isSome_some, Bool.false_eq_true]
          · refine ⟨w1, w2, w3, w4, w5, w6, ⟨by show N.1 + 1 ≤ 8; omega, fun j hj => ?_⟩, w8⟩
            have hj : j < N.1 + 1 := hj
            show (if j = N.1 then (i, d, w, b) else N.2 j).1 < gns L ∧ 1 ≤ (if j = N.1 then (i, d, w, b) else N.2 j).2.1 ∧ (if j = N.1 then (i, d, w, b) else N.2 j).2.1 ≤ 9 ∧ (if j = N.1 then (i, d, w, b) else N.2 j).2.2.1 ≤ 9
            by_cases ej : j = N.1
            · simp only [if_pos ej]
              exact ⟨hi, hd1, hd2, hw⟩
            · simp only [if_neg ej]
              exact w70 j (by omega)
          · exact ⟨CL_fr c1 f1 (fun c _ _ => by omega), SH_fr c2 f1 (fun c _ _ => by omega), UC_fr c3 f1 (fun c _ _ => by omega), BC_fr c4 f1 (fun c _ _ => by omega), YC_fr c5 f1 (by omega) (by omega), hN, TC_fr c7 f1 (by omega) (by omega)⟩
          · obtain ⟨b1, b2⟩ := d4 j hj
            refine ⟨by rw [fr_at f2 (by omega)]; exact b1, fun s y n q => ?_⟩
            obtain ⟨x1, x2, x3⟩ := b2 s y n q
            refine ⟨MS_fr x1 f2 (by omega), YM_fr x2 f2 (fun c _ _ => by omega), ?_, fun m hm => ?_⟩
            · rw [wui (show 1 + j ≠ 0 by omega), wuc (by omega), wuc (by omega), wuc (by omega), wuc (by omega)]; exact x3.1
            · rw [wuc (show 221 ≠ 220 by omega), wuc (show 221 ≠ 224 by omega), wuc (show 221 ≠ 223 by omega), wuc (show 221 ≠ 222 by omega), wui (show 8 * (1 + j) + m ≠ N.1 by omega), wuc (show 222 ≠ 220 by omega), wuc (show 222 ≠ 224 by omega), wuc (show 222 ≠ 223 by omega), wui (show 8 * (1 + j) + m ≠ N.1 by omega), wuc (show 222 ≠ 221 by omega), wuc (show 223 ≠ 220 by omega), wuc (show 223 ≠ 224 by omega), wui (show 8 * (1 + j) + m ≠ N.1 by omega), wuc (show 223 ≠ 222 by omega), wuc (show 223 ≠ 221 by omega), wuc (show 224 ≠ 220 by omega), wui (show 8 * (1 + j) + m ≠ N.1 by omega), wuc (show 224 ≠ 223 by omega), wuc (show 224 ≠ 222 by omega), wuc (show 224 ≠ 221 by omega)]
              exact x3.2 m hm
theorem c_ag (hx : CX h L 29 S) (hN : NC h 43 N) (hE : WE L N) {t : Nat} (ht : t < gnt L) : ∃ g, fX5_agrees h 43 (nI t) 3 29 = some (gAg L S N t, g) ∧ fr sq h g := by
  have n1 := hx.1.1
  have hE8 := hE.1
  obtain ⟨e, he, g, fg, eg⟩ := wit_find (b := fun v : (Int32 × wSt) => fX5_agrees_l3 v.2 43 3 29 (nI t) v.1) (fun i => !gSt L S N t i) N.1 (fun i v => ∃ g, v = (nI i, g) ∧ fr sq h g)
    (fun o e => ∃ g, fr sq h g ∧ e = (match o with | none => Sum.inl g | some _ => Sum.inr (false, g)))
    (by
      rintro i v hi ⟨g, rfl, fg⟩
      have hx2 := CX_fr hx fg
      obtain ⟨q0, q⟩ := NC_fr hN fg (fun c _ _ => by unfold sq; omega)
      obtain ⟨q1, q2, q3, -⟩ := q i hi
      obtain ⟨r1, r2, r3, r4⟩ := hE.2 i hi
      have s1 := (hx2.2.2.2.1.2.1 (N.2 i).1 (by omega)).1
      have v1 := (hx.2.2.1.2.1 (N.2 i).1 (by omega)).1
      obtain ⟨g2, e2, f2⟩ := c_shows hx2.1 hx2.2.1 ht (d := (N.2 i).2.1) (w := (N.2 i).2.2.1) (th := S.2.1 (N.2 i).1) r2 r3 r4 v1
      have q4 := ((NC_fr hN (fr_tr fg f2) (fun c _ _ => by unfold sq; omega)).2 i hi).2.2.2
      simp only [Nat.reduceAdd] at q1 q2 q3 q4 s1
      have hst : gSt L S N t i = (gShow L t (N.2 i).2.1 (N.2 i).2.2.1 (S.2.1 (N.2 i).1) == (N.2 i).2.2.2) := rfl
      revert e2 q4 hst
      generalize gShow L t (N.2 i).2.1 (N.2 i).2.2.1 (S.2.1 (N.2 i).1) = a
      generalize (N.2 i).2.2.2 = b
      intro e2 q4 hst
      refine ⟨fun hq => ?_, fun hq => ?_⟩
      · have hq : (!gSt L S N t i) = true := hq
        rw [hst] at hq
        refine ⟨.inr (false, g2), ?_, g2, fr_tr fg f2, rfl⟩
        cases a <;> cases b
        · cases hq
        · simp (disch := omega) only [↓reduceIte, wlet, Option.bind_some, true_and, and_true, not_true_eq_false, not_false_eq_true, reduceCtorEq, n0_, n1_, n2_, n3_, n4_, n5_, n6_, n7_, n8_, n9_, n10_, n12_, n16_, n18_, n20_, n21_, n22_, n24_, n25_, n26_, n27_, n28_, n29_, n30_, n31_, n32_, n40_, n41_, n42_, n43_, n45_, n48_, n54_, n57_, n58_, n59_, n60_, n61_, n63_, n96_, n97_, n99_, n100_, n122_, n126_, n200_, n255_, n375_, n400_, n1000_, n2000_, n9999_, n5764801_, n1000000_, n3000_, m1, m2, le_t, le_f, lt_t, lt_f, eq_t, eq_f, no_lt, no_le, le_no, lt_no, eq_no, no_eq, add_no, wib_t, clamp, nI_add, pk_mul, pk_sub, nor_, nand_, ndif_, shl_, sh1_, shr_, tbn, tb0, tb1, les_t, les_f, pk_div, rem_, remv, and31, wu1, wuc, wui, wu2, ws1, wsc, ws2, wv1, n11_, n13_, n14_, n15_, n17_, n19_, n23_, n56_, n64_, fX5_agrees_l3, fX5_agrees_b63_3, q0, q1, q2, q3, s1, e2, q4, wb_nat, Bool.toNat_false, Bool.toNat_true, Nat.reduceAdd]
        · simp (disch := omega) only [↓reduceIte, wlet, Option.bind_some, true_and, and_true, not_true_eq_false, not_false_eq_true, reduceCtorEq, n0_, n1_, n2_, n3_, n4_, n5_, n6_, n7_, n8_, n9_, n10_, n12_, n16_, n18_, n20_, n21_, n22_, n24_, n25_, n26_, n27_, n28_, n29_, n30_, n31_, n32_, n40_, n41_, n42_, n43_, n45_, n48_, n54_, n57_, n58_, n59_, n60_, n61_, n63_, n96_, n97_, n99_, n100_, n122_, n126_, n200_, n255_, n375_, n400_, n1000_, n2000_, n9999_, n5764801_, n1000000_, n3000_, m1, m2, le_t, le_f, lt_t, lt_f, eq_t, eq_f, no_lt, no_le, le_no, lt_no, eq_no, no_eq, add_no, wib_t, clamp, nI_add, pk_mul, pk_sub, nor_, nand_, ndif_, shl_, sh1_, shr_, tbn, tb0, tb1, les_t, les_f, pk_div, rem_, remv, and31, wu1, wuc, wui, wu2, ws1, wsc, ws2, wv1, n11_, n13_, n14_, n15_, n17_, n19_, n23_, n56_, n64_, fX5_agrees_l3, fX5_agrees_b63_3, q0, q1, q2, q3, s1, e2, q4, wb_nat, Bool.toNat_false, Bool.toNat_true, Nat.reduceAdd]
        · cases hq
      · have hq : (!gSt L S N t i) = false := hq
        rw [hst] at hq
        refine ⟨(nI (i + 1), g2), ?_, g2, rfl, fr_tr fg f2⟩
        cases a <;> cases b
        · simp (disch := omega) only [↓reduceIte, wlet, Option.bind_some, true_and, and_true, not_true_eq_false, not_false_eq_true, reduceCtorEq, n0_, n1_, n2_, n3_, n4_, n5_, n6_, n7_, n8_, n9_, n10_, n12_, n16_, n18_, n20_, n21_, n22_, n24_, n25_, n26_, n27_, n28_, n29_, n30_, n31_, n32_, n40_, n41_, n42_, n43_, n45_, n48_, n54_, n57_, n58_, n59_, n60_, n61_, n63_, n96_, n97_, n99_, n100_, n122_, n126_, n200_, n255_, n375_, n400_, n1000_, n2000_, n9999_, n5764801_, n1000000_, n3000_, m1, m2, le_t, le_f, lt_t, lt_f, eq_t, eq_f, no_lt, no_le, le_no, lt_no, eq_no, no_eq, add_no, wib_t, clamp, nI_add, pk_mul, pk_sub, nor_, nand_, ndif_, shl_, sh1_, shr_, tbn, tb0, tb1, les_t, les_f, pk_div, rem_, remv, and31, wu1, wuc, wui, wu2, ws1, wsc, ws2, wv1, n11_, n13_, n14_, n15_, n17_, n19_, n23_, n56_, n64_, fX5_agrees_l3, fX5_agrees_b63_3, q0, q1, q2, q3, s1, e2, q4, wb_nat, Bool.toNat_false, Bool.toNat_true, Nat.reduceAdd]
        · cases hq
        · cases hq
        · simp (disch := omega) only [↓reduceIte, wlet, Option.bind_some, true_and, and_true, not_true_eq_false, not_false_eq_true, reduceCtorEq, n0_, n1_, n2_, n3_, n4_, n5_, n6_, n7_, n8_, n9_, n10_, n12_, n16_, n18_, n20_, n21_, n22_, n24_, n25_, n26_, n27_, n28_, n29_, n30_, n31_, n32_, n40_, n41_, n42_, n43_, n45_, n48_, n54_, n57_, n58_, n59_, n60_, n61_, n63_, n96_, n97_, n99_, n100_, n122_, n126_, n200_, n255_, n375_, n400_, n1000_, n2000_, n9999_, n5764801_, n1000000_, n3000_, m1, m2, le_t, le_f, lt_t, lt_f, eq_t, eq_f, no_lt, no_le, le_no, lt_no, eq_no, no_eq, add_no, wib_t, clamp, nI_add, pk_mul, pk_sub, nor_, nand_, ndif_, shl_, sh1_, shr_, tbn, tb0, tb1, les_t, les_f, pk_div, rem_, remv, and31, wu1, wuc, wui, wu2, ws1, wsc, ws2, wv1, n11_, n13_, n14_, n15_, n17_, n19_, n23_, n56_, n64_, fX5_agrees_l3, fX5_agrees_b63_3, q0, q1, q2, q3, s1, e2, q4, wb_nat, Bool.toNat_false, Bool.toNat_true, Nat.reduceAdd])
    (by
      rintro v ⟨g, rfl, fg⟩
      have q0 := (NC_fr hN fg (fun c _ _ => by unfold sq; omega)).1
      refine ⟨.inl g, ?_, g, fg, rfl⟩
      simp (disch := omega) only [↓reduceIte, wlet, Option.bind_some, true_and, and_true, not_true_eq_false, not_false_eq_true, reduceCtorEq, n0_, n1_, n2_, n3_, n4_, n5_, n6_, n7_, n8_, n9_, n10_, n12_, n16_, n18_, n20_, n21_, n22_, n24_, n25_, n26_, n27_, n28_, n29_, n30_, n31_, n32_, n40_, n41_, n42_, n43_, n45_, n48_, n54_, n57_, n58_, n59_, n60_, n61_, n63_, n96_, n97_, n99_, n100_, n122_, n126_, n200_, n255_, n375_, n400_, n1000_, n2000_, n9999_, n5764801_, n1000000_, n3000_, m1, m2, le_t, le_f, lt_t, lt_f, eq_t, eq_f, no_lt, no_le, le_no, lt_no, eq_no, no_eq, add_no, wib_t, clamp, nI_add, pk_mul, pk_sub, nor_, nand_, ndif_, shl_, sh1_, shr_, tbn, tb0, tb1, les_t, les_f, pk_div, rem_, remv, and31, wu1, wuc, wui, wu2, ws1, wsc, ws2, wv1, n11_, n13_, n14_, n15_, n17_, n19_, n23_, n56_, n64_, fX5_agrees_l3, q0])
    (N := 3000) (by omega) (v0 := (nI 0, h)) ⟨h, rfl, fr_rf⟩
  refine ⟨g, ?_, fg⟩
  unfold gAg
  rw [gAnd_fn]
  unfold fX5_agrees
  rw [n0_, he, eg]
  cases gFn (fun i => !gSt L S N t i) N.1 0 <;> rfl
theorem c_who (hx : CX h L 29 S) (hN : NC h 43 N) (hE : WE L N) : ∃ g, fX10_textsAsSeen h = some (nI (gWho L S N), g) ∧ fr sq h g := by
  have n2 := hx.1.2.1
  obtain ⟨e, he, g, eg, fg⟩ := wit_for (b := fun v : (Int32 × Int32 × wSt) => fX10_textsAsSeen_l4 v.2.2 v.1 v.2.1) (fun t a => if gAg L S N t then a ||| 2 ^ t else a) (gnt L)
    (fun t a v => ∃ g, v = (nI a, nI t, g) ∧ fr sq h g) (fun a e => ∃ g, e = (nI a, g) ∧ fr sq h g)
    (by
      rintro t a v ht ⟨g, rfl, fg⟩
      have hx2 := CX_fr hx fg
      have c1 := hx2.2.1.2.1
      obtain ⟨g2, e2, f2⟩ := c_ag hx2 (NC_fr hN fg (fun c _ _ => by unfold sq; omega)) hE ht
      refine ⟨(nI (if gAg L S N t then a ||| 2 ^ t else a), nI (t + 1), g2), ?_, g2, rfl, fr_tr fg f2⟩
      cases hq : gAg L S N t
      · rw [hq] at e2
        simp (disch := omega) only [↓reduceIte, wlet, Option.bind_some, true_and, and_true, not_true_eq_false, not_false_eq_true, reduceCtorEq, n0_, n1_, n2_, n3_, n4_, n5_, n6_, n7_, n8_, n9_, n10_, n12_, n16_, n18_, n20_, n21_, n22_, n24_, n25_, n26_, n27_, n28_, n29_, n30_, n31_, n32_, n40_, n41_, n42_, n43_, n45_, n48_, n54_, n57_, n58_, n59_, n60_, n61_, n63_, n96_, n97_, n99_, n100_, n122_, n126_, n200_, n255_, n375_, n400_, n1000_, n2000_, n9999_, n5764801_, n1000000_, n3000_, m1, m2, le_t, le_f, lt_t, lt_f, eq_t, eq_f, no_lt, no_le, le_no, lt_no, eq_no, no_eq, add_no, wib_t, clamp, nI_add, pk_mul, pk_sub, nor_, nand_, ndif_, shl_, sh1_, shr_, tbn, tb0, tb1, les_t, les_f, pk_div, rem_, remv, and31, wu1, wuc, wui, wu2, ws1, wsc, ws2, wv1, n11_, n13_, n14_, n15_, n17_, n19_, n23_, n56_, n64_, fX10_textsAsSeen_l4, fX10_textsAsSeen_b40_4, c1, e2, Option.isSome_none, Option.isSome_some, Bool.false_eq_true]
      · rw [hq] at e2
        simp (disch := omega) only [↓reduceIte, wlet, Option.bind_some, true_and, and_true, not_true_eq_false, not_false_eq_true, reduceCtorEq, n0_, n1_, n2_, n3_, n4_, n5_, n6_, n7_, n8_, n9_, n10_, n12_, n16_, n18_, n20_, n21_, n22_, n24_, n25_, n26_, n27_, n28_, n29_, n30_, n31_, n32_, n40_, n41_, n42_, n43_, n45_, n48_, n54_, n57_, n58_, n59_, n60_, n61_, n63_, n96_, n97_, n99_, n100_, n122_, n126_, n200_, n255_, n375_, n400_, n1000_, n2000_, n9999_, n5764801_, n1000000_, n3000_, m1, m2, le_t, le_f, lt_t, lt_f, eq_t, eq_f, no_lt, no_le, le_no, lt_no, eq_no, no_eq, add_no, wib_t, clamp, nI_add, pk_mul, pk_sub, nor_, nand_, ndif_, shl_, sh1_, shr_, tbn, tb0, tb1, les_t, les_f, pk_div, rem_, remv, and31, wu1, wuc, wui, wu2, ws1, wsc, ws2, wv1, n11_, n13_, n14_, n15_, n17_, n19_, n23_, n56_, n64_, fX10_textsAsSeen_l4, fX10_textsAsSeen_b40_4, c1, e2, Option.isSome_none, Option.isSome_some, Bool.false_eq_true])
    (by
      rintro a v ⟨g, rfl, fg⟩
      have c1 := (CX_fr hx fg).2.1.2.1
      refine ⟨_, ?_, g, rfl, fg⟩
      simp (disch := omega) only [↓reduceIte, wlet, Option.bind_some, true_and, and_true, not_true_eq_false, not_false_eq_true, reduceCtorEq, n0_, n1_, n2_, n3_, n4_, n5_, n6_, n7_, n8_, n9_, n10_, n12_, n16_, n18_, n20_, n21_, n22_, n24_, n25_, n26_, n27_, n28_, n29_, n30_, n31_, n32_, n40_, n41_, n42_, n43_, n45_, n48_, n54_, n57_, n58_, n59_, n60_, n61_, n63_, n96_, n97_, n99_, n100_, n122_, n126_, n200_, n255_, n375_, n400_, n1000_, n2000_, n9999_, n5764801_, n1000000_, n3000_, m1, m2, le_t, le_f, lt_t, lt_f, eq_t, eq_f, no_lt, no_le, le_no, lt_no, eq_no, no_eq, add_no, wib_t, clamp, nI_add, pk_mul, pk_sub, nor_, nand_, ndif_, shl_, sh1_, shr_, tbn, tb0, tb1, les_t, les_f, pk_div, rem_, remv, and31, wu1, wuc, wui, wu2, ws1, wsc, ws2, wv1, n11_, n13_, n14_, n15_, n17_, n19_, n23_, n56_, n64_, fX10_textsAsSeen_l4, c1])
    (N := 3000) (by omega) (a0 := 0) (v0 := (nI 0, nI 0, h)) ⟨h, rfl, fr_rf⟩
  refine ⟨g, ?_, fg⟩
  simp (disch := omega) only [↓reduceIte, wlet, Option.bind_some, true_and, and_true, not_true_eq_false, not_false_eq_true, reduceCtorEq, n0_, n1_, n2_, n3_, n4_, n5_, n6_, n7_, n8_, n9_, n10_, n12_, n16_, n18_, n20_, n21_, n22_, n24_, n25_, n26_, n27_, n28_, n29_, n30_, n31_, n32_, n40_, n41_, n42_, n43_, n45_, n48_, n54_, n57_, n58_, n59_, n60_, n61_, n63_, n96_, n97_, n99_, n100_, n122_, n126_, n200_, n255_, n375_, n400_, n1000_, n2000_, n9999_, n5764801_, n1000000_, n3000_, m1, m2, le_t, le_f, lt_t, lt_f, eq_t, eq_f, no_lt, no_le, le_no, lt_no, eq_no, no_eq, add_no, wib_t, clamp, nI_add, pk_mul, pk_sub, nor_, nand_, ndif_, shl_, sh1_, shr_, tbn, tb0, tb1, les_t, les_f, pk_div, rem_, remv, and31, wu1, wuc, wui, wu2, ws1, wsc, ws2, wv1, n11_, n13_, n14_, n15_, n17_, n19_, n23_, n56_, n64_, fX10_textsAsSeen, he, eg]
  rfl
theorem r_ag (hx : MX h L S) (hN : NM h 0 N) (hE : WE L N) {t : Nat} (ht : t < gnt L) (v1 : Int32) : ∃ g, wit (fun v : (Int32 × Int32 × wSt) => fX11_who_l24 v.2.2 v1 (nI t) v.1 v.2.1) 3000 (nI 1, nI 0, h) = some (nI (gAg L S N t).toNat, g) ∧ fr sr h g := by
  have n1 := hx.1.1
  have hE8 := hE.1
  obtain ⟨e, he, g, eg, fg⟩ := wit_for (b := fun v : (Int32 × Int32 × wSt) => fX11_who_l24 v.2.2 v1 (nI t) v.1 v.2.1) (fun i a => a && gSt L S N t i) N.1
    (fun i a v => ∃ g, v = (nI a.toNat, nI i, g) ∧ fr sr h g) (fun a e => ∃ g, e = (nI a.toNat, g) ∧ fr sr h g)
    (by
      rintro i a v hi ⟨g, rfl, fg⟩
      have hx2 := MX_sr hx fg
      obtain ⟨q0, q⟩ := NM_fr hN fg (fun c _ _ => by unfold sr; omega)
      obtain ⟨q1, q2, q3, -⟩ := q i hi
      obtain ⟨r1, r2, r3, r4⟩ := hE.2 i hi
      have s1 := (hx2.2.2.2.2.1 (N.2 i).1 (by omega)).1
      have w1 := (hx.2.2.1.2.1 (N.2 i).1 (by omega)).1
      obtain ⟨g2, e2, f2⟩ := r_shows hx2.1 hx2.2.1 ht (d := (N.2 i).2.1) (w := (N.2 i).2.2.1) (th := S.2.1 (N.2 i).1) r2 r3 r4 w1
      have q4 := ((NM_fr hN (fr_tr fg f2) (fun c _ _ => by unfold sr; omega)).2 i hi).2.2.2
      simp only [Nat.mul_zero, Nat.zero_add] at q1 q2 q3 q4 s1
      cases a with
      | false =>
        refine ⟨(nI (false && gSt L S N t i).toNat, nI (i + 1), g), ?_, g, rfl, fg⟩
        rw [Bool.false_and]
        simp (disch := omega) only [↓reduceIte, wlet, Option.bind_some, true_and, and_true, not_true_eq_false, not_false_eq_true, reduceCtorEq, n0_, n1_, n2_, n3_, n4_, n5_, n6_, n7_, n8_, n9_, n10_, n12_, n16_, n18_, n20_, n21_, n22_, n24_, n25_, n26_, n27_, n28_, n29_, n30_, n31_, n32_, n40_, n41_, n42_, n43_, n45_, n48_, n54_, n57_, n58_, n59_, n60_, n61_, n63_, n96_, n97_, n99_, n100_, n122_, n126_, n200_, n255_, n375_, n400_, n1000_, n2000_, n9999_, n5764801_, n1000000_, n3000_, m1, m2, le_t, le_f, lt_t, lt_f, eq_t, eq_f, no_lt, no_le, le_no, lt_no, eq_no, no_eq, add_no, wib_t, clamp, nI_add, pk_mul, pk_sub, nor_, nand_, ndif_, shl_, sh1_, shr_, tbn, tb0, tb1, les_t, les_f, pk_div, rem_, remv, and31, wu1, wuc, wui, wu2, ws1, wsc, ws2, wv1, n11_, n13_, n14_, n15_, n17_, n19_, n23_, n56_, n64_, fX11_who_l24, fX11_who_b86_24, fX11_who_b87_24, q0, Bool.toNat_false]
      | true =>
        have hst : gSt L S N t i = (gShow L t (N.2 i).2.1 (N.2 i).2.2.1 (S.2.1 (N.2 i).1) == (N.2 i).2.2.2) := rfl
        refine ⟨(nI (true && gSt L S N t i).toNat, nI (i + 1), g2), ?_, g2, rfl, fr_tr fg f2⟩
        rw [Bool.true_and, hst]
        revert e2 q4
        generalize gShow L t (N.2 i).2.1 (N.2 i).2.2.1 (S.2.1 (N.2 i).1) = a
        generalize (N.2 i).2.2.2 = b
        intro e2 q4
        cases a <;> cases b <;> simp (disch := omega) only [↓reduceIte, wlet, Option.bind_some, true_and, and_true, not_true_eq_false, not_false_eq_true, reduceCtorEq, n0_, n1_, n2_, n3_, n4_, n5_, n6_, n7_, n8_, n9_, n10_, n12_, n16_, n18_, n20_, n21_, n22_, n24_, n25_, n26_, n27_, n28_, n29_, n30_, n31_, n32_, n40_, n41_, n42_, n43_, n45_, n48_, n54_, n57_, n58_, n59_, n60_, n61_, n63_, n96_, n97_, n99_, n100_, n122_, n126_, n200_, n255_, n375_, n400_, n1000_, n2000_, n9999_, n5764801_, n1000000_, n3000_, m1, m2, le_t, le_f, lt_t, lt_f, eq_t, eq_f, no_lt, no_le, le_no, lt_no, eq_no, no_eq, add_no, wib_t, clamp, nI_add, pk_mul, pk_sub, nor_, nand_, ndif_, shl_, sh1_, shr_, tbn, tb0, tb1, les_t, les_f, pk_div, rem_, remv, and31, wu1, wuc, wui, wu2, ws1, wsc, ws2, wv1, n11_, n13_, n14_, n15_, n17_, n19_, n23_, n56_, n64_, fX11_who_l24, fX11_who_b86_24, fX11_who_b87_24, q0, q1, q2, q3, s1, e2, q4, wb_nat, Bool.toNat_false, Bool.toNat_true, bq00, bq01, bq10, bq11])
    (by
      rintro a v ⟨g, rfl, fg⟩
      have q0 := (NM_fr hN fg (fun c _ _ => by unfold sr; omega)).1
      refine ⟨_, ?_, g, rfl, fg⟩
      simp (disch := omega) only [↓reduceIte, wlet, Option.bind_some, true_and, and_true, not_true_eq_false, not_false_eq_true, reduceCtorEq, n0_, n1_, n2_, n3_, n4_, n5_, n6_, n7_, n8_, n9_, n10_, n12_, n16_, n18_, n20_, n21_, n22_, n24_, n25_, n26_, n27_, n28_, n29_, n30_, n31_, n32_, n40_, n41_, n42_, n43_, n45_, n48_, n54_, n57_, n58_, n59_, n60_, n61_, n63_, n96_, n97_, n99_, n100_, n122_, n126_, n200_, n255_, n375_, n400_, n1000_, n2000_, n9999_, n5764801_, n1000000_, n3000_, m1, m2, le_t, le_f, lt_t, lt_f, eq_t, eq_f, no_lt, no_le, le_no, lt_no, eq_no, no_eq, add_no, wib_t, clamp, nI_add, pk_mul, pk_sub, nor_, nand_, ndif_, shl_, sh1_, shr_, tbn, tb0, tb1, les_t, les_f, pk_div, rem_, remv, and31, wu1, wuc, wui, wu2, ws1, wsc, ws2, wv1, n11_, n13_, n14_, n15_, n17_, n19_, n23_, n56_, n64_, fX11_who_l24, q0])
    (N := 3000) (by omega) (a0 := true) (v0 := (nI 1, nI 0, h)) ⟨h, rfl, fr_rf⟩
  exact ⟨g, by rw [he, eg]; rfl, fg⟩
theorem r_who (hx : MX h L S) (hN : NM h 0 N) (hE : WE L N) : ∃ g, wit (fun v : (Int32 × Int32 × wSt) => fX11_who_l9 v.2.2 v.1 v.2.1) 3000 (nI 0, nI 0, h) = some (nI (gWho L S N), g) ∧ fr sr h g := by
  have n2 := hx.1.2.1
  obtain ⟨e, he, g, eg, fg⟩ := wit_for (b := fun v : (Int32 × Int32 × wSt) => fX11_who_l9 v.2.2 v.1 v.2.1) (fun t a => if gAg L S N t then a ||| 2 ^ t else a) (gnt L)
    (fun t a v => ∃ g, v = (nI a, nI t, g) ∧ fr sr h g) (fun a e => ∃ g, e = (nI a, g) ∧ fr sr h g)
    (by
      rintro t a v ht ⟨g, rfl, fg⟩
      have hx2 := MX_sr hx fg
      have c1 := hx2.2.1.2.1
      obtain ⟨g2, e2, f2⟩ := r_ag hx2 (NM_fr hN fg (fun c _ _ => by unfold sr; omega)) hE ht (nI a)
      refine ⟨(nI (if gAg L S N t then a ||| 2 ^ t else a), nI (t + 1), g2), ?_, g2, rfl, fr_tr fg f2⟩
      cases hq : gAg L S N t
      · rw [hq] at e2
        simp (disch := omega) only [↓reduceIte, wlet, Option.bind_some, true_and, and_true, not_true_eq_false, not_false_eq_true, reduceCtorEq, n0_, n1_, n2_, n3_, n4_, n5_, n6_, n7_, n8_, n9_, n10_, n12_, n16_, n18_, n20_, n21_, n22_, n24_, n25_, n26_, n27_, n28_, n29_, n30_, n31_, n32_, n40_, n41_, n42_, n43_, n45_, n48_, n54_, n57_, n58_, n59_, n60_, n61_, n63_, n96_, n97_, n99_, n100_, n122_, n126_, n200_, n255_, n375_, n400_, n1000_, n2000_, n9999_, n5764801_, n1000000_, n3000_, m1, m2, le_t, le_f, lt_t, lt_f, eq_t, eq_f, no_lt, no_le, le_no, lt_no, eq_no, no_eq, add_no, wib_t, clamp, nI_add, pk_mul, pk_sub, nor_, nand_, ndif_, shl_, sh1_, shr_, tbn, tb0, tb1, les_t, les_f, pk_div, rem_, remv, and31, wu1, wuc, wui, wu2, ws1, wsc, ws2, wv1, n11_, n13_, n14_, n15_, n17_, n19_, n23_, n56_, n64_, fX11_who_l9, fX11_who_b106_9, c1, e2, Bool.toNat_false, Nat.or_zero, Option.isSome_none, Option.isSome_some, Bool.false_eq_true]
      · rw [hq] at e2
        simp (disch := omega) only [↓reduceIte, wlet, Option.bind_some, true_and, and_true, not_true_eq_false, not_false_eq_true, reduceCtorEq, n0_, n1_, n2_, n3_, n4_, n5_, n6_, n7_, n8_, n9_, n10_, n12_, n16_, n18_, n20_, n21_, n22_, n24_, n25_, n26_, n27_, n28_, n29_, n30_, n31_, n32_, n40_, n41_, n42_, n43_, n45_, n48_, n54_, n57_, n58_, n59_, n60_, n61_, n63_, n96_, n97_, n99_, n100_, n122_, n126_, n200_, n255_, n375_, n400_, n1000_, n2000_, n9999_, n5764801_, n1000000_, n3000_, m1, m2, le_t, le_f, lt_t, lt_f, eq_t, eq_f, no_lt, no_le, le_no, lt_no, eq_no, no_eq, add_no, wib_t, clamp, nI_add, pk_mul, pk_sub, nor_, nand_, ndif_, shl_, sh1_, shr_, tbn, tb0, tb1, les_t, les_f, pk_div, rem_, remv, and31, wu1, wuc, wui, wu2, ws1, wsc, ws2, wv1, n11_, n13_, n14_, n15_, n17_, n19_, n23_, n56_, n64_, fX11_who_l9, fX11_who_b106_9, c1, e2, Bool.toNat_true, Option.isSome_none, Option.isSome_some, Bool.false_eq_true])
    (by
      rintro a v ⟨g, rfl, fg⟩
      have c1 := (MX_sr hx fg).2.1.2.1
      refine ⟨_, ?_, g, rfl, fg⟩
      simp (disch := omega) only [↓reduceIte, wlet, Option.bind_some, true_and, and_true, not_true_eq_false, not_false_eq_true, reduceCtorEq, n0_, n1_, n2_, n3_, n4_, n5_, n6_, n7_, n8_, n9_, n10_, n12_, n16_, n18_, n20_, n21_, n22_, n24_, n25_, n26_, n27_, n28_, n29_, n30_, n31_, n32_, n40_, n41_, n42_, n43_, n45_, n48_, n54_, n57_, n58_, n59_, n60_, n61_, n63_, n96_, n97_, n99_, n100_, n122_, n126_, n200_, n255_, n375_, n400_, n1000_, n2000_, n9999_, n5764801_, n1000000_, n3000_, m1, m2, le_t, le_f, lt_t, lt_f, eq_t, eq_f, no_lt, no_le, le_no, lt_no, eq_no, no_eq, add_no, wib_t, clamp, nI_add, pk_mul, pk_sub, nor_, nand_, ndif_, shl_, sh1_, shr_, tbn, tb0, tb1, les_t, les_f, pk_div, rem_, remv, and31, wu1, wuc, wui, wu2, ws1, wsc, ws2, wv1, n11_, n13_, n14_, n15_, n17_, n19_, n23_, n56_, n64_, fX11_who_l9, c1])
    (N := 3000) (by omega) (a0 := 0) (v0 := (nI 0, nI 0, h)) ⟨h, rfl, fr_rf⟩
  exact ⟨g, by rw [he, eg]; rfl, fg⟩
theorem op_who (hI : Inv k h) : ∃ r h1 h2, fX10_who h = some (r, h1) ∧ fX11_who h1 = some (r, h2) ∧ Inv k h2 := by
  obtain ⟨L, S, u, M, Y, N, T, W, C, R⟩ := hI
  obtain ⟨g, e1, fg⟩ := c_who (W_CX W C) C.2.2.2.2.2.1 W.2.2.2.2.2.2.1
  have f1 := fr_mono fg (fun c => sq_cs)
  have R1 := MI_0 (MI_cls R (fr_mono f1 (fun c => cs_cls))) (nI 0)
  obtain ⟨g2, e2, f2⟩ := r_who (W_MX W R1) R1.2.2.2.2.2.1 W.2.2.2.2.2.2.1
  refine ⟨nI (gWho L S N), g, g2, ?_, ?_, Inv_qs W C R f1 f2⟩
  · simp (disch := omega) only [↓reduceIte, wlet, Option.bind_some, true_and, and_true, not_true_eq_false, not_false_eq_true, reduceCtorEq, n0_, n1_, n2_, n3_, n4_, n5_, n6_, n7_, n8_, n9_, n10_, n12_, n16_, n18_, n20_, n21_, n22_, n24_, n25_, n26_, n27_, n28_, n29_, n30_, n31_, n32_, n40_, n41_, n42_, n43_, n45_, n48_, n54_, n57_, n58_, n59_, n60_, n61_, n63_, n96_, n97_, n99_, n100_, n122_, n126_, n200_, n255_, n375_, n400_, n1000_, n2000_, n9999_, n5764801_, n1000000_, n3000_, m1, m2, le_t, le_f, lt_t, lt_f, eq_t, eq_f, no_lt, no_le, le_no, lt_no, eq_no, no_eq, add_no, wib_t, clamp, nI_add, pk_mul, pk_sub, nor_, nand_, ndif_, shl_, sh1_, shr_, tbn, tb0, tb1, les_t, les_f, pk_div, rem_, remv, and31, wu1, wuc, wui, wu2, ws1, wsc, ws2, wv1, n11_, n13_, n14_, n15_, n17_, n19_, n23_, n56_, n64_, fX10_who, e1]
  · simp (disch := omega) only [↓reduceIte, wlet, Option.bind_some, true_and, and_true, not_true_eq_false, not_false_eq_true, reduceCtorEq, n0_, n1_, n2_, n3_, n4_, n5_, n6_, n7_, n8_, n9_, n10_, n12_, n16_, n18_, n20_, n21_, n22_, n24_, n25_, n26_, n27_, n28_, n29_, n30_, n31_, n32_, n40_, n41_, n42_, n43_, n45_, n48_, n54_, n57_, n58_, n59_, n60_, n61_, n63_, n96_, n97_, n99_, n100_, n122_, n126_, n200_, n255_, n375_, n400_, n1000_, n2000_, n9999_, n5764801_, n1000000_, n3000_, m1, m2, le_t, le_f, lt_t, lt_f, eq_t, eq_f, no_lt, no_le, le_no, lt_no, eq_no, no_eq, add_no, wib_t, clamp, nI_add, pk_mul, pk_sub, nor_, nand_, ndif_, shl_, sh1_, shr_, tbn, tb0, tb1, les_t, les_f, pk_div, rem_, remv, and31, wu1, wuc, wui, wu2, ws1, wsc, ws2, wv1, n11_, n13_, n14_, n15_, n17_, n19_, n23_, n56_, n64_, fX11_who, e2]
theorem c_many (hx : CX h L 29 S) {x d w i : Nat} (hx6 : x < 64) (hi : i < gns L) (hd : 1 ≤ d) (hd2 : d ≤ 9) (hw : w ≤ 9) : ∃ g, fX4_howManyShow h 3 (nI x) (nI d) (nI w) (nI (S.2.1 i)) = some (nI (gMany L S x d w i), g) ∧ fr sq h g := by
  have n1 := hx.1.1
  have n2 := hx.1.2.1
  have v1 := (hx.2.2.1.2.1 i (by omega)).1
  obtain ⟨e, he, g, eg, fg⟩ := wit_for (b := fun v : (Int32 × Int32 × wSt) => fX4_howManyShow_l6 v.2.2 3 (nI x) (nI d) (nI w) (nI (S.2.1 i)) v.1 v.2.1) (fun t n => if (x.testBit t && gShow L t d w (S.2.1 i)) then n + 1 else n) (gnt L)
    (fun t n v => ∃ g, v = (nI n, nI t, g) ∧ fr sq h g) (fun n e => ∃ g, e = (nI n, g) ∧ fr sq h g)
    (by
      rintro t n v ht ⟨g, rfl, fg⟩
      have hx2 := CX_fr hx fg
      have c1 := hx2.2.1.2.1
      obtain ⟨g2, e2, f2⟩ := c_shows hx2.1 hx2.2.1 ht (d := d) (w := w) (th := S.2.1 i) hd hd2 hw v1
      cases hb : x.testBit t with
      | false =>
        refine ⟨_, ?_, g, rfl, fg⟩
        rw [Bool.false_and]
        simp (disch := omega) only [↓reduceIte, wlet, Option.bind_some, true_and, and_true, not_true_eq_false, not_false_eq_true, reduceCtorEq, n0_, n1_, n2_, n3_, n4_, n5_, n6_, n7_, n8_, n9_, n10_, n12_, n16_, n18_, n20_, n21_, n22_, n24_, n25_, n26_, n27_, n28_, n29_, n30_, n31_, n32_, n40_, n41_, n42_, n43_, n45_, n48_, n54_, n57_, n58_, n59_, n60_, n61_, n63_, n96_, n97_, n99_, n100_, n122_, n126_, n200_, n255_, n375_, n400_, n1000_, n2000_, n9999_, n5764801_, n1000000_, n3000_, m1, m2, le_t, le_f, lt_t, lt_f, eq_t, eq_f, no_lt, no_le, le_no, lt_no, eq_no, no_eq, add_no, wib_t, clamp, nI_add, pk_mul, pk_sub, nor_, nand_, ndif_, shl_, sh1_, shr_, tbn, tb0, tb1, les_t, les_f, pk_div, rem_, remv, and31, wu1, wuc, wui, wu2, ws1, wsc, ws2, wv1, n11_, n13_, n14_, n15_, n17_, n19_, n23_, n56_, n64_, fX4_howManyShow_l6, fX4_howManyShow_b40_6, c1, hb, Option.isSome_none, Option.isSome_some, Bool.false_eq_true]
      | true =>
        refine ⟨_, ?_, g2, rfl, fr_tr fg f2⟩
        rw [Bool.true_and]
        cases hq : gShow L t d w (S.2.1 i)
        · rw [hq] at e2
          simp (disch := omega) only [↓reduceIte, wlet, Option.bind_some, true_and, and_true, not_true_eq_false, not_false_eq_true, reduceCtorEq, n0_, n1_, n2_, n3_, n4_, n5_, n6_, n7_, n8_, n9_, n10_, n12_, n16_, n18_, n20_, n21_, n22_, n24_, n25_, n26_, n27_, n28_, n29_, n30_, n31_, n32_, n40_, n41_, n42_, n43_, n45_, n48_, n54_, n57_, n58_, n59_, n60_, n61_, n63_, n96_, n97_, n99_, n100_, n122_, n126_, n200_, n255_, n375_, n400_, n1000_, n2000_, n9999_, n5764801_, n1000000_, n3000_, m1, m2, le_t, le_f, lt_t, lt_f, eq_t, eq_f, no_lt, no_le, le_no, lt_no, eq_no, no_eq, add_no, wib_t, clamp, nI_add, pk_mul, pk_sub, nor_, nand_, ndif_, shl_, sh1_, shr_, tbn, tb0, tb1, les_t, les_f, pk_div, rem_, remv, and31, wu1, wuc, wui, wu2, ws1, wsc, ws2, wv1, n11_, n13_, n14_, n15_, n17_, n19_, n23_, n56_, n64_, fX4_howManyShow_l6, fX4_howManyShow_b40_6, c1, hb, e2, Bool.true_eq_false, Option.isSome_none, Option.isSome_some, Bool.false_eq_true]
        · rw [hq] at e2
          simp (disch := omega) only [↓reduceIte, wlet, Option.bind_some, true_and, and_true, not_true_eq_false, not_false_eq_true, reduceCtorEq, n0_, n1_, n2_, n3_, n4_, n5_, n6_, n7_, n8_, n9_, n10_, n12_, n16_, n18_, n20_, n21_, n22_, n24_, n25_, n26_, n27_, n28_, n29_, n30_, n31_, n32_, n40_, n41_, n42_, n43_, n45_, n48_, n54_, n57_, n58_, n59_, n60_, n61_, n63_, n96_, n97_, n99_, n100_, n122_, n126_, n200_, n255_, n375_, n400_, n1000_, n2000_, n9999_, n5764801_, n1000000_, n3000_, m1, m2, le_t, le_f, lt_t, lt_f, eq_t, eq_f, no_lt, no_le, le_no, lt_no, eq_no, no_eq, add_no, wib_t, clamp, nI_add, pk_mul, pk_sub, nor_, nand_, ndif_, shl_, sh1_, shr_, tbn, tb0, tb1, les_t, les_f, pk_div, rem_, remv, and31, wu1, wuc, wui, wu2, ws1, wsc, ws2, wv1, n11_, n13_, n14_, n15_, n17_, n19_, n23_, n56_, n64_, fX4_howManyShow_l6, fX4_howManyShow_b40_6, c1, hb, e2, Bool.true_eq_false, Option.isSome_none, Option.isSome_some, Bool.false_eq_true])
    (by
      rintro a v ⟨g, rfl, fg⟩
      have c1 := (CX_fr hx fg).2.1.2.1
      refine ⟨_, ?_, g, rfl, fg⟩
      simp (disch := omega) only [↓reduceIte, wlet, Option.bind_some, true_and, and_true, not_true_eq_false, not_false_eq_true, reduceCtorEq, n0_, n1_, n2_, n3_, n4_, n5_, n6_, n7_, n8_, n9_, n10_, n12_, n16_, n18_, n20_, n21_, n22_, n24_, n25_, n26_, n27_, n28_, n29_, n30_, n31_, n32_, n40_, n41_, n42_, n43_, n45_, n48_, n54_, n57_, n58_, n59_, n60_, n61_, n63_, n96_, n97_, n99_, n100_, n122_, n126_, n200_, n255_, n375_, n400_, n1000_, n2000_, n9999_, n5764801_, n1000000_, n3000_, m1, m2, le_t, le_f, lt_t, lt_f, eq_t, eq_f, no_lt, no_le, le_no, lt_no, eq_no, no_eq, add_no, wib_t, clamp, nI_add, pk_mul, pk_sub, nor_, nand_, ndif_, shl_, sh1_, shr_, tbn, tb0, tb1, les_t, les_f, pk_div, rem_, remv, and31, wu1, wuc, wui, wu2, ws1, wsc, ws2, wv1, n11_, n13_, n14_, n15_, n17_, n19_, n23_, n56_, n64_, fX4_howManyShow_l6, c1])
    (N := 3000) (by omega) (a0 := 0) (v0 := (nI 0, nI 0, h)) ⟨h, rfl, fr_rf⟩
  refine ⟨g, ?_, fg⟩
  simp (disch := omega) only [↓reduceIte, wlet, Option.bind_some, true_and, and_true, not_true_eq_false, not_false_eq_true, reduceCtorEq, n0_, n1_, n2_, n3_, n4_, n5_, n6_, n7_, n8_, n9_, n10_, n12_, n16_, n18_, n20_, n21_, n22_, n24_, n25_, n26_, n27_, n28_, n29_, n30_, n31_, n32_, n40_, n41_, n42_, n43_, n45_, n48_, n54_, n57_, n58_, n59_, n60_, n61_, n63_, n96_, n97_, n99_, n100_, n122_, n126_, n200_, n255_, n375_, n400_, n1000_, n2000_, n9999_, n5764801_, n1000000_, n3000_, m1, m2, le_t, le_f, lt_t, lt_f, eq_t, eq_f, no_lt, no_le, le_no, lt_no, eq_no, no_eq, add_no, wib_t, clamp, nI_add, pk_mul, pk_sub, nor_, nand_, ndif_, shl_, sh1_, shr_, tbn, tb0, tb1, les_t, les_f, pk_div, rem_, remv, and31, wu1, wuc, wui, wu2, ws1, wsc, ws2, wv1, n11_, n13_, n14_, n15_, n17_, n19_, n23_, n56_, n64_, fX4_howManyShow, he, eg]
  rfl
theorem r_many (hx : MX h L S) {x m i : Nat} (hx6 : x < 64) (hi : i < gns L) (hm : m < 90) (v3 v4 : Int32) : ∃ g, wit (fun v : (Int32 × Int32 × wSt) => fX11_ask_l45 v.2.2 (nI i) (nI x) v3 v4 (nI (m + 10)) v.1 v.2.1) 3000 (nI 0, nI 0, h) = some (nI (gMany L S x (m / 10 + 1) (m % 10) i), g) ∧ fr sr h g := by
  have n1 := hx.1.1
  have n2 := hx.1.2.1
  have v1 := (hx.2.2.1.2.1 i (by omega)).1
  have d1 : (m + 10) / 10 = m / 10 + 1 := by omega
  have d2 : m + 10 - (m / 10 + 1) * 10 = m % 10 := by omega
  obtain ⟨e, he, g, eg, fg⟩ := wit_for (b := fun v : (Int32 × Int32 × wSt) => fX11_ask_l45 v.2.2 (nI i) (nI x) v3 v4 (nI (m + 10)) v.1 v.2.1) (fun t n => if (x.testBit t && gShow L t (m / 10 + 1) (m % 10) (S.2.1 i)) then n + 1 else n) (gnt L)
    (fun t n v => ∃ g, v = (nI n, nI t, g) ∧ fr sr h g) (fun n e => ∃ g, e = (nI n, g) ∧ fr sr h g)
    (by
      rintro t n v ht ⟨g, rfl, fg⟩
      have hx2 := MX_sr hx fg
      have c1 := hx2.2.1.2.1
      have s1 := (hx2.2.2.2.2.1 i (by omega)).1
      rw [Nat.zero_add] at s1
      obtain ⟨g2, e2, f2⟩ := r_shows hx2.1 hx2.2.1 ht (d := m / 10 + 1) (w := m % 10) (th := S.2.1 i) (by omega) (by omega) (by omega) v1
      cases hb : x.testBit t with
      | false =>
        refine ⟨_, ?_, g, rfl, fg⟩
        rw [Bool.false_and]
        simp (disch := omega) only [↓reduceIte, wlet, Option.bind_some, true_and, and_true, not_true_eq_false, not_false_eq_true, reduceCtorEq, n0_, n1_, n2_, n3_, n4_, n5_, n6_, n7_, n8_, n9_, n10_, n12_, n16_, n18_, n20_, n21_, n22_, n24_, n25_, n26_, n27_, n28_, n29_, n30_, n31_, n32_, n40_, n41_, n42_, n43_, n45_, n48_, n54_, n57_, n58_, n59_, n60_, n61_, n63_, n96_, n97_, n99_, n100_, n122_, n126_, n200_, n255_, n375_, n400_, n1000_, n2000_, n9999_, n5764801_, n1000000_, n3000_, m1, m2, le_t, le_f, lt_t, lt_f, eq_t, eq_f, no_lt, no_le, le_no, lt_no, eq_no, no_eq, add_no, wib_t, clamp, nI_add, pk_mul, pk_sub, nor_, nand_, ndif_, shl_, sh1_, shr_, tbn, tb0, tb1, les_t, les_f, pk_div, rem_, remv, and31, wu1, wuc, wui, wu2, ws1, wsc, ws2, wv1, n11_, n13_, n14_, n15_, n17_, n19_, n23_, n56_, n64_, fX11_ask_l45, fX11_ask_b99_45, fX11_ask_b100_45, c1, hb, Nat.add_zero, Option.isSome_none, Option.isSome_some, Bool.false_eq_true]
      | true =>
        refine ⟨_, ?_, g2, rfl, fr_tr fg f2⟩
        rw [Bool.true_and]
        cases hq : gShow L t (m / 10 + 1) (m % 10) (S.2.1 i)
        · rw [hq] at e2
          simp (disch := omega) only [↓reduceIte, wlet, Option.bind_some, true_and, and_true, not_true_eq_false, not_false_eq_true, reduceCtorEq, n0_, n1_, n2_, n3_, n4_, n5_, n6_, n7_, n8_, n9_, n10_, n12_, n16_, n18_, n20_, n21_, n22_, n24_, n25_, n26_, n27_, n28_, n29_, n30_, n31_, n32_, n40_, n41_, n42_, n43_, n45_, n48_, n54_, n57_, n58_, n59_, n60_, n61_, n63_, n96_, n97_, n99_, n100_, n122_, n126_, n200_, n255_, n375_, n400_, n1000_, n2000_, n9999_, n5764801_, n1000000_, n3000_, m1, m2, le_t, le_f, lt_t, lt_f, eq_t, eq_f, no_lt, no_le, le_no, lt_no, eq_no, no_eq, add_no, wib_t, clamp, nI_add, pk_mul, pk_sub, nor_, nand_, ndif_, shl_, sh1_, shr_, tbn, tb0, tb1, les_t, les_f, pk_div, rem_, remv, and31, wu1, wuc, wui, wu2, ws1, wsc, ws2, wv1, n11_, n13_, n14_, n15_, n17_, n19_, n23_, n56_, n64_, fX11_ask_l45, fX11_ask_b99_45, fX11_ask_b100_45, c1, hb, s1, d1, d2, e2, Nat.add_zero, Option.isSome_none, Option.isSome_some, Bool.false_eq_true]
        · rw [hq] at e2
          simp (disch := omega) only [↓reduceIte, wlet, Option.bind_some, true_and, and_true, not_true_eq_false, not_false_eq_true, reduceCtorEq, n0_, n1_, n2_, n3_, n4_, n5_, n6_, n7_, n8_, n9_, n10_, n12_, n16_, n18_, n20_, n21_, n22_, n24_, n25_, n26_, n27_, n28_, n29_, n30_, n31_, n32_, n40_, n41_, n42_, n43_, n45_, n48_, n54_, n57_, n58_, n59_, n60_, n61_, n63_, n96_, n97_, n99_, n100_, n122_, n126_, n200_, n255_, n375_, n400_, n1000_, n2000_, n9999_, n5764801_, n1000000_, n3000_, m1, m2, le_t, le_f, lt_t, lt_f, eq_t, eq_f, no_lt, no_le, le_no, lt_no, eq_no, no_eq, add_no, wib_t, clamp, nI_add, pk_mul, pk_sub, nor_, nand_, ndif_, shl_, sh1_, shr_, tbn, tb0, tb1, les_t, les_f, pk_div, rem_, remv, and31, wu1, wuc, wui, wu2, ws1, wsc, ws2, wv1, n11_, n13_, n14_, n15_, n17_, n19_, n23_, n56_, n64_, fX11_ask_l45, fX11_ask_b99_45, fX11_ask_b100_45, c1, hb, s1, d1, d2, e2, Nat.add_zero, Option.isSome_none, Option.isSome_some, Bool.false_eq_true])
    (by
      rintro a v ⟨g, rfl, fg⟩
      have c1 := (MX_sr hx fg).2.1.2.1
      refine ⟨_, ?_, g, rfl, fg⟩
      simp (disch := omega) only [↓reduceIte, wlet, Option.bind_some, true_and, and_true, not_true_eq_false, not_false_eq_true, reduceCtorEq, n0_, n1_, n2_, n3_, n4_, n5_, n6_, n7_, n8_, n9_, n10_, n12_, n16_, n18_, n20_, n21_, n22_, n24_, n25_, n26_, n27_, n28_, n29_, n30_, n31_, n32_, n40_, n41_, n42_, n43_, n45_, n48_, n54_, n57_, n58_, n59_, n60_, n61_, n63_, n96_, n97_, n99_, n100_, n122_, n126_, n200_, n255_, n375_, n400_, n1000_, n2000_, n9999_, n5764801_, n1000000_, n3000_, m1, m2, le_t, le_f, lt_t, lt_f, eq_t, eq_f, no_lt, no_le, le_no, lt_no, eq_no, no_eq, add_no, wib_t, clamp, nI_add, pk_mul, pk_sub, nor_, nand_, ndif_, shl_, sh1_, shr_, tbn, tb0, tb1, les_t, les_f, pk_div, rem_, remv, and31, wu1, wuc, wui, wu2, ws1, wsc, ws2, wv1, n11_, n13_, n14_, n15_, n17_, n19_, n23_, n56_, n64_, fX11_ask_l45, c1])
    (N := 3000) (by omega) (a0 := 0) (v0 := (nI 0, nI 0, h)) ⟨h, rfl, fr_rf⟩
  exact ⟨g, by rw [he, eg]; rfl, fg⟩
theorem c_ask (hx : CX h L 29 S) {x i : Nat} (hx6 : x < 64) (hi : i < gns L) (a0 : Int32 × Int32) : ∃ g, wit (fun v : (Int32 × Int32 × Int32 × wSt) => fX10_ask_l32 v.2.2.2 (nI i) (nI x) (nI (gBits x)) v.1 v.2.1 v.2.2.1) 3000 (a0.1, a0.2, nI 1, h) = some ((gF (gAskSt L S x i) 90 a0).2, g) ∧ fr sq h g := by
  have n1 := hx.1.1
  obtain ⟨e, he, g, eg, fg⟩ := wit_for (b := fun v : (Int32 × Int32 × Int32 × wSt) => fX10_ask_l32 v.2.2.2 (nI i) (nI x) (nI (gBits x)) v.1 v.2.1 v.2.2.1) (fun d a => gF (fun w => gAskSt L S x i (10 * d + w)) 10 a) 9
    (fun d a v => ∃ g, v = (a.1, a.2, nI (d + 1), g) ∧ fr sq h g) (fun a e => ∃ g, e = (a.2, g) ∧ fr sq h g)
    (by
      rintro d a v hd ⟨g, rfl, fg⟩
      obtain ⟨e, he, g2, eg, f2⟩ := wit_for (b := fun v : (Int32 × Int32 × Int32 × wSt) => fX10_ask_l42 v.2.2.2 (nI i) (nI x) (nI (gBits x)) (nI (d + 1)) v.1 v.2.1 v.2.2.1) (fun w => gAskSt L S x i (10 * d + w)) 10
        (fun w a v => ∃ g, v = (a.1, a.2, nI w, g) ∧ fr sq h g) (fun a e => ∃ g, e = (a.1, a.2, g) ∧ fr sq h g)
        (by
          rintro w a v hw ⟨g, rfl, fg⟩
          have hx2 := CX_fr hx fg
          have s1 := (hx2.2.2.2.1.2.1 i (by omega)).1
          simp only [Nat.reduceAdd] at s1
          obtain ⟨g2, e2, f2⟩ := c_many hx2 (x := x) (d := d + 1) (w := w) hx6 hi (by omega) (by omega) (by omega)
          have d1 : (10 * d + w) / 10 + 1 = d + 1 := by omega
          have d2 : (10 * d + w) % 10 = w := by omega
          have d3 : 10 * (d + 1) + w = 10 * d + w + 10 := by omega
          refine ⟨((gAskSt L S x i (10 * d + w) a).1, (gAskSt L S x i (10 * d + w) a).2, nI (w + 1), g2), ?_, g2, rfl, fr_tr fg f2⟩
          unfold gAskSt
          rw [d1, d2]
          revert e2
          generalize gMany L S x (d + 1) w i = n
          intro e2
          by_cases hq : a.1 ≤ wmx (nI n) (nI (gBits x) - nI n)
          · rw [if_pos hq]
            have hb : fX10_ask_l42 g (nI i) (nI x) (nI (gBits x)) (nI (d + 1)) a.1 a.2 (nI w) = (if a.1 ≤ wmx (nI n) (nI (gBits x) - nI n) then fX10_ask_b104_42 g2 (nI i) (nI x) (nI (gBits x)) a.1 a.2 (nI (d + 1)) (nI w) else fX10_ask_b104_42 g2 (nI i) (nI x) (nI (gBits x)) (wmx (nI n) (nI (gBits x) - nI n)) (10 * nI (d + 1) + nI w) (nI (d + 1)) (nI w)) := by
              unfold fX10_ask_l42
              rw [if_neg (by rw [n9_]; exact nI_nlt (by omega) (by omega)), if_pos (of_eq_true (wib_t (by omega) (by omega))), clamp (by omega), s1, e2]
              rfl
            show fX10_ask_l42 g (nI i) (nI x) (nI (gBits x)) (nI (d + 1)) a.1 a.2 (nI w) = _
            rw [hb, if_pos hq, fX10_ask_b104_42, n1_, nI_add]
          · rw [if_neg hq]
            have hb : fX10_ask_l42 g (nI i) (nI x) (nI (gBits x)) (nI (d + 1)) a.1 a.2 (nI w) = (if a.1 ≤ wmx (nI n) (nI (gBits x) - nI n) then fX10_ask_b104_42 g2 (nI i) (nI x) (nI (gBits x)) a.1 a.2 (nI (d + 1)) (nI w) else fX10_ask_b104_42 g2 (nI i) (nI x) (nI (gBits x)) (wmx (nI n) (nI (gBits x) - nI n)) (10 * nI (d + 1) + nI w) (nI (d + 1)) (nI w)) := by
              unfold fX10_ask_l42
              rw [if_neg (by rw [n9_]; exact nI_nlt (by omega) (by omega)), if_pos (of_eq_true (wib_t (by omega) (by omega))), clamp (by omega), s1, e2]
              rfl
            show fX10_ask_l42 g (nI i) (nI x) (nI (gBits x)) (nI (d + 1)) a.1 a.2 (nI w) = _
            rw [hb, if_neg hq, fX10_ask_b104_42, n10_, pk_mul, nI_add, d3, n1_, nI_add])
        (by
          rintro a v ⟨g, rfl, fg⟩
          refine ⟨_, ?_, g, rfl, fg⟩
          simp (disch := omega) only [↓reduceIte, wlet, Option.bind_some, true_and, and_true, not_true_eq_false, not_false_eq_true, reduceCtorEq, n0_, n1_, n2_, n3_, n4_, n5_, n6_, n7_, n8_, n9_, n10_, n12_, n16_, n18_, n20_, n21_, n22_, n24_, n25_, n26_, n27_, n28_, n29_, n30_, n31_, n32_, n40_, n41_, n42_, n43_, n45_, n48_, n54_, n57_, n58_, n59_, n60_, n61_, n63_, n96_, n97_, n99_, n100_, n122_, n126_, n200_, n255_, n375_, n400_, n1000_, n2000_, n9999_, n5764801_, n1000000_, n3000_, m1, m2, le_t, le_f, lt_t, lt_f, eq_t, eq_f, no_lt, no_le, le_no, lt_no, eq_no, no_eq, add_no, wib_t, clamp, nI_add, pk_mul, pk_sub, nor_, nand_, ndif_, shl_, sh1_, shr_, tbn, tb0, tb1, les_t, les_f, pk_div, rem_, remv, and31, wu1, wuc, wui, wu2, ws1, wsc, ws2, wv1, n11_, n13_, n14_, n15_, n17_, n19_, n23_, n56_, n64_, fX10_ask_l42])
        (N := 3000) (by omega) (a0 := a) (v0 := (a.1, a.2, nI 0, g)) ⟨g, rfl, fg⟩
      refine ⟨_, ?_, g2, rfl, f2⟩
      simp (disch := omega) only [↓reduceIte, wlet, Option.bind_some, true_and, and_true, not_true_eq_false, not_false_eq_true, reduceCtorEq, n0_, n1_, n2_, n3_, n4_, n5_, n6_, n7_, n8_, n9_, n10_, n12_, n16_, n18_, n20_, n21_, n22_, n24_, n25_, n26_, n27_, n28_, n29_, n30_, n31_, n32_, n40_, n41_, n42_, n43_, n45_, n48_, n54_, n57_, n58_, n59_, n60_, n61_, n63_, n96_, n97_, n99_, n100_, n122_, n126_, n200_, n255_, n375_, n400_, n1000_, n2000_, n9999_, n5764801_, n1000000_, n3000_, m1, m2, le_t, le_f, lt_t, lt_f, eq_t, eq_f, no_lt, no_le, le_no, lt_no, eq_no, no_eq, add_no, wib_t, clamp, nI_add, pk_mul, pk_sub, nor_, nand_, ndif_, shl_, sh1_, shr_, tbn, tb0, tb1, les_t, les_f, pk_div, rem_, remv, and31, wu1, wuc, wui, wu2, ws1, wsc, ws2, wv1, n11_, n13_, n14_, n15_, n17_, n19_, n23_, n56_, n64_, fX10_ask_l32, he, eg])
    (by
      rintro a v ⟨g, rfl, fg⟩
      refine ⟨_, ?_, g, rfl, fg⟩
      simp (disch := omega) only [↓reduceIte, wlet, Option.bind_some, true_and, and_true, not_true_eq_false, not_false_eq_true, reduceCtorEq, n0_, n1_, n2_, n3_, n4_, n5_, n6_, n7_, n8_, n9_, n10_, n12_, n16_, n18_, n20_, n21_, n22_, n24_, n25_, n26_, n27_, n28_, n29_, n30_, n31_, n32_, n40_, n41_, n42_, n43_, n45_, n48_, n54_, n57_, n58_, n59_, n60_, n61_, n63_, n96_, n97_, n99_, n100_, n122_, n126_, n200_, n255_, n375_, n400_, n1000_, n2000_, n9999_, n5764801_, n1000000_, n3000_, m1, m2, le_t, le_f, lt_t, lt_f, eq_t, eq_f, no_lt, no_le, le_no, lt_no, eq_no, no_eq, add_no, wib_t, clamp, nI_add, pk_mul, pk_sub, nor_, nand_, ndif_, shl_, sh1_, shr_, tbn, tb0, tb1, les_t, les_f, pk_div, rem_, remv, and31, wu1, wuc, wui, wu2, ws1, wsc, ws2, wv1, n11_, n13_, n14_, n15_, n17_, n19_, n23_, n56_, n64_, fX10_ask_l32])
    (N := 3000) (by omega) (a0 := a0) (v0 := (a0.1, a0.2, nI 1, h)) ⟨h, rfl, fr_rf⟩
  rw [gF_nest] at eg
  exact ⟨g, by rw [he, eg], fg⟩
theorem r_ask (hx : MX h L S) {x i : Nat} (hx6 : x < 64) (hi : i < gns L) (a0 : Int32 × Int32) : ∃ g, wit (fun v : (Int32 × Int32 × Int32 × wSt) => fX11_ask_l32 v.2.2.2 (nI i) (nI x) v.1 v.2.1 v.2.2.1) 3000 (a0.1, a0.2, nI 10, h) = some ((gF (gAskSt L S x i) 90 a0).2, g) ∧ fr sr h g := by
  obtain ⟨e, he, g, eg, fg⟩ := wit_for (b := fun v : (Int32 × Int32 × Int32 × wSt) => fX11_ask_l32 v.2.2.2 (nI i) (nI x) v.1 v.2.1 v.2.2.1) (gAskSt L S x i) 90
    (fun m a v => ∃ g, v = (a.1, a.2, nI (m + 10), g) ∧ fr sr h g) (fun a e => ∃ g, e = (a.2, g) ∧ fr sr h g)
    (by
      rintro m a v hm ⟨g, rfl, fg⟩
      obtain ⟨g2, e2, f2⟩ := r_many (MX_sr hx fg) (x := x) hx6 hi hm a.1 a.2
      have hbt := r_bits g2 (x := x) (by omega)
      refine ⟨((gAskSt L S x i m a).1, (gAskSt L S x i m a).2, nI (m + 1 + 10), g2), ?_, g2, rfl, fr_tr fg f2⟩
      unfold gAskSt
      revert e2
      generalize gMany L S x (m / 10 + 1) (m % 10) i = n
      intro e2
      have hb : fX11_ask_l32 g (nI i) (nI x) a.1 a.2 (nI (m + 10)) = (if wmx (nI n) (nI (gBits x) - nI n) < a.1 then fX11_ask_b139_32 g2 (nI i) (nI x) (wmx (nI n) (nI (gBits x) - nI n)) (nI (m + 10)) (nI (m + 10)) else fX11_ask_b139_32 g2 (nI i) (nI x) a.1 a.2 (nI (m + 10))) := by
        unfold fX11_ask_l32
        rw [if_neg (by rw [n100_]; exact nI_ge (by omega) (by omega)), n0_, e2, Option.bind_some, hbt]
        rfl
      show fX11_ask_l32 g (nI i) (nI x) a.1 a.2 (nI (m + 10)) = _
      rw [hb]
      by_cases hq : a.1 ≤ wmx (nI n) (nI (gBits x) - nI n)
      · rw [if_pos hq, if_neg (Int32.not_lt.mpr hq), fX11_ask_b139_32, n1_, nI_add, show m + 10 + 1 = m + 1 + 10 by omega]
      · rw [if_neg hq, if_pos (Int32.not_le.mp hq), fX11_ask_b139_32, n1_, nI_add, show m + 10 + 1 = m + 1 + 10 by omega])
    (by
      rintro a v ⟨g, rfl, fg⟩
      refine ⟨_, ?_, g, rfl, fg⟩
      simp (disch := omega) only [↓reduceIte, wlet, Option.bind_some, true_and, and_true, not_true_eq_false, not_false_eq_true, reduceCtorEq, n0_, n1_, n2_, n3_, n4_, n5_, n6_, n7_, n8_, n9_, n10_, n12_, n16_, n18_, n20_, n21_, n22_, n24_, n25_, n26_, n27_, n28_, n29_, n30_, n31_, n32_, n40_, n41_, n42_, n43_, n45_, n48_, n54_, n57_, n58_, n59_, n60_, n61_, n63_, n96_, n97_, n99_, n100_, n122_, n126_, n200_, n255_, n375_, n400_, n1000_, n2000_, n9999_, n5764801_, n1000000_, n3000_, m1, m2, le_t, le_f, lt_t, lt_f, eq_t, eq_f, no_lt, no_le, le_no, lt_no, eq_no, no_eq, add_no, wib_t, clamp, nI_add, pk_mul, pk_sub, nor_, nand_, ndif_, shl_, sh1_, shr_, tbn, tb0, tb1, les_t, les_f, pk_div, rem_, remv, and31, wu1, wuc, wui, wu2, ws1, wsc, ws2, wv1, n11_, n13_, n14_, n15_, n17_, n19_, n23_, n56_, n64_, fX11_ask_l32])
    (N := 3000) (by omega) (a0 := a0) (v0 := (a0.1, a0.2, nI 10, h)) ⟨h, rfl, fr_rf⟩
  exact ⟨g, by rw [he, eg], fg⟩
theorem op_ask (hI : Inv k h) (x0 : Int32) : ∃ r h1 h2, fX10_ask h x0 = some (r, h1) ∧ fX11_ask h1 x0 = some (r, h2) ∧ Inv k h2 := by
  obtain ⟨L, S, u, M, Y, N, T, W, C, R⟩ := hI
  have a1 := c_hasSkin W.1 C.1 x0
  cases e : gIx (gns L) x0 with
  | none =>
    have R0 := MI_0 R (nI 0)
    have a2 := r_isSkin W.1 R0.1 x0
    rw [e] at a1 a2
    refine ⟨wno, h, _, ?_, ?_, Inv_q0 W C R fr_rf⟩
    · simp (disch := omega) only [↓reduceIte, wlet, Option.bind_some, true_and, and_true, not_true_eq_false, not_false_eq_true, reduceCtorEq, n0_, n1_, n2_, n3_, n4_, n5_, n6_, n7_, n8_, n9_, n10_, n12_, n16_, n18_, n20_, n21_, n22_, n24_, n25_, n26_, n27_, n28_, n29_, n30_, n31_, n32_, n40_, n41_, n42_, n43_, n45_, n48_, n54_, n57_, n58_, n59_, n60_, n61_, n63_, n96_, n97_, n99_, n100_, n122_, n126_, n200_, n255_, n375_, n400_, n1000_, n2000_, n9999_, n5764801_, n1000000_, n3000_, m1, m2, le_t, le_f, lt_t, lt_f, eq_t, eq_f, no_lt, no_le, le_no, lt_no, eq_no, no_eq, add_no, wib_t, clamp, nI_add, pk_mul, pk_sub, nor_, nand_, ndif_, shl_, sh1_, shr_, tbn, tb0, tb1, les_t, les_f, pk_div, rem_, remv, and31, wu1, wuc, wui, wu2, ws1, wsc, ws2, wv1, n11_, n13_, n14_, n15_, n17_, n19_, n23_, n56_, n64_, fX10_ask, a1, Option.isSome_none, Option.isSome_some, Bool.false_eq_true]
    · simp (disch := omega) only [↓reduceIte, wlet, Option.bind_some, true_and, and_true, not_true_eq_false, not_false_eq_true, reduceCtorEq, n0_, n1_, n2_, n3_, n4_, n5_, n6_, n7_, n8_, n9_, n10_, n12_, n16_, n18_, n20_, n21_, n22_, n24_, n25_, n26_, n27_, n28_, n29_, n30_, n31_, n32_, n40_, n41_, n42_, n43_, n45_, n48_, n54_, n57_, n58_, n59_, n60_, n61_, n63_, n96_, n97_, n99_, n100_, n122_, n126_, n200_, n255_, n375_, n400_, n1000_, n2000_, n9999_, n5764801_, n1000000_, n3000_, m1, m2, le_t, le_f, lt_t, lt_f, eq_t, eq_f, no_lt, no_le, le_no, lt_no, eq_no, no_eq, add_no, wib_t, clamp, nI_add, pk_mul, pk_sub, nor_, nand_, ndif_, shl_, sh1_, shr_, tbn, tb0, tb1, les_t, les_f, pk_div, rem_, remv, and31, wu1, wuc, wui, wu2, ws1, wsc, ws2, wv1, n11_, n13_, n14_, n15_, n17_, n19_, n23_, n56_, n64_, fX11_ask, a2, Option.isSome_none, Option.isSome_some, Bool.false_eq_true]
  | some i =>
    obtain ⟨rfl, hi⟩ := gIx_some e
    rw [e] at a1
    have hE := W.2.2.2.2.2.2.1
    have hl := gWho_lt (S := S) (N := N) W.1
    obtain ⟨g1, e1, f1⟩ := c_who (W_CX W C) C.2.2.2.2.2.1 hE
    have hbc := bits_6 g1 hl
    obtain ⟨g2, e2, f2⟩ := c_ask (CX_fr (W_CX W C) f1) hl hi (nI (gBits (gWho L S N)), wno)
    have e2 : wit (fun v : (Int32 × Int32 × Int32 × wSt) => fX10_ask_l32 v.2.2.2 (nI i) (nI (gWho L S N)) (nI (gBits (gWho L S N))) v.1 v.2.1 v.2.2.1) 3000 (nI (gBits (gWho L S N)), wno, nI 1, g1) = some ((gF (gAskSt L S (gWho L S N) i) 90 (nI (gBits (gWho L S N)), wno)).2, g2) := e2
    have f12 := fr_mono (fr_tr f1 f2) (fun c => sq_cs)
    have R1 := MI_0 (MI_cls R (fr_mono f12 (fun c => cs_cls))) (nI 0)
    have a2 := r_isSkin W.1 R1.1 (nI i)
    rw [e] at a2
    have R2 := MI_0 R1 (nI 0)
    obtain ⟨g3, e3, f3⟩ := r_who (W_MX W R2) R2.2.2.2.2.2.1 hE
    have hbm := r_bits g3 (x := gWho L S N) (by omega)
    obtain ⟨g4, e4, f4⟩ := r_ask (MX_sr (W_MX W R2) f3) hl hi (nI (gBits (gWho L S N)), wno)
    have e4 : wit (fun v : (Int32 × Int32 × Int32 × wSt) => fX11_ask_l32 v.2.2.2 (nI i) (nI (gWho L S N)) v.1 v.2.1 v.2.2.1) 3000 (nI (gBits (gWho L S N)), wno, nI 10, g3) = some ((gF (gAskSt L S (gWho L S N) i) 90 (nI (gBits (gWho L S N)), wno)).2, g4) := e4
    have f34 := fr_tr f3 f4
    have hfin : Inv k g4 := by
      have e188 : g4.1 188 = (wuI (wuI g2 188 0 (nI 0)) 188 0 (nI 0)).1 188 := fr_at f34 (by unfold sr; omega)
      refine Inv_q W C R f12 (fr_tr (fr_wuI (Or.inl rfl)) (fr_mono f34 (fun c => sr_rs))) ?_ ?_ (MS_fr R2.2.1 f34 (by unfold sr; omega))
      · rw [e188, wui (by omega), wui (by omega)]
      · rw [e188, wui (by omega), wui (by omega)]
    refine ⟨(gF (gAskSt L S (gWho L S N) i) 90 (nI (gBits (gWho L S N)), wno)).2, g2, g4, ?_, ?_, hfin⟩
    · simp (disch := omega) only [↓reduceIte, wlet, Option.bind_some, true_and, and_true, not_true_eq_false, not_false_eq_true, reduceCtorEq, n0_, n1_, n2_, n3_, n4_, n5_, n6_, n7_, n8_, n9_, n10_, n12_, n16_, n18_, n20_, n21_, n22_, n24_, n25_, n26_, n27_, n28_, n29_, n30_, n31_, n32_, n40_, n41_, n42_, n43_, n45_, n48_, n54_, n57_, n58_, n59_, n60_, n61_, n63_, n96_, n97_, n99_, n100_, n122_, n126_, n200_, n255_, n375_, n400_, n1000_, n2000_, n9999_, n5764801_, n1000000_, n3000_, m1, m2, le_t, le_f, lt_t, lt_f, eq_t, eq_f, no_lt, no_le, le_no, lt_no, eq_no, no_eq, add_no, wib_t, clamp, nI_add, pk_mul, pk_sub, nor_, nand_, ndif_, shl_, sh1_, shr_, tbn, tb0, tb1, les_t, les_f, pk_div, rem_, remv, and31, wu1, wuc, wui, wu2, ws1, wsc, ws2, wv1, n11_, n13_, n14_, n15_, n17_, n19_, n23_, n56_, n64_, fX10_ask, a1, e1, hbc, e2, Option.isSome_none, Option.isSome_some, Bool.false_eq_true]
    · simp (disch := omega) only [↓reduceIte, wlet, Option.bind_some, true_and, and_true, not_true_eq_false, not_false_eq_true, reduceCtorEq, n0_, n1_, n2_, n3_, n4_, n5_, n6_, n7_, n8_, n9_, n10_, n12_, n16_, n18_, n20_, n21_, n22_, n24_, n25_, n26_, n27_, n28_, n29_, n30_, n31_, n32_, n40_, n41_, n42_, n43_, n45_, n48_, n54_, n57_, n58_, n59_, n60_, n61_, n63_, n96_, n97_, n99_, n100_, n122_, n126_, n200_, n255_, n375_, n400_, n1000_, n2000_, n9999_, n5764801_, n1000000_, n3000_, m1, m2, le_t, le_f, lt_t, lt_f, eq_t, eq_f, no_lt, no_le, le_no, lt_no, eq_no, no_eq, add_no, wib_t, clamp, nI_add, pk_mul, pk_sub, nor_, nand_, ndif_, shl_, sh1_, shr_, tbn, tb0, tb1, les_t, les_f, pk_div, rem_, remv, and31, wu1, wuc, wui, wu2, ws1, wsc, ws2, wv1, n11_, n13_, n14_, n15_, n17_, n19_, n23_, n56_, n64_, fX11_ask, fX11_who, a2, e3, hbm, e4, Option.isSome_none, Option.isSome_some, Bool.false_eq_true]
end G44

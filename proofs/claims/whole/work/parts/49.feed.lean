/-! FEEDING THE TAPE -/
def gFd (T : gTp) (b : Nat) : gTp := if T.1 < 1000 ∧ (b = 10 ∨ (32 ≤ b ∧ b ≤ 126)) then (T.1 + 1, fun i => if i = T.1 then b else T.2 i) else T
def gBy (n j : Nat) : Nat := n / 2 ^ (56 - 8 * j) % 256
def gFd8 (n : Nat) (T : gTp) : gTp := gF (fun j T => gFd T (gBy n j)) 8 T
def fsh (j : Nat) : Int32 := if j < 8 then nI (56 - 8 * j) else -8
theorem fsh_s : ∀ j, j < 8 → nI (56 - 8 * j) + (-nI 8) = fsh (j + 1) := by decide +kernel
theorem fsh_8 : fsh 8 < 0 := by decide
theorem nar_by : ∀ b, b < 127 → vp_nar .byte (nI b).toInt8.toInt32 = nI b := by decide +kernel
theorem and255 (a : Nat) : a &&& 255 = a % 256 := by
  rw [show (255 : Nat) = 2 ^ 8 - 1 from rfl, Nat.and_two_pow_sub_one_eq_mod]
theorem and7 (a : Nat) : a &&& 7 = a % 8 := by
  rw [show (7 : Nat) = 2 ^ 3 - 1 from rfl, Nat.and_two_pow_sub_one_eq_mod]
theorem l_255 : (255 : Int64) = lN (2 ^ 8 - 1) := rfl
theorem by_c {n j : Nat} (hn : n < 2 ^ 64) (hj : j < 8) : ((((lN n).toUInt64 >>> ((nI (56 - 8 * j)).toInt64.toUInt64 &&& Int64.toUInt64 63)).toInt64).toInt32) &&& nI 255 = nI (gBy n j) := by
  rw [wb_shr hn (by omega), lN_i, nand_, and255]
  rfl
theorem by_r {n j : Nat} (hn : n < 2 ^ 64) (hj : j < 8) : ((((lN n).toUInt64 >>> ((nI (56 - 8 * j)).toInt64.toUInt64 &&& Int64.toUInt64 63)).toInt64) &&& 255).toInt32 = nI (gBy n j) := by
  rw [wb_shr hn (by omega), l_255, wb_mask (Nat.lt_of_le_of_lt (Nat.div_le_self _ _) hn) (by omega), lN_i]
  rfl
theorem gFd_W {T : gTp} (hT : WT T) (b : Nat) : WT (gFd T b) := by
  unfold gFd
  split
  · rename_i q
    refine ⟨by show T.1 + 1 ≤ 1000; omega, fun i hi => ?_⟩
    have hi : i < T.1 + 1 := hi
    show (if i = T.1 then b else T.2 i) = 10 ∨ _ ≤ (if i = T.1 then b else T.2 i) ∧ (if i = T.1 then b else T.2 i) ≤ _
    by_cases e : i = T.1
    · rw [if_pos e]; exact q.2
    · rw [if_neg e]; exact hT.2 i (by omega)
  · exact hT
section G49
variable {h : wSt} {k : Nat} {T : gTp}
theorem TC_put {b : Nat} (hC : TC h T) : TC (wuI (wuI h 2 T.1 (nI b)) 1 1 (nI (T.1 + 1))) (T.1 + 1, fun i => if i = T.1 then b else T.2 i) := by
  refine ⟨wu1, fun i hi => ?_⟩
  have hi : i < T.1 + 1 := hi
  show _ = nI (if i = T.1 then b else T.2 i)
  rw [wuc (by omega), wuS]
  by_cases e : i = T.1
  · rw [if_pos e, if_pos e]
  · rw [if_neg e, if_neg e]; exact hC.2 i (by omega)
theorem TM_put {b : Nat} (hC : TM h T) : TM (wuI (wuI h 189 T.1 (nI b)) 188 1 (nI (T.1 + 1))) (T.1 + 1, fun i => if i = T.1 then b else T.2 i) := by
  refine ⟨wu1, fun i hi => ?_⟩
  have hi : i < T.1 + 1 := hi
  show _ = nI (if i = T.1 then b else T.2 i)
  rw [wuc (by omega), wuS]
  by_cases e : i = T.1
  · rw [if_pos e, if_pos e]
  · rw [if_neg e, if_neg e]; exact hC.2 i (by omega)
def s12 (c : Nat) : Prop := c = 1 ∨ c = 2
theorem c_add (hC : TC h T) (hT : WT T) {n : Nat} (hn : n < 2 ^ 64) : ∃ g, fX7_addBytes h (lN n) = some g ∧ TC g (gFd8 n T) ∧ WT (gFd8 n T) ∧ fr s12 h g := by
  obtain ⟨e, he, e1, e2, e3⟩ := wit_for (b := fun v : (Int32 × wSt) => fX7_addBytes_l3 v.2 (lN n) v.1) (fun j T => gFd T (gBy n j)) 8
    (fun j T2 v => ∃ g, v = (fsh j, g) ∧ TC g T2 ∧ WT T2 ∧ fr s12 h g) (fun T2 g => TC g T2 ∧ WT T2 ∧ fr s12 h g)
    (by
      rintro j T2 v hj ⟨g, rfl, tc, wt, fg⟩
      have es : fsh j = nI (56 - 8 * j) := by unfold fsh; rw [if_pos hj]
      have eb := by_c hn hj
      have en := fsh_s j hj
      have t0 := tc.1
      have w0 := wt.1
      have hb : gBy n j < 256 := Nat.mod_lt _ (by omega)
      have wt2 := gFd_W wt (gBy n j)
      rw [es]
      unfold gFd at wt2 ⊢
      by_cases h0 : T2.1 < 1000
      · by_cases h1 : gBy n j = 10
        · have hc : T2.1 < 1000 ∧ (gBy n j = 10 ∨ (32 ≤ gBy n j ∧ gBy n j ≤ 126)) := ⟨h0, Or.inl h1⟩
          have nb := nar_by (gBy n j) (by omega)
          rw [if_pos hc] at wt2 ⊢
          refine ⟨(fsh (j + 1), wuI (wuI g 2 T2.1 (nI (gBy n j))) 1 1 (nI (T2.1 + 1))), ?_, _, rfl, TC_put tc, wt2, fr_tr fg (fr_tr (fr_wuI (Or.inr rfl)) (fr_wuI (Or.inl rfl)))⟩
          simp (disch := omega) only [↓reduceIte, wlet, Option.bind_some, true_and, and_true, not_true_eq_false, not_false_eq_true, reduceCtorEq, n0_, n1_, n2_, n3_, n4_, n5_, n6_, n7_, n8_, n9_, n10_, n12_, n16_, n18_, n20_, n21_, n22_, n24_, n25_, n26_, n27_, n28_, n29_, n30_, n31_, n32_, n40_, n41_, n42_, n43_, n45_, n48_, n54_, n57_, n58_, n59_, n60_, n61_, n63_, n96_, n97_, n99_, n100_, n122_, n126_, n200_, n255_, n375_, n400_, n1000_, n2000_, n9999_, n5764801_, n1000000_, n3000_, m1, m2, le_t, le_f, lt_t, lt_f, eq_t, eq_f, no_lt, no_le, le_no, lt_no, eq_no, no_eq, add_no, wib_t, clamp, nI_add, pk_mul, pk_sub, nor_, nand_, ndif_, shl_, sh1_, shr_, tbn, tb0, tb1, les_t, les_f, pk_div, rem_, remv, and31, wu1, wuc, wui, wu2, ws1, wsc, ws2, wv1, n11_, n13_, n14_, n15_, n17_, n19_, n23_, n56_, n64_, fX7_addBytes_l3, fX7_addBytes_b48_3, fX7_addBytes_b70_3, t0, eb, nb, en]
        · by_cases h2 : 32 ≤ gBy n j
          · by_cases h3 : gBy n j ≤ 126
            · have hc : T2.1 < 1000 ∧ (gBy n j = 10 ∨ (32 ≤ gBy n j ∧ gBy n j ≤ 126)) := ⟨h0, Or.inr ⟨h2, h3⟩⟩
              have nb := nar_by (gBy n j) (by omega)
              rw [if_pos hc] at wt2 ⊢
              refine ⟨(fsh (j + 1), wuI (wuI g 2 T2.1 (nI (gBy n j))) 1 1 (nI (T2.1 + 1))), ?_, _, rfl, TC_put tc, wt2, fr_tr fg (fr_tr (fr_wuI (Or.inr rfl)) (fr_wuI (Or.inl rfl)))⟩
              simp (disch := omega) only [↓reduceIte, wlet, Option.bind_some, true_and, and_true, not_true_eq_false, not_false_eq_true, reduceCtorEq, n0_, n1_, n2_, n3_, n4_, n5_, n6_, n7_, n8_, n9_, n10_, n12_, n16_, n18_, n20_, n21_, n22_, n24_, n25_, n26_, n27_, n28_, n29_, n30_, n31_, n32_, n40_, n41_, n42_, n43_, n45_, n48_, n54_, n57_, n58_, n59_, n60_, n61_, n63_, n96_, n97_, n99_, n100_, n122_, n126_, n200_, n255_, n375_, n400_, n1000_, n2000_, n9999_, n5764801_, n1000000_, n3000_, m1, m2, le_t, le_f, lt_t, lt_f, eq_t, eq_f, no_lt, no_le, le_no, lt_no, eq_no, no_eq, add_no, wib_t, clamp, nI_add, pk_mul, pk_sub, nor_, nand_, ndif_, shl_, sh1_, shr_, tbn, tb0, tb1, les_t, les_f, pk_div, rem_, remv, and31, wu1, wuc, wui, wu2, ws1, wsc, ws2, wv1, n11_, n13_, n14_, n15_, n17_, n19_, n23_, n56_, n64_, fX7_addBytes_l3, fX7_addBytes_b48_3, fX7_addBytes_b70_3, t0, eb, nb, en]
            · rw [if_neg (by omega)]
              refine ⟨(fsh (j + 1), g), ?_, g, rfl, tc, wt, fg⟩
              simp (disch := omega) only [↓reduceIte, wlet, Option.bind_some, true_and, and_true, not_true_eq_false, not_false_eq_true, reduceCtorEq, n0_, n1_, n2_, n3_, n4_, n5_, n6_, n7_, n8_, n9_, n10_, n12_, n16_, n18_, n20_, n21_, n22_, n24_, n25_, n26_, n27_, n28_, n29_, n30_, n31_, n32_, n40_, n41_, n42_, n43_, n45_, n48_, n54_, n57_, n58_, n59_, n60_, n61_, n63_, n96_, n97_, n99_, n100_, n122_, n126_, n200_, n255_, n375_, n400_, n1000_, n2000_, n9999_, n5764801_, n1000000_, n3000_, m1, m2, le_t, le_f, lt_t, lt_f, eq_t, eq_f, no_lt, no_le, le_no, lt_no, eq_no, no_eq, add_no, wib_t, clamp, nI_add, pk_mul, pk_sub, nor_, nand_, ndif_, shl_, sh1_, shr_, tbn, tb0, tb1, les_t, les_f, pk_div, rem_, remv, and31, wu1, wuc, wui, wu2, ws1, wsc, ws2, wv1, n11_, n13_, n14_, n15_, n17_, n19_, n23_, n56_, n64_, fX7_addBytes_l3, fX7_addBytes_b70_3, t0, eb, en]
          · rw [if_neg (by omega)]
            refine ⟨(fsh (j + 1), g), ?_, g, rfl, tc, wt, fg⟩
            simp (disch := omega) only [↓reduceIte, wlet, Option.bind_some, true_and, and_true, not_true_eq_false, not_false_eq_true, reduceCtorEq, n0_, n1_, n2_, n3_, n4_, n5_, n6_, n7_, n8_, n9_, n10_, n12_, n16_, n18_, n20_, n21_, n22_, n24_, n25_, n26_, n27_, n28_, n29_, n30_, n31_, n32_, n40_, n41_, n42_, n43_, n45_, n48_, n54_, n57_, n58_, n59_, n60_, n61_, n63_, n96_, n97_, n99_, n100_, n122_, n126_, n200_, n255_, n375_, n400_, n1000_, n2000_, n9999_, n5764801_, n1000000_, n3000_, m1, m2, le_t, le_f, lt_t, lt_f, eq_t, eq_f, no_lt, no_le, le_no, lt_no, eq_no, no_eq, add_no, wib_t, clamp, nI_add, pk_mul, pk_sub, nor_, nand_, ndif_, shl_, sh1_, shr_, tbn, tb0, tb1, les_t, les_f, pk_div, rem_, remv, and31, wu1, wuc, wui, wu2, ws1, wsc, ws2, wv1, n11_, n13_, n14_, n15_, n17_, n19_, n23_, n56_, n64_, fX7_addBytes_l3, fX7_addBytes_b70_3, t0, eb, en]
      · rw [if_neg (by omega)]
        refine ⟨(fsh (j + 1), g), ?_, g, rfl, tc, wt, fg⟩
        simp (disch := omega) only [↓reduceIte, wlet, Option.bind_some, true_and, and_true, not_true_eq_false, not_false_eq_true, reduceCtorEq, n0_, n1_, n2_, n3_, n4_, n5_, n6_, n7_, n8_, n9_, n10_, n12_, n16_, n18_, n20_, n21_, n22_, n24_, n25_, n26_, n27_, n28_, n29_, n30_, n31_, n32_, n40_, n41_, n42_, n43_, n45_, n48_, n54_, n57_, n58_, n59_, n60_, n61_, n63_, n96_, n97_, n99_, n100_, n122_, n126_, n200_, n255_, n375_, n400_, n1000_, n2000_, n9999_, n5764801_, n1000000_, n3000_, m1, m2, le_t, le_f, lt_t, lt_f, eq_t, eq_f, no_lt, no_le, le_no, lt_no, eq_no, no_eq, add_no, wib_t, clamp, nI_add, pk_mul, pk_sub, nor_, nand_, ndif_, shl_, sh1_, shr_, tbn, tb0, tb1, les_t, les_f, pk_div, rem_, remv, and31, wu1, wuc, wui, wu2, ws1, wsc, ws2, wv1, n11_, n13_, n14_, n15_, n17_, n19_, n23_, n56_, n64_, fX7_addBytes_l3, fX7_addBytes_b70_3, t0, eb, en])
    (by
      rintro T2 v ⟨g, rfl, tc, wt, fg⟩
      refine ⟨g, ?_, tc, wt, fg⟩
      show fX7_addBytes_l3 g (lN n) (fsh 8) = _
      unfold fX7_addBytes_l3
      rw [if_pos fsh_8])
    (N := 3000) (by omega) (a0 := T) (v0 := (nI 56, h)) ⟨h, rfl, hC, hT, fr_rf⟩
  refine ⟨e, ?_, e1, e2, e3⟩
  simp (disch := omega) only [↓reduceIte, wlet, Option.bind_some, true_and, and_true, not_true_eq_false, not_false_eq_true, reduceCtorEq, n0_, n1_, n2_, n3_, n4_, n5_, n6_, n7_, n8_, n9_, n10_, n12_, n16_, n18_, n20_, n21_, n22_, n24_, n25_, n26_, n27_, n28_, n29_, n30_, n31_, n32_, n40_, n41_, n42_, n43_, n45_, n48_, n54_, n57_, n58_, n59_, n60_, n61_, n63_, n96_, n97_, n99_, n100_, n122_, n126_, n200_, n255_, n375_, n400_, n1000_, n2000_, n9999_, n5764801_, n1000000_, n3000_, m1, m2, le_t, le_f, lt_t, lt_f, eq_t, eq_f, no_lt, no_le, le_no, lt_no, eq_no, no_eq, add_no, wib_t, clamp, nI_add, pk_mul, pk_sub, nor_, nand_, ndif_, shl_, sh1_, shr_, tbn, tb0, tb1, les_t, les_f, pk_div, rem_, remv, and31, wu1, wuc, wui, wu2, ws1, wsc, ws2, wv1, n11_, n13_, n14_, n15_, n17_, n19_, n23_, n56_, n64_, fX7_addBytes, he]
def gW3 (a b c i : Nat) : Nat := if i < 8 then a else if i < 16 then b else c
theorem r_feed (hC : TM h T) (hT : WT T) {a b c : Nat} (ha : a < 2 ^ 64) (hb : b < 2 ^ 64) (hc : c < 2 ^ 64) : ∃ g, wit (fun v : (Int32 × wSt) => fX11_feed_l8 v.2 (lN a) (lN b) (lN c) v.1) 3000 (nI 0, h) = some g ∧ TM g (gF (fun i T => gFd T (gBy (gW3 a b c i) (i % 8))) 24 T) ∧ WT (gF (fun i T => gFd T (gBy (gW3 a b c i) (i % 8))) 24 T) ∧ (∀ j, j ≠ 1 → g.1 188 j = h.1 188 j) ∧ fr (fun c => c = 188 ∨ c = 189) h g := by
  obtain ⟨e, he, e1, e2, e3, e4⟩ := wit_for (b := fun v : (Int32 × wSt) => fX11_feed_l8 v.2 (lN a) (lN b) (lN c) v.1) (fun i T => gFd T (gBy (gW3 a b c i) (i % 8))) 24
    (fun i T2 v => ∃ g, v = (nI i, g) ∧ TM g T2 ∧ WT T2 ∧ (∀ j, j ≠ 1 → g.1 188 j = h.1 188 j) ∧ fr (fun c => c = 188 ∨ c = 189) h g) (fun T2 g => TM g T2 ∧ WT T2 ∧ (∀ j, j ≠ 1 → g.1 188 j = h.1 188 j) ∧ fr (fun c => c = 188 ∨ c = 189) h g)
    (by
      rintro i T2 v hi ⟨g, rfl, tc, wt, gj, fg⟩
      have hw : gW3 a b c i < 2 ^ 64 := by
        unfold gW3
        split
        · exact ha
        · split
          · exact hb
          · exact hc
      have h7 : i % 8 < 8 := Nat.mod_lt _ (by omega)
      have hsh : 56 - nI 8 * (nI i &&& nI 7) = nI (56 - 8 * (i % 8)) := by
        rw [nand_, and7, pk_mul, n56_, pk_sub (by omega)]
      have eb := by_r hw h7
      have hby : gBy (gW3 a b c i) (i % 8) < 256 := Nat.mod_lt _ (by omega)
      have t0 := tc.1
      have w0 := wt.1
      have wt2 := gFd_W wt (gBy (gW3 a b c i) (i % 8))
      have key : fX11_feed_l8 g (lN a) (lN b) (lN c) (nI i) = fX11_feed_b39_8 g (lN a) (lN b) (lN c) (nI i) (lN (gW3 a b c i)) := by
        unfold gW3
        by_cases q1 : i < 8
        · rw [if_pos q1]
          simp (disch := omega) only [↓reduceIte, wlet, Option.bind_some, true_and, and_true, not_true_eq_false, not_false_eq_true, reduceCtorEq, n0_, n1_, n2_, n3_, n4_, n5_, n6_, n7_, n8_, n9_, n10_, n12_, n16_, n18_, n20_, n21_, n22_, n24_, n25_, n26_, n27_, n28_, n29_, n30_, n31_, n32_, n40_, n41_, n42_, n43_, n45_, n48_, n54_, n57_, n58_, n59_, n60_, n61_, n63_, n96_, n97_, n99_, n100_, n122_, n126_, n200_, n255_, n375_, n400_, n1000_, n2000_, n9999_, n5764801_, n1000000_, n3000_, m1, m2, le_t, le_f, lt_t, lt_f, eq_t, eq_f, no_lt, no_le, le_no, lt_no, eq_no, no_eq, add_no, wib_t, clamp, nI_add, pk_mul, pk_sub, nor_, nand_, ndif_, shl_, sh1_, shr_, tbn, tb0, tb1, les_t, les_f, pk_div, rem_, remv, and31, wu1, wuc, wui, wu2, ws1, wsc, ws2, wv1, n11_, n13_, n14_, n15_, n17_, n19_, n23_, n56_, n64_, fX11_feed_l8]
        · rw [if_neg q1]
          by_cases q2 : i < 16
          · rw [if_pos q2]
            simp (disch := omega) only [↓reduceIte, wlet, Option.bind_some, true_and, and_true, not_true_eq_false, not_false_eq_true, reduceCtorEq, n0_, n1_, n2_, n3_, n4_, n5_, n6_, n7_, n8_, n9_, n10_, n12_, n16_, n18_, n20_, n21_, n22_, n24_, n25_, n26_, n27_, n28_, n29_, n30_, n31_, n32_, n40_, n41_, n42_, n43_, n45_, n48_, n54_, n57_, n58_, n59_, n60_, n61_, n63_, n96_, n97_, n99_, n100_, n122_, n126_, n200_, n255_, n375_, n400_, n1000_, n2000_, n9999_, n5764801_, n1000000_, n3000_, m1, m2, le_t, le_f, lt_t, lt_f, eq_t, eq_f, no_lt, no_le, le_no, lt_no, eq_no, no_eq, add_no, wib_t, clamp, nI_add, pk_mul, pk_sub, nor_, nand_, ndif_, shl_, sh1_, shr_, tbn, tb0, tb1, les_t, les_f, pk_div, rem_, remv, and31, wu1, wuc, wui, wu2, ws1, wsc, ws2, wv1, n11_, n13_, n14_, n15_, n17_, n19_, n23_, n56_, n64_, fX11_feed_l8]
          · rw [if_neg q2]
            simp (disch := omega) only [↓reduceIte, wlet, Option.bind_some, true_and, and_true, not_true_eq_false, not_false_eq_true, reduceCtorEq, n0_, n1_, n2_, n3_, n4_, n5_, n6_, n7_, n8_, n9_, n10_, n12_, n16_, n18_, n20_, n21_, n22_, n24_, n25_, n26_, n27_, n28_, n29_, n30_, n31_, n32_, n40_, n41_, n42_, n43_, n45_, n48_, n54_, n57_, n58_, n59_, n60_, n61_, n63_, n96_, n97_, n99_, n100_, n122_, n126_, n200_, n255_, n375_, n400_, n1000_, n2000_, n9999_, n5764801_, n1000000_, n3000_, m1, m2, le_t, le_f, lt_t, lt_f, eq_t, eq_f, no_lt, no_le, le_no, lt_no, eq_no, no_eq, add_no, wib_t, clamp, nI_add, pk_mul, pk_sub, nor_, nand_, ndif_, shl_, sh1_, shr_, tbn, tb0, tb1, les_t, les_f, pk_div, rem_, remv, and31, wu1, wuc, wui, wu2, ws1, wsc, ws2, wv1, n11_, n13_, n14_, n15_, n17_, n19_, n23_, n56_, n64_, fX11_feed_l8]
      have key2 : fX11_feed_b39_8 g (lN a) (lN b) (lN c) (nI i) (lN (gW3 a b c i)) = (if 1000 ≤ (g.1 188 1) then fX11_feed_b114_8 g (lN a) (lN b) (lN c) (nI i) else if nI (gBy (gW3 a b c i) (i % 8)) = 10 then fX11_feed_b93_8 g (lN a) (lN b) (lN c) (nI i) (nI (gBy (gW3 a b c i) (i % 8))) else if nI (gBy (gW3 a b c i) (i % 8)) < 32 then fX11_feed_b114_8 g (lN a) (lN b) (lN c) (nI i) else if 126 < nI (gBy (gW3 a b c i) (i % 8)) then fX11_feed_b114_8 g (lN a) (lN b) (lN c) (nI i) else fX11_feed_b93_8 g (lN a) (lN b) (lN c) (nI i) (nI (gBy (gW3 a b c i) (i % 8)))) := by
        unfold fX11_feed_b39_8
        rw [n8_, n7_, hsh, eb]
        rfl
      show ∃ v2, fX11_feed_l8 g (lN a) (lN b) (lN c) (nI i) = some (.inl v2) ∧ _
      rw [key, key2]
      have gj2 : ∀ j, j ≠ 1 → (wuI (wuI g 189 T2.1 (nI (gBy (gW3 a b c i) (i % 8)))) 188 1 (nI (T2.1 + 1))).1 188 j = h.1 188 j := by
        intro j hj
        rw [wui hj, wuc (by omega)]; exact gj j hj
      unfold gFd at wt2 ⊢
      by_cases h0 : T2.1 < 1000
      · by_cases h1 : gBy (gW3 a b c i) (i % 8) = 10
        · have hc2 : T2.1 < 1000 ∧ (gBy (gW3 a b c i) (i % 8) = 10 ∨ (32 ≤ gBy (gW3 a b c i) (i % 8) ∧ gBy (gW3 a b c i) (i % 8) ≤ 126)) := ⟨h0, Or.inl h1⟩
          rw [if_pos hc2] at wt2 ⊢
          refine ⟨(nI (i + 1), wuI (wuI g 189 T2.1 (nI (gBy (gW3 a b c i) (i % 8)))) 188 1 (nI (T2.1 + 1))), ?_, _, rfl, TM_put tc, wt2, gj2, fr_tr fg (fr_tr (fr_wuI (Or.inr rfl)) (fr_wuI (Or.inl rfl)))⟩
          simp (disch := omega) only [↓reduceIte, wlet, Option.bind_some, true_and, and_true, not_true_eq_false, not_false_eq_true, reduceCtorEq, n0_, n1_, n2_, n3_, n4_, n5_, n6_, n7_, n8_, n9_, n10_, n12_, n16_, n18_, n20_, n21_, n22_, n24_, n25_, n26_, n27_, n28_, n29_, n30_, n31_, n32_, n40_, n41_, n42_, n43_, n45_, n48_, n54_, n57_, n58_, n59_, n60_, n61_, n63_, n96_, n97_, n99_, n100_, n122_, n126_, n200_, n255_, n375_, n400_, n1000_, n2000_, n9999_, n5764801_, n1000000_, n3000_, m1, m2, le_t, le_f, lt_t, lt_f, eq_t, eq_f, no_lt, no_le, le_no, lt_no, eq_no, no_eq, add_no, wib_t, clamp, nI_add, pk_mul, pk_sub, nor_, nand_, ndif_, shl_, sh1_, shr_, tbn, tb0, tb1, les_t, les_f, pk_div, rem_, remv, and31, wu1, wuc, wui, wu2, ws1, wsc, ws2, wv1, n11_, n13_, n14_, n15_, n17_, n19_, n23_, n56_, n64_, fX11_feed_b93_8, fX11_feed_b114_8, t0]
        · by_cases h2 : 32 ≤ gBy (gW3 a b c i) (i % 8)
          · by_cases h3 : gBy (gW3 a b c i) (i % 8) ≤ 126
            · have hc2 : T2.1 < 1000 ∧ (gBy (gW3 a b c i) (i % 8) = 10 ∨ (32 ≤ gBy (gW3 a b c i) (i % 8) ∧ gBy (gW3 a b c i) (i % 8) ≤ 126)) := ⟨h0, Or.inr ⟨h2, h3⟩⟩
              rw [if_pos hc2] at wt2 ⊢
              refine ⟨(nI (i + 1), wuI (wuI g 189 T2.1 (nI (gBy (gW3 a b c i) (i % 8)))) 188 1 (nI (T2.1 + 1))), ?_, _, rfl, TM_put tc, wt2, gj2, fr_tr fg (fr_tr (fr_wuI (Or.inr rfl)) (fr_wuI (Or.inl rfl)))⟩
              simp (disch := omega) only [↓reduceIte, wlet, Option.bind_some, true_and, and_true, not_true_eq_false, not_false_eq_true, reduceCtorEq, n0_, n1_, n2_, n3_, n4_, n5_, n6_, n7_, n8_, n9_, n10_, n12_, n16_, n18_, n20_, n21_, n22_, n24_, n25_, n26_, n27_, n28_, n29_, n30_, n31_, n32_, n40_, n41_, n42_, n43_, n45_, n48_, n54_, n57_, n58_, n59_, n60_, n61_, n63_, n96_, n97_, n99_, n100_, n122_, n126_, n200_, n255_, n375_, n400_, n1000_, n2000_, n9999_, n5764801_, n1000000_, n3000_, m1, m2, le_t, le_f, lt_t, lt_f, eq_t, eq_f, no_lt, no_le, le_no, lt_no, eq_no, no_eq, add_no, wib_t, clamp, nI_add, pk_mul, pk_sub, nor_, nand_, ndif_, shl_, sh1_, shr_, tbn, tb0, tb1, les_t, les_f, pk_div, rem_, remv, and31, wu1, wuc, wui, wu2, ws1, wsc, ws2, wv1, n11_, n13_, n14_, n15_, n17_, n19_, n23_, n56_, n64_, fX11_feed_b93_8, fX11_feed_b114_8, t0]
            · rw [if_neg (show ¬ (T2.1 < 1000 ∧ (gBy (gW3 a b c i) (i % 8) = 10 ∨ (32 ≤ gBy (gW3 a b c i) (i % 8) ∧ gBy (gW3 a b c i) (i % 8) ≤ 126))) by omega)]
              refine ⟨(nI (i + 1), g), ?_, g, rfl, tc, wt, gj, fg⟩
              simp (disch := omega) only [↓reduceIte, wlet, Option.bind_some, true_and, and_true, not_true_eq_false, not_false_eq_true, reduceCtorEq, n0_, n1_, n2_, n3_, n4_, n5_, n6_, n7_, n8_, n9_, n10_, n12_, n16_, n18_, n20_, n21_, n22_, n24_, n25_, n26_, n27_, n28_, n29_, n30_, n31_, n32_, n40_, n41_, n42_, n43_, n45_, n48_, n54_, n57_, n58_, n59_, n60_, n61_, n63_, n96_, n97_, n99_, n100_, n122_, n126_, n200_, n255_, n375_, n400_, n1000_, n2000_, n9999_, n5764801_, n1000000_, n3000_, m1, m2, le_t, le_f, lt_t, lt_f, eq_t, eq_f, no_lt, no_le, le_no, lt_no, eq_no, no_eq, add_no, wib_t, clamp, nI_add, pk_mul, pk_sub, nor_, nand_, ndif_, shl_, sh1_, shr_, tbn, tb0, tb1, les_t, les_f, pk_div, rem_, remv, and31, wu1, wuc, wui, wu2, ws1, wsc, ws2, wv1, n11_, n13_, n14_, n15_, n17_, n19_, n23_, n56_, n64_, fX11_feed_b114_8, t0]
          · rw [if_neg (show ¬ (T2.1 < 1000 ∧ (gBy (gW3 a b c i) (i % 8) = 10 ∨ (32 ≤ gBy (gW3 a b c i) (i % 8) ∧ gBy (gW3 a b c i) (i % 8) ≤ 126))) by omega)]
            refine ⟨(nI (i + 1), g), ?_, g, rfl, tc, wt, gj, fg⟩
            simp (disch := omega) only [↓reduceIte, wlet, Option.bind_some, true_and, and_true, not_true_eq_false, not_false_eq_true, reduceCtorEq, n0_, n1_, n2_, n3_, n4_, n5_, n6_, n7_, n8_, n9_, n10_, n12_, n16_, n18_, n20_, n21_, n22_, n24_, n25_, n26_, n27_, n28_, n29_, n30_, n31_, n32_, n40_, n41_, n42_, n43_, n45_, n48_, n54_, n57_, n58_, n59_, n60_, n61_, n63_, n96_, n97_, n99_, n100_, n122_, n126_, n200_, n255_, n375_, n400_, n1000_, n2000_, n9999_, n5764801_, n1000000_, n3000_, m1, m2, le_t, le_f, lt_t, lt_f, eq_t, eq_f, no_lt, no_le, le_no, lt_no, eq_no, no_eq, add_no, wib_t, clamp, nI_add, pk_mul, pk_sub, nor_, nand_, ndif_, shl_, sh1_, shr_, tbn, tb0, tb1, les_t, les_f, pk_div, rem_, remv, and31, wu1, wuc, wui, wu2, ws1, wsc, ws2, wv1, n11_, n13_, n14_, n15_, n17_, n19_, n23_, n56_, n64_, fX11_feed_b114_8, t0]
      · rw [if_neg (show ¬ (T2.1 < 1000 ∧ (gBy (gW3 a b c i) (i % 8) = 10 ∨ (32 ≤ gBy (gW3 a b c i) (i % 8) ∧ gBy (gW3 a b c i) (i % 8) ≤ 126))) by omega)]
        refine ⟨(nI (i + 1), g), ?_, g, rfl, tc, wt, gj, fg⟩
        simp (disch := omega) only [↓reduceIte, wlet, Option.bind_some, true_and, and_true, not_true_eq_false, not_false_eq_true, reduceCtorEq, n0_, n1_, n2_, n3_, n4_, n5_, n6_, n7_, n8_, n9_, n10_, n12_, n16_, n18_, n20_, n21_, n22_, n24_, n25_, n26_, n27_, n28_, n29_, n30_, n31_, n32_, n40_, n41_, n42_, n43_, n45_, n48_, n54_, n57_, n58_, n59_, n60_, n61_, n63_, n96_, n97_, n99_, n100_, n122_, n126_, n200_, n255_, n375_, n400_, n1000_, n2000_, n9999_, n5764801_, n1000000_, n3000_, m1, m2, le_t, le_f, lt_t, lt_f, eq_t, eq_f, no_lt, no_le, le_no, lt_no, eq_no, no_eq, add_no, wib_t, clamp, nI_add, pk_mul, pk_sub, nor_, nand_, ndif_, shl_, sh1_, shr_, tbn, tb0, tb1, les_t, les_f, pk_div, rem_, remv, and31, wu1, wuc, wui, wu2, ws1, wsc, ws2, wv1, n11_, n13_, n14_, n15_, n17_, n19_, n23_, n56_, n64_, fX11_feed_b114_8, t0])
    (by
      rintro T2 v ⟨g, rfl, hg⟩
      refine ⟨g, ?_, hg⟩
      simp (disch := omega) only [↓reduceIte, wlet, Option.bind_some, true_and, and_true, not_true_eq_false, not_false_eq_true, reduceCtorEq, n0_, n1_, n2_, n3_, n4_, n5_, n6_, n7_, n8_, n9_, n10_, n12_, n16_, n18_, n20_, n21_, n22_, n24_, n25_, n26_, n27_, n28_, n29_, n30_, n31_, n32_, n40_, n41_, n42_, n43_, n45_, n48_, n54_, n57_, n58_, n59_, n60_, n61_, n63_, n96_, n97_, n99_, n100_, n122_, n126_, n200_, n255_, n375_, n400_, n1000_, n2000_, n9999_, n5764801_, n1000000_, n3000_, m1, m2, le_t, le_f, lt_t, lt_f, eq_t, eq_f, no_lt, no_le, le_no, lt_no, eq_no, no_eq, add_no, wib_t, clamp, nI_add, pk_mul, pk_sub, nor_, nand_, ndif_, shl_, sh1_, shr_, tbn, tb0, tb1, les_t, les_f, pk_div, rem_, remv, and31, wu1, wuc, wui, wu2, ws1, wsc, ws2, wv1, n11_, n13_, n14_, n15_, n17_, n19_, n23_, n56_, n64_, fX11_feed_l8])
    (N := 3000) (by omega) (a0 := T) (v0 := (nI 0, h)) ⟨h, rfl, hC, hT, fun _ _ => rfl, fr_rf⟩
  exact ⟨e, he, e1, e2, e3, e4⟩
theorem gFd_24 (a b c : Nat) (T : gTp) : gF (fun i T => gFd T (gBy (gW3 a b c i) (i % 8))) 24 T = gFd8 c (gFd8 b (gFd8 a T)) := by
  rw [show 24 = 16 + 8 from rfl, gF_add, show 16 = 8 + 8 from rfl, gF_add]
  unfold gFd8
  rw [gF_cong (f := fun i T => gFd T (gBy (gW3 a b c i) (i % 8))) (g := fun j T => gFd T (gBy a j)) (fun i T hi => by
    show gFd T (gBy (gW3 a b c i) (i % 8)) = _
    unfold gW3
    rw [if_pos hi, Nat.mod_eq_of_lt hi])]
  rw [gF_cong (f := fun i T => gFd T (gBy (gW3 a b c (8 + i)) ((8 + i) % 8))) (g := fun j T => gFd T (gBy b j)) (fun i T hi => by
    show gFd T (gBy (gW3 a b c (8 + i)) ((8 + i) % 8)) = _
    unfold gW3
    rw [if_neg (by omega), if_pos (by omega), show (8 + i) % 8 = i by omega])]
  rw [gF_cong (f := fun i T => gFd T (gBy (gW3 a b c (8 + 8 + i)) ((8 + 8 + i) % 8))) (g := fun j T => gFd T (gBy c j)) (fun i T hi => by
    show gFd T (gBy (gW3 a b c (8 + 8 + i)) ((8 + 8 + i) % 8)) = _
    unfold gW3
    rw [if_neg (by omega), if_neg (by omega), show (8 + 8 + i) % 8 = i by omega])]
theorem op_feed (hI : Inv k h) (x0 x1 x2 : Int64) : ∃ r h1 h2, fX10_feed h x0 x1 x2 = some (r, h1) ∧ fX11_feed h1 x0 x1 x2 = some (r, h2) ∧ Inv k h2 := by
  obtain ⟨L, S, u, M, Y, N, T, W, C, R⟩ := hI
  obtain ⟨a, ha, rfl⟩ := wb_of x0
  obtain ⟨b, hb, rfl⟩ := wb_of x1
  obtain ⟨c, hc, rfl⟩ := wb_of x2
  obtain ⟨c1, c2, c3, c4, c5, c6, c7⟩ := id C
  obtain ⟨w1, w2, w3, w4, w5, w6, w7, w8⟩ := id W
  obtain ⟨g1, e1, t1, v1, f1⟩ := c_add c7 w8 ha
  obtain ⟨g2, e2, t2, v2, f2⟩ := c_add t1 v1 hb
  obtain ⟨g3, e3, t3, v3, f3⟩ := c_add t2 v2 hc
  have f13 := fr_tr f1 (fr_tr f2 f3)
  have R1 := MI_0 (MI_cls R (fr_mono f13 (fun c q => by unfold s12 at q; unfold cls; omega))) (nI 0)
  obtain ⟨d1, d2, d3, d4, d5, d6, d7⟩ := id R1
  obtain ⟨g4, e4, t4, v4, j4, f4⟩ := r_feed d7 w8 ha hb hc
  rw [gFd_24] at t4 v4
  have t30 := t3.1
  have t40 := t4.1
  refine ⟨nI (gFd8 c (gFd8 b (gFd8 a T))).1, g3, g4, ?_, ?_, L, S, u, M, Y, N, gFd8 c (gFd8 b (gFd8 a T)), ⟨w1, w2, w3, w4, w5, w6, w7, v3⟩, CI_ref ⟨CL_fr c1 f13 (fun c _ _ => by unfold s12; omega), SH_fr c2 f13 (fun c _ _ => by unfold s12; omega), UC_fr c3 f13 (fun c _ _ => by unfold s12; omega), BC_fr c4 f13 (fun c _ _ => by unfold s12; omega), YC_fr c5 f13 (by unfold s12; omega) (by unfold s12; omega), NC_fr c6 f13 (fun c _ _ => by unfold s12; omega), t3⟩ (fr_tr (fr_wuI (by unfold ref; omega)) (fr_mono f4 (fun c q => by unfold ref; omega))), ML_fr d1 f4 (fun c _ _ => by omega), MS_fr d2 f4 (by omega), UM_fr d3 f4 (j4 54 (by omega)) (by omega), BM_fr d4 f4 (fun c _ _ _ => by omega), YM_fr d5 f4 (fun c _ _ => by omega), NM_fr d6 f4 (fun c _ _ => by omega), t4⟩
  · simp (disch := omega) only [↓reduceIte, wlet, Option.bind_some, true_and, and_true, not_true_eq_false, not_false_eq_true, reduceCtorEq, n0_, n1_, n2_, n3_, n4_, n5_, n6_, n7_, n8_, n9_, n10_, n12_, n16_, n18_, n20_, n21_, n22_, n24_, n25_, n26_, n27_, n28_, n29_, n30_, n31_, n32_, n40_, n41_, n42_, n43_, n45_, n48_, n54_, n57_, n58_, n59_, n60_, n61_, n63_, n96_, n97_, n99_, n100_, n122_, n126_, n200_, n255_, n375_, n400_, n1000_, n2000_, n9999_, n5764801_, n1000000_, n3000_, m1, m2, le_t, le_f, lt_t, lt_f, eq_t, eq_f, no_lt, no_le, le_no, lt_no, eq_no, no_eq, add_no, wib_t, clamp, nI_add, pk_mul, pk_sub, nor_, nand_, ndif_, shl_, sh1_, shr_, tbn, tb0, tb1, les_t, les_f, pk_div, rem_, remv, and31, wu1, wuc, wui, wu2, ws1, wsc, ws2, wv1, n11_, n13_, n14_, n15_, n17_, n19_, n23_, n56_, n64_, fX10_feed, e1, e2, e3, t30]
  · simp (disch := omega) only [↓reduceIte, wlet, Option.bind_some, true_and, and_true, not_true_eq_false, not_false_eq_true, reduceCtorEq, n0_, n1_, n2_, n3_, n4_, n5_, n6_, n7_, n8_, n9_, n10_, n12_, n16_, n18_, n20_, n21_, n22_, n24_, n25_, n26_, n27_, n28_, n29_, n30_, n31_, n32_, n40_, n41_, n42_, n43_, n45_, n48_, n54_, n57_, n58_, n59_, n60_, n61_, n63_, n96_, n97_, n99_, n100_, n122_, n126_, n200_, n255_, n375_, n400_, n1000_, n2000_, n9999_, n5764801_, n1000000_, n3000_, m1, m2, le_t, le_f, lt_t, lt_f, eq_t, eq_f, no_lt, no_le, le_no, lt_no, eq_no, no_eq, add_no, wib_t, clamp, nI_add, pk_mul, pk_sub, nor_, nand_, ndif_, shl_, sh1_, shr_, tbn, tb0, tb1, les_t, les_f, pk_div, rem_, remv, and31, wu1, wuc, wui, wu2, ws1, wsc, ws2, wv1, n11_, n13_, n14_, n15_, n17_, n19_, n23_, n56_, n64_, fX11_feed, e4, t40]
end G49

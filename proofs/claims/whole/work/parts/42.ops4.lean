/-! UNDOING and MARKS -/
section G42
variable {h : wSt} {k : Nat} {L : gLib} {S : gSh} {u : gUn} {M : gMk} {Y : gYr} {N : gSn} {T : gTp}
theorem op_undo (hI : Inv k h) : ∃ r h1 h2, fX10_undo h = some (r, h1) ∧ fX11_undo h1 = some (r, h2) ∧ Inv k h2 := by
  obtain ⟨L, S, u, M, Y, N, T, W, C, R⟩ := hI
  obtain ⟨u0, u1, u2⟩ := id C.2.2.1
  obtain ⟨m0, m2⟩ := id R.2.2.1
  obtain ⟨w4, w5, w6⟩ := id W.2.2.2.1
  by_cases q : u.1 = 0
  · refine ⟨false, h, _, ?_, ?_, Inv_q0 W C R fr_rf⟩
    · simp (disch := omega) only [↓reduceIte, wlet, Option.bind_some, true_and, and_true, not_true_eq_false, not_false_eq_true, reduceCtorEq, n0_, n1_, n2_, n3_, n4_, n5_, n6_, n7_, n8_, n9_, n10_, n12_, n16_, n18_, n20_, n21_, n22_, n24_, n25_, n26_, n27_, n28_, n29_, n30_, n31_, n32_, n40_, n41_, n42_, n43_, n45_, n48_, n54_, n57_, n58_, n59_, n60_, n61_, n63_, n96_, n97_, n99_, n100_, n122_, n126_, n200_, n255_, n375_, n400_, n1000_, n2000_, n9999_, n5764801_, n1000000_, n3000_, m1, m2, le_t, le_f, lt_t, lt_f, eq_t, eq_f, no_lt, no_le, le_no, lt_no, eq_no, no_eq, add_no, wib_t, clamp, nI_add, pk_mul, pk_sub, nor_, nand_, ndif_, shl_, sh1_, shr_, tbn, tb0, tb1, les_t, les_f, pk_div, rem_, remv, and31, wu1, wuc, wui, wu2, ws1, wsc, ws2, wv1, n11_, n13_, n14_, n15_, n17_, n19_, n23_, n56_, n64_, fX10_undo, fX8_takeBack, u0, q]
    · simp (disch := omega) only [↓reduceIte, wlet, Option.bind_some, true_and, and_true, not_true_eq_false, not_false_eq_true, reduceCtorEq, n0_, n1_, n2_, n3_, n4_, n5_, n6_, n7_, n8_, n9_, n10_, n12_, n16_, n18_, n20_, n21_, n22_, n24_, n25_, n26_, n27_, n28_, n29_, n30_, n31_, n32_, n40_, n41_, n42_, n43_, n45_, n48_, n54_, n57_, n58_, n59_, n60_, n61_, n63_, n96_, n97_, n99_, n100_, n122_, n126_, n200_, n255_, n375_, n400_, n1000_, n2000_, n9999_, n5764801_, n1000000_, n3000_, m1, m2, le_t, le_f, lt_t, lt_f, eq_t, eq_f, no_lt, no_le, le_no, lt_no, eq_no, no_eq, add_no, wib_t, clamp, nI_add, pk_mul, pk_sub, nor_, nand_, ndif_, shl_, sh1_, shr_, tbn, tb0, tb1, les_t, les_f, pk_div, rem_, remv, and31, wu1, wuc, wui, wu2, ws1, wsc, ws2, wv1, n11_, n13_, n14_, n15_, n17_, n19_, n23_, n56_, n64_, fX11_undo, m0, q]
  · have f1 : fr (fun c => c = 48) h (wuI (wuI h 48 0 (nI (u.1 - 1))) 48 1 (nI ((u.2.1 + 16 - 1) % 16))) := fr_tr (fr_wuI rfl) (fr_wuI rfl)
    have hr : (u.2.1 + 16 - 1) % 16 < 16 := Nat.mod_lt _ (by omega)
    have s0 := SH_fr (u2 (u.1 - 1) (by omega)) f1 (fun c _ _ => by have := gAt_b u (u.1 - 1); omega)
    have ea : gAt u (u.1 - 1) = 50 + 5 * ((u.2.1 + 16 - 1) % 16) := by
      unfold gAt
      rw [show (u.2.1 + 16 - u.1 + (u.1 - 1)) = u.2.1 + 16 - 1 by omega]
    rw [ea] at s0
    obtain ⟨g2, e2, s2, f2⟩ := c_copy _ (k := 29) s0 (by omega)
    have f12 : fr (fun c => c = 48 ∨ (29 ≤ c ∧ c ≤ 33)) h g2 := fr_tr (fr_mono f1 (fun c q => Or.inl q)) (fr_mono f2 (fun c q => Or.inr q))
    have R2 := MI_0 (MI_cls R (fr_mono f12 (fun c q => by unfold cls; omega))) (nI 0)
    obtain ⟨b1, b2, ⟨b3, b30⟩, b4, b5, b6, b7⟩ := id R2
    have f3 : fr (fun c => c = 188) (wuI g2 188 0 (nI 0)) (wuI (wuI g2 188 0 (nI 0)) 188 54 (nI (u.1 - 1))) := fr_wuI rfl
    obtain ⟨g4, e4, f4, q4⟩ := r_copies (wuI (wuI g2 188 0 (nI 0)) 188 54 (nI (u.1 - 1))) (a0 := 229) (g0 := 400) (o := 25 * (u.1 - 1)) (a2 := 225) (g2 := 25) (o2 := 0) (by omega) (by omega) (by omega) (by omega) (by omega)
    have f34 : fr (fun c => c = 188 ∨ c = 225) (wuI g2 188 0 (nI 0)) g4 := fr_tr (fr_mono f3 (fun c q => Or.inl q)) (fr_mono f4 (fun c q => Or.inr q))
    have f04 : fr (fun c => c = 188 ∨ c = 225) g2 g4 := fr_tr (fr_wuI (Or.inl rfl)) f34
    have g188 : g4.1 188 = (wuI (wuI g2 188 0 (nI 0)) 188 54 (nI (u.1 - 1))).1 188 := fr_at f4 (by omega)
    rw [wui (by omega)] at b3
    obtain ⟨a1, a2, a3, a4, a5, a6, a7⟩ := C
    have C2 : CI g2 L (u.2.2 (u.1 - 1)) (u.1 - 1, (u.2.1 + 16 - 1) % 16, u.2.2) M Y N T := by
      refine ⟨CL_fr a1 f12 (fun c _ _ => by omega), s2, ⟨?_, ?_, fun i hi => ?_⟩, BC_fr a4 f12 (fun c _ _ => by omega), YC_fr a5 f12 (by omega) (by omega), NC_fr a6 f12 (fun c _ _ => by omega), TC_fr a7 f12 (by omega) (by omega)⟩
      · rw [fr_at f2 (by unfold sk; omega), wui (by omega), wu1]
      · rw [fr_at f2 (by unfold sk; omega), wu1]
      · have hi : i < u.1 - 1 := hi
        have e : gAt (u.1 - 1, (u.2.1 + 16 - 1) % 16, u.2.2) i = gAt u i := by
          unfold gAt
          show 50 + 5 * (((u.2.1 + 16 - 1) % 16 + 16 - (u.1 - 1) + i) % 16) = _
          omega
        rw [e]
        exact SH_fr (u2 i (by omega)) f12 (fun c _ _ => by have := gAt_b u i; omega)
    refine ⟨true, g2, g4, ?_, ?_, L, u.2.2 (u.1 - 1), (u.1 - 1, (u.2.1 + 16 - 1) % 16, u.2.2), M, Y, N, T, ?_, CI_ref C2 (fr_mono f04 (fun c q => by unfold ref; omega)), ML_fr b1 f34 (fun c _ _ => by omega), ?_, ⟨?_, fun i hi => ?_⟩, BM_fr b4 f34 (fun c _ _ _ => by omega), YM_fr b5 f34 (fun c _ _ => by omega), NM_fr b6 f34 (fun c _ _ => by omega), TM_fr b7 f34 (by rw [g188, wui (by omega)]) (by omega)⟩
    · simp (disch := omega) only [↓reduceIte, wlet, Option.bind_some, true_and, and_true, not_true_eq_false, not_false_eq_true, reduceCtorEq, n0_, n1_, n2_, n3_, n4_, n5_, n6_, n7_, n8_, n9_, n10_, n12_, n16_, n18_, n20_, n21_, n22_, n24_, n25_, n26_, n27_, n28_, n29_, n30_, n31_, n32_, n40_, n41_, n42_, n43_, n45_, n48_, n54_, n57_, n58_, n59_, n60_, n61_, n63_, n96_, n97_, n99_, n100_, n122_, n126_, n200_, n255_, n375_, n400_, n1000_, n2000_, n9999_, n5764801_, n1000000_, n3000_, m1, m2, le_t, le_f, lt_t, lt_f, eq_t, eq_f, no_lt, no_le, le_no, lt_no, eq_no, no_eq, add_no, wib_t, clamp, nI_add, pk_mul, pk_sub, nor_, nand_, ndif_, shl_, sh1_, shr_, tbn, tb0, tb1, les_t, les_f, pk_div, rem_, remv, and31, wu1, wuc, wui, wu2, ws1, wsc, ws2, wv1, n11_, n13_, n14_, n15_, n17_, n19_, n23_, n56_, n64_, fX10_undo, fX8_takeBack, u0, u1, e2]
    · simp (disch := omega) only [↓reduceIte, wlet, Option.bind_some, true_and, and_true, not_true_eq_false, not_false_eq_true, reduceCtorEq, n0_, n1_, n2_, n3_, n4_, n5_, n6_, n7_, n8_, n9_, n10_, n12_, n16_, n18_, n20_, n21_, n22_, n24_, n25_, n26_, n27_, n28_, n29_, n30_, n31_, n32_, n40_, n41_, n42_, n43_, n45_, n48_, n54_, n57_, n58_, n59_, n60_, n61_, n63_, n96_, n97_, n99_, n100_, n122_, n126_, n200_, n255_, n375_, n400_, n1000_, n2000_, n9999_, n5764801_, n1000000_, n3000_, m1, m2, le_t, le_f, lt_t, lt_f, eq_t, eq_f, no_lt, no_le, le_no, lt_no, eq_no, no_eq, add_no, wib_t, clamp, nI_add, pk_mul, pk_sub, nor_, nand_, ndif_, shl_, sh1_, shr_, tbn, tb0, tb1, les_t, les_f, pk_div, rem_, remv, and31, wu1, wuc, wui, wu2, ws1, wsc, ws2, wv1, n11_, n13_, n14_, n15_, n17_, n19_, n23_, n56_, n64_, fX11_undo, b3, e4]
    · obtain ⟨w1, w2, w3, -, w7⟩ := W
      exact ⟨w1, (w6 (u.1 - 1) (by omega)).1, (w6 (u.1 - 1) (by omega)).2, ⟨by show u.1 - 1 ≤ 16; omega, hr, fun i hi => w6 i (by have hi : i < u.1 - 1 := hi; omega)⟩, w7⟩
    · exact MS_copies (MS_fr (b30 (u.1 - 1) (by omega)) f3 (by omega)) q4
    · rw [g188, wu1]
    · have hi : i < u.1 - 1 := hi
      exact MS_fr (b30 i (by omega)) f34 (by omega)
/-- copying a year, what was seen -/
theorem c_ycopy (h : wSt) {a b : Nat} (hY : YC h b Y) (hn : Y.1 ≤ 40) (hab : a ≠ b ∧ a ≠ b + 1 ∧ a + 1 ≠ b) : ∃ g, fX9_copyFrom h a b = some g ∧ YC g a Y ∧ fr (fun c => c = a ∨ c = a + 1) h g := by
  refine ⟨_, rfl, ⟨?_, fun i hi => ?_⟩, fr_tr (fr_wuI (Or.inl rfl)) (fr_wsI (Or.inr rfl))⟩
  · rw [wsc (by omega), wu1]; exact hY.1
  · rw [ws1, cpy_in (by omega), wuc (by omega)]; exact hY.2 i hi
theorem c_ncopy (h : wSt) {a b : Nat} (hN : NC h b N) (hn : N.1 ≤ 8) (hab : a + 5 ≤ b ∨ b + 5 ≤ a) : ∃ g, fX5_copyFrom h a b = some g ∧ NC g a N ∧ fr (sk a) h g := by
  refine ⟨_, rfl, ⟨?_, fun i hi => ?_⟩, fr_tr (fr_tr (fr_tr (fr_tr (fr_wuI (by unfold sk; omega)) (fr_wsI (by unfold sk; omega))) (fr_wsI (by unfold sk; omega))) (fr_wsI (by unfold sk; omega))) (fr_wsI (by unfold sk; omega))⟩
  · rw [wsc (by omega), wsc (by omega), wsc (by omega), wsc (by omega), wu1]; exact hN.1
  · obtain ⟨n1, n2, n3, n4⟩ := hN.2 i hi
    refine ⟨?_, ?_, ?_, ?_⟩
    · rw [wsc (by omega), wsc (by omega), wsc (by omega), ws1, cpy_in (by omega), wuc (by omega)]; exact n1
    · rw [wsc (by omega), wsc (by omega), ws1, cpy_in (by omega), wsc (by omega), wuc (by omega)]; exact n2
    · rw [wsc (by omega), ws1, cpy_in (by omega), wsc (by omega), wsc (by omega), wuc (by omega)]; exact n3
    · rw [ws1, cpy_in (by omega), wsc (by omega), wsc (by omega), wsc (by omega), wuc (by omega)]; exact n4
theorem r_laysLines (h : wSt) {a b : Nat} (ha : a < 6) (hb : b < 6) (hab : a ≠ b) : ∃ g, fX11_laysLines h (nI a) (nI b) = some g ∧ fr (fun c => 215 ≤ c ∧ c ≤ 219) h g ∧ (∀ q, g.1 215 q = if q = b then h.1 215 a else h.1 215 q) ∧ ∀ c, 216 ≤ c → c ≤ 219 → ∀ q, g.1 c q = if 40 * b ≤ q ∧ q < 40 * b + 40 then h.1 c (40 * a + (q - 40 * b)) else h.1 c q := by
  obtain ⟨e, he, eg⟩ := wit_for (b := fun v : (Int32 × wSt) => fX11_laysLines_l14 v.2 (nI a) (nI b) v.1) (fun _ (u : Unit) => u) 40
    (fun m _ v => ∃ g, v = (nI m, g) ∧ fr (fun c => 215 ≤ c ∧ c ≤ 219) h g ∧ (∀ q, g.1 215 q = if q = b then h.1 215 a else h.1 215 q) ∧ ∀ c, 216 ≤ c → c ≤ 219 → ∀ q, g.1 c q = if 40 * b ≤ q ∧ q < 40 * b + m then h.1 c (40 * a + (q - 40 * b)) else h.1 c q)
    (fun _ g => fr (fun c => 215 ≤ c ∧ c ≤ 219) h g ∧ (∀ q, g.1 215 q = if q = b then h.1 215 a else h.1 215 q) ∧ ∀ c, 216 ≤ c → c ≤ 219 → ∀ q, g.1 c q = if 40 * b ≤ q ∧ q < 40 * b + 40 then h.1 c (40 * a + (q - 40 * b)) else h.1 c q)
    (by
      rintro m _ v hm ⟨g, rfl, fg, g0, gq⟩
      have hq : ∀ c, 216 ≤ c → c ≤ 219 → g.1 c (40 * a + m) = h.1 c (40 * a + m) := fun c h1 h2 => by rw [gq c h1 h2, if_neg (by omega)]
      have q6 := hq 216 (by omega) (by omega)
      have q7 := hq 217 (by omega) (by omega)
      have q8 := hq 218 (by omega) (by omega)
      have q9 := hq 219 (by omega) (by omega)
      refine ⟨(nI (m + 1), wuI (wuI (wuI (wuI g 216 (40 * b + m) (h.1 216 (40 * a + m))) 217 (40 * b + m) (h.1 217 (40 * a + m))) 218 (40 * b + m) (h.1 218 (40 * a + m))) 219 (40 * b + m) (h.1 219 (40 * a + m))), ?_, _, rfl, fr_tr fg (fr_tr (fr_tr (fr_tr (fr_wuI (by omega)) (fr_wuI (by omega))) (fr_wuI (by omega))) (fr_wuI (by omega))), ?_, ?_⟩
      · simp (disch := omega) only [↓reduceIte, wlet, Option.bind_some, true_and, and_true, not_true_eq_false, not_false_eq_true, reduceCtorEq, n0_, n1_, n2_, n3_, n4_, n5_, n6_, n7_, n8_, n9_, n10_, n12_, n16_, n18_, n20_, n21_, n22_, n24_, n25_, n26_, n27_, n28_, n29_, n30_, n31_, n32_, n40_, n41_, n42_, n43_, n45_, n48_, n54_, n57_, n58_, n59_, n60_, n61_, n63_, n96_, n97_, n99_, n100_, n122_, n126_, n200_, n255_, n375_, n400_, n1000_, n2000_, n9999_, n5764801_, n1000000_, n3000_, m1, m2, le_t, le_f, lt_t, lt_f, eq_t, eq_f, no_lt, no_le, le_no, lt_no, eq_no, no_eq, add_no, wib_t, clamp, nI_add, pk_mul, pk_sub, nor_, nand_, ndif_, shl_, sh1_, shr_, tbn, tb0, tb1, les_t, les_f, pk_div, rem_, remv, and31, wu1, wuc, wui, wu2, ws1, wsc, ws2, wv1, n11_, n13_, n14_, n15_, n17_, n19_, n23_, n56_, n64_, fX11_laysLines_l14, q6, q7, q8, q9]
      · intro q
        rw [wuc (by omega), wuc (by omega), wuc (by omega), wuc (by omega)]; exact g0 q
      · intro c h1 h2 q
        have hh : (wuI (wuI (wuI (wuI g 216 (40 * b + m) (h.1 216 (40 * a + m))) 217 (40 * b + m) (h.1 217 (40 * a + m))) 218 (40 * b + m) (h.1 218 (40 * a + m))) 219 (40 * b + m) (h.1 219 (40 * a + m))).1 c q = if q = 40 * b + m then h.1 c (40 * a + m) else g.1 c q := by
          rcases (show c = 216 ∨ c = 217 ∨ c = 218 ∨ c = 219 by omega) with rfl | rfl | rfl | rfl
          · rw [wuc (by omega), wuc (by omega), wuc (by omega), wuS]
          · rw [wuc (by omega), wuc (by omega), wuS, wuc (by omega)]
          · rw [wuc (by omega), wuS, wuc (by omega), wuc (by omega)]
          · rw [wuS, wuc (by omega), wuc (by omega), wuc (by omega)]
        rw [hh, gq c h1 h2]
        by_cases e1 : q = 40 * b + m
        · rw [if_pos e1, if_pos (by omega), show q - 40 * b = m by omega]
        · rw [if_neg e1]
          by_cases e2 : 40 * b ≤ q ∧ q < 40 * b + m
          · rw [if_pos e2, if_pos (by omega)]
          · rw [if_neg e2, if_neg (by omega)])
    (by
      rintro _ v ⟨g, rfl, hg⟩
      refine ⟨g, ?_, hg⟩
      simp (disch := omega) only [↓reduceIte, wlet, Option.bind_some, true_and, and_true, not_true_eq_false, not_false_eq_true, reduceCtorEq, n0_, n1_, n2_, n3_, n4_, n5_, n6_, n7_, n8_, n9_, n10_, n12_, n16_, n18_, n20_, n21_, n22_, n24_, n25_, n26_, n27_, n28_, n29_, n30_, n31_, n32_, n40_, n41_, n42_, n43_, n45_, n48_, n54_, n57_, n58_, n59_, n60_, n61_, n63_, n96_, n97_, n99_, n100_, n122_, n126_, n200_, n255_, n375_, n400_, n1000_, n2000_, n9999_, n5764801_, n1000000_, n3000_, m1, m2, le_t, le_f, lt_t, lt_f, eq_t, eq_f, no_lt, no_le, le_no, lt_no, eq_no, no_eq, add_no, wib_t, clamp, nI_add, pk_mul, pk_sub, nor_, nand_, ndif_, shl_, sh1_, shr_, tbn, tb0, tb1, les_t, les_f, pk_div, rem_, remv, and31, wu1, wuc, wui, wu2, ws1, wsc, ws2, wv1, n11_, n13_, n14_, n15_, n17_, n19_, n23_, n56_, n64_, fX11_laysLines_l14])
    (N := 3000) (by omega) (a0 := ()) (v0 := (nI 0, wuI h 215 b (h.1 215 a))) ⟨_, rfl, fr_wuI (by omega), fun q => wuS, fun c _ _ q => by rw [wuc (by omega), if_neg (by omega)]⟩
  refine ⟨e, ?_, eg⟩
  simp (disch := omega) only [↓reduceIte, wlet, Option.bind_some, true_and, and_true, not_true_eq_false, not_false_eq_true, reduceCtorEq, n0_, n1_, n2_, n3_, n4_, n5_, n6_, n7_, n8_, n9_, n10_, n12_, n16_, n18_, n20_, n21_, n22_, n24_, n25_, n26_, n27_, n28_, n29_, n30_, n31_, n32_, n40_, n41_, n42_, n43_, n45_, n48_, n54_, n57_, n58_, n59_, n60_, n61_, n63_, n96_, n97_, n99_, n100_, n122_, n126_, n200_, n255_, n375_, n400_, n1000_, n2000_, n9999_, n5764801_, n1000000_, n3000_, m1, m2, le_t, le_f, lt_t, lt_f, eq_t, eq_f, no_lt, no_le, le_no, lt_no, eq_no, no_eq, add_no, wib_t, clamp, nI_add, pk_mul, pk_sub, nor_, nand_, ndif_, shl_, sh1_, shr_, tbn, tb0, tb1, les_t, les_f, pk_div, rem_, remv, and31, wu1, wuc, wui, wu2, ws1, wsc, ws2, wv1, n11_, n13_, n14_, n15_, n17_, n19_, n23_, n56_, n64_, fX11_laysLines, he]
theorem nar_b (b : Bool) : vp_nar .boolean (nI b.toNat) = nI b.toNat := by cases b <;> rfl
theorem r_laysSeen (h : wSt) {a b : Nat} (ha : a < 5) (hb : b < 5) (hab : a ≠ b) (hN : NM h a N) (hn : N.1 ≤ 8) : ∃ g, fX11_laysSeen h (nI a) (nI b) = some g ∧ fr (fun c => 220 ≤ c ∧ c ≤ 224) h g ∧ NM g b N ∧ ∀ j N2, j ≠ b → NM h j N2 → N2.1 ≤ 8 → NM g j N2 := by
  obtain ⟨e, he, eg⟩ := wit_for (b := fun v : (Int32 × wSt) => fX11_laysSeen_l14 v.2 (nI a) (nI b) v.1) (fun _ (u : Unit) => u) 8
    (fun m _ v => ∃ g, v = (nI m, g) ∧ fr (fun c => 220 ≤ c ∧ c ≤ 224) h g ∧ (∀ q, g.1 220 q = if q = b then h.1 220 a else h.1 220 q) ∧ ∀ c, 221 ≤ c → c ≤ 224 → ∀ q, g.1 c q = if 8 * b ≤ q ∧ q < 8 * b + m then (if c = 224 then vp_nar .boolean (h.1 c (8 * a + (q - 8 * b))) else h.1 c (8 * a + (q - 8 * b))) else h.1 c q)
    (fun _ g => fr (fun c => 220 ≤ c ∧ c ≤ 224) h g ∧ (∀ q, g.1 220 q = if q = b then h.1 220 a else h.1 220 q) ∧ ∀ c, 221 ≤ c → c ≤ 224 → ∀ q, g.1 c q = if 8 * b ≤ q ∧ q < 8 * b + 8 then (if c = 224 then vp_nar .boolean (h.1 c (8 * a + (q - 8 * b))) else h.1 c (8 * a + (q - 8 * b))) else h.1 c q)
    (by
      rintro m _ v hm ⟨g, rfl, fg, g0, gq⟩
      have hq : ∀ c, 221 ≤ c → c ≤ 224 → g.1 c (8 * a + m) = h.1 c (8 * a + m) := fun c h1 h2 => by rw [gq c h1 h2, if_neg (by omega)]
      have q6 := hq 221 (by omega) (by omega)
      have q7 := hq 222 (by omega) (by omega)
      have q8 := hq 223 (by omega) (by omega)
      have q9 := hq 224 (by omega) (by omega)
      refine ⟨(nI (m + 1), wuI (wuI (wuI (wuI g 221 (8 * b + m) (h.1 221 (8 * a + m))) 222 (8 * b + m) (h.1 222 (8 * a + m))) 223 (8 * b + m) (h.1 223 (8 * a + m))) 224 (8 * b + m) (vp_nar .boolean (h.1 224 (8 * a + m)))), ?_, _, rfl, fr_tr fg (fr_tr (fr_tr (fr_tr (fr_wuI (by omega)) (fr_wuI (by omega))) (fr_wuI (by omega))) (fr_wuI (by omega))), ?_, ?_⟩
      · simp (disch := omega) only [↓reduceIte, wlet, Option.bind_some, true_and, and_true, not_true_eq_false, not_false_eq_true, reduceCtorEq, n0_, n1_, n2_, n3_, n4_, n5_, n6_, n7_, n8_, n9_, n10_, n12_, n16_, n18_, n20_, n21_, n22_, n24_, n25_, n26_, n27_, n28_, n29_, n30_, n31_, n32_, n40_, n41_, n42_, n43_, n45_, n48_, n54_, n57_, n58_, n59_, n60_, n61_, n63_, n96_, n97_, n99_, n100_, n122_, n126_, n200_, n255_, n375_, n400_, n1000_, n2000_, n9999_, n5764801_, n1000000_, n3000_, m1, m2, le_t, le_f, lt_t, lt_f, eq_t, eq_f, no_lt, no_le, le_no, lt_no, eq_no, no_eq, add_no, wib_t, clamp, nI_add, pk_mul, pk_sub, nor_, nand_, ndif_, shl_, sh1_, shr_, tbn, tb0, tb1, les_t, les_f, pk_div, rem_, remv, and31, wu1, wuc, wui, wu2, ws1, wsc, ws2, wv1, n11_, n13_, n14_, n15_, n17_, n19_, n23_, n56_, n64_, fX11_laysSeen_l14, q6, q7, q8, q9]
      · intro q
        rw [wuc (by omega), wuc (by omega), wuc (by omega), wuc (by omega)]; exact g0 q
      · intro c h1 h2 q
        have hh : (wuI (wuI (wuI (wuI g 221 (8 * b + m) (h.1 221 (8 * a + m))) 222 (8 * b + m) (h.1 222 (8 * a + m))) 223 (8 * b + m) (h.1 223 (8 * a + m))) 224 (8 * b + m) (vp_nar .boolean (h.1 224 (8 * a + m)))).1 c q = if q = 8 * b + m then (if c = 224 then vp_nar .boolean (h.1 c (8 * a + m)) else h.1 c (8 * a + m)) else g.1 c q := by
          rcases (show c = 221 ∨ c = 222 ∨ c = 223 ∨ c = 224 by omega) with rfl | rfl | rfl | rfl
          · rw [wuc (by omega), wuc (by omega), wuc (by omega), wuS, if_neg (show ¬ 221 = 224 by omega)]
          · rw [wuc (by omega), wuc (by omega), wuS, wuc (by omega), if_neg (show ¬ 222 = 224 by omega)]
          · rw [wuc (by omega), wuS, wuc (by omega), wuc (by omega), if_neg (show ¬ 223 = 224 by omega)]
          · rw [wuS, wuc (by omega), wuc (by omega), wuc (by omega), if_pos (show 224 = 224 from rfl)]
        rw [hh, gq c h1 h2]
        by_cases e1 : q = 8 * b + m
        · rw [if_pos e1, if_pos (show 8 * b ≤ q ∧ q < 8 * b + (m + 1) by omega), show q - 8 * b = m by omega]
        · rw [if_neg e1]
          by_cases e2 : 8 * b ≤ q ∧ q < 8 * b + m
          · rw [if_pos e2, if_pos (show 8 * b ≤ q ∧ q < 8 * b + (m + 1) by omega)]
          · rw [if_neg e2, if_neg (show ¬ (8 * b ≤ q ∧ q < 8 * b + (m + 1)) by omega)])
    (by
      rintro _ v ⟨g, rfl, hg⟩
      refine ⟨g, ?_, hg⟩
      simp (disch := omega) only [↓reduceIte, wlet, Option.bind_some, true_and, and_true, not_true_eq_false, not_false_eq_true, reduceCtorEq, n0_, n1_, n2_, n3_, n4_, n5_, n6_, n7_, n8_, n9_, n10_, n12_, n16_, n18_, n20_, n21_, n22_, n24_, n25_, n26_, n27_, n28_, n29_, n30_, n31_, n32_, n40_, n41_, n42_, n43_, n45_, n48_, n54_, n57_, n58_, n59_, n60_, n61_, n63_, n96_, n97_, n99_, n100_, n122_, n126_, n200_, n255_, n375_, n400_, n1000_, n2000_, n9999_, n5764801_, n1000000_, n3000_, m1, m2, le_t, le_f, lt_t, lt_f, eq_t, eq_f, no_lt, no_le, le_no, lt_no, eq_no, no_eq, add_no, wib_t, clamp, nI_add, pk_mul, pk_sub, nor_, nand_, ndif_, shl_, sh1_, shr_, tbn, tb0, tb1, les_t, les_f, pk_div, rem_, remv, and31, wu1, wuc, wui, wu2, ws1, wsc, ws2, wv1, n11_, n13_, n14_, n15_, n17_, n19_, n23_, n56_, n64_, fX11_laysSeen_l14])
    (N := 3000) (by omega) (a0 := ()) (v0 := (nI 0, wuI h 220 b (h.1 220 a))) ⟨_, rfl, fr_wuI (by omega), fun q => wuS, fun c _ _ q => by rw [wuc (by omega), if_neg (show ¬ (8 * b ≤ q ∧ q < 8 * b + 0) by omega)]⟩
  obtain ⟨fg, g0, gq⟩ := eg
  refine ⟨e, ?_, fg, ⟨?_, fun i hi => ?_⟩, fun j N2 hj h2 hn2 => ⟨?_, fun i hi => ?_⟩⟩
  · simp (disch := omega) only [↓reduceIte, wlet, Option.bind_some, true_and, and_true, not_true_eq_false, not_false_eq_true, reduceCtorEq, n0_, n1_, n2_, n3_, n4_, n5_, n6_, n7_, n8_, n9_, n10_, n12_, n16_, n18_, n20_, n21_, n22_, n24_, n25_, n26_, n27_, n28_, n29_, n30_, n31_, n32_, n40_, n41_, n42_, n43_, n45_, n48_, n54_, n57_, n58_, n59_, n60_, n61_, n63_, n96_, n97_, n99_, n100_, n122_, n126_, n200_, n255_, n375_, n400_, n1000_, n2000_, n9999_, n5764801_, n1000000_, n3000_, m1, m2, le_t, le_f, lt_t, lt_f, eq_t, eq_f, no_lt, no_le, le_no, lt_no, eq_no, no_eq, add_no, wib_t, clamp, nI_add, pk_mul, pk_sub, nor_, nand_, ndif_, shl_, sh1_, shr_, tbn, tb0, tb1, les_t, les_f, pk_div, rem_, remv, and31, wu1, wuc, wui, wu2, ws1, wsc, ws2, wv1, n11_, n13_, n14_, n15_, n17_, n19_, n23_, n56_, n64_, fX11_laysSeen, he]
  · rw [g0, if_pos rfl]; exact hN.1
  · obtain ⟨n1, n2, n3, n4⟩ := hN.2 i hi
    have hc : 8 * b ≤ 8 * b + i ∧ 8 * b + i < 8 * b + 8 := by omega
    have hd : 8 * b + i - 8 * b = i := by omega
    rw [gq 221 (by omega) (by omega), gq 222 (by omega) (by omega), gq 223 (by omega) (by omega), gq 224 (by omega) (by omega), if_pos hc, if_pos hc, if_pos hc, if_pos hc, if_neg (show ¬ 221 = 224 by omega), if_neg (show ¬ 222 = 224 by omega), if_neg (show ¬ 223 = 224 by omega), if_pos (show 224 = 224 from rfl), hd, n1, n2, n3, n4, nar_b]
    exact ⟨rfl, rfl, rfl, rfl⟩
  · rw [g0, if_neg hj]; exact h2.1
  · have hc : ¬ (8 * b ≤ 8 * j + i ∧ 8 * j + i < 8 * b + 8) := by omega
    rw [gq 221 (by omega) (by omega), gq 222 (by omega) (by omega), gq 223 (by omega) (by omega), gq 224 (by omega) (by omega), if_neg hc, if_neg hc, if_neg hc, if_neg hc]
    exact h2.2 i hi
theorem YM_lays {g : wSt} {a b : Nat} (hn : Y.1 ≤ 40) (g0 : ∀ q, g.1 215 q = if q = b then h.1 215 a else h.1 215 q) (gq : ∀ c, 216 ≤ c → c ≤ 219 → ∀ q, g.1 c q = if 40 * b ≤ q ∧ q < 40 * b + 40 then h.1 c (40 * a + (q - 40 * b)) else h.1 c q) (hY : YM h a Y) : YM g b Y := by
  refine ⟨by rw [g0, if_pos rfl]; exact hY.1, fun i hi => ?_⟩
  have hc : 40 * b ≤ 40 * b + i ∧ 40 * b + i < 40 * b + 40 := by omega
  have hd : 40 * b + i - 40 * b = i := by omega
  rw [gq 216 (by omega) (by omega), gq 217 (by omega) (by omega), gq 218 (by omega) (by omega), gq 219 (by omega) (by omega), if_pos hc, if_pos hc, if_pos hc, if_pos hc, hd]
  exact hY.2 i hi
theorem YM_lays2 {g : wSt} {a b j : Nat} (hn : Y.1 ≤ 40) (hj : j ≠ b) (g0 : ∀ q, g.1 215 q = if q = b then h.1 215 a else h.1 215 q) (gq : ∀ c, 216 ≤ c → c ≤ 219 → ∀ q, g.1 c q = if 40 * b ≤ q ∧ q < 40 * b + 40 then h.1 c (40 * a + (q - 40 * b)) else h.1 c q) (hY : YM h j Y) : YM g j Y := by
  refine ⟨by rw [g0, if_neg hj]; exact hY.1, fun i hi => ?_⟩
  have hc : ¬ (40 * b ≤ 40 * j + i ∧ 40 * j + i < 40 * b + 40) := by omega
  rw [gq 216 (by omega) (by omega), gq 217 (by omega) (by omega), gq 218 (by omega) (by omega), gq 219 (by omega) (by omega), if_neg hc, if_neg hc, if_neg hc, if_neg hc]
  exact hY.2 i hi
end G42

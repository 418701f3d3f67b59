/-! THE LAW AT WORK, this side -/
theorem wt1 {V E : Type} {b : V → Option (V ⊕ E)} {v w : V} (e : b v = some (.inl w)) (N : Nat) : wit b (N + 1) v = wit b N w := by rw [wit, e]
theorem wt2 {V E : Type} {b : V → Option (V ⊕ E)} {v : V} {x : E} (e : b v = some (.inr x)) (N : Nat) : wit b (N + 1) v = some x := by rw [wit, e]
def gcB (e : Nat → Int32) (v : Int32 × Int32 × wSt) : Option ((Int32 × Int32 × wSt) ⊕ ((Int32 × wSt) ⊕ (Bool × wSt))) := fX2_holds_l6 v.2.2 13 (e 1) (e 2) (e 3) (e 4) v.1 v.2.1
def PCs (n : Nat) (cs : List Int32) (v : (Nat → Int32) → Int32) : Prop := ∀ (e : Nat → Int32) (h : wSt) (top i L : Nat), h.1 13 1 = nI L → L ≤ 1000 → i + cs.length ≤ L → (∀ j, j < cs.length → h.1 14 (i + j) = cs.getD j 0) → top + n ≤ 32 → ∃ g, (∀ N, wit (gcB e) (N + cs.length) (nI top, nI i, h) = wit (gcB e) N (nI (top + 1), nI (i + cs.length), g)) ∧ fr sq h g ∧ g.1 15 top = v e ∧ ∀ j, j < top → g.1 15 j = h.1 15 j
theorem PC_mono {n m : Nat} {cs : List Int32} {v : (Nat → Int32) → Int32} (p : PCs n cs v) (hn : n ≤ m) : PCs m cs v := fun e h top i L h1 h2 h3 h4 h5 => p e h top i L h1 h2 h3 h4 (by omega)
section G82
variable {h : wSt} {e : Nat → Int32} {top i L : Nat} {x y : Int32}
theorem cB_push (hL : h.1 13 1 = nI L) (hi : i < L) (hL2 : L ≤ 1000) (hx : h.1 14 i = x) (ht : top < 32) (k1 : ¬ x < -nI 4) (hy : (if x < nI 0 then (if x = wno then e 1 else if x = wno2 then e 2 else if x = -nI 3 then e 3 else e 4) else x) = y) : gcB e (nI top, nI i, h) = some (.inl (nI (top + 1), nI (i + 1), wuI h 15 top y)) := by
  show fX2_holds_l6 h 13 (e 1) (e 2) (e 3) (e 4) (nI top) (nI i) = _
  by_cases q0 : x < nI 0
  · rw [if_pos q0] at hy
    by_cases q1 : x = wno
    · rw [if_pos q1] at hy
      have q1 := eq_true q1
      rw [← hy]
      simp (disch := omega) only [↓reduceIte, wlet, Option.bind_some, true_and, and_true, not_true_eq_false, not_false_eq_true, reduceCtorEq, n0_, n1_, n2_, n3_, n4_, n5_, n6_, n7_, n8_, n9_, n10_, n12_, n16_, n18_, n20_, n21_, n22_, n24_, n25_, n26_, n27_, n28_, n29_, n30_, n31_, n32_, n40_, n41_, n42_, n43_, n45_, n48_, n54_, n57_, n58_, n59_, n60_, n61_, n63_, n96_, n97_, n99_, n100_, n122_, n126_, n200_, n255_, n375_, n400_, n1000_, n2000_, n9999_, n5764801_, n1000000_, n3000_, m1, m2, le_t, le_f, lt_t, lt_f, eq_t, eq_f, no_lt, no_le, le_no, lt_no, eq_no, no_eq, add_no, wib_t, clamp, nI_add, pk_mul, pk_sub, nor_, nand_, ndif_, shl_, sh1_, shr_, tbn, tb0, tb1, les_t, les_f, pk_div, rem_, remv, and31, wu1, wuc, wui, wu2, ws1, wsc, ws2, wv1, n11_, n13_, n14_, n15_, n17_, n19_, n23_, n56_, n64_, fX2_holds_l6, fX2_holds_b90_6, fX2_holds_b182_6, hL, hx, k1, q0, q1, Nat.reduceAdd]
    · rw [if_neg q1] at hy
      by_cases q2 : x = wno2
      · rw [if_pos q2] at hy
        have q2 := eq_true q2
        rw [← hy]
        simp (disch := omega) only [↓reduceIte, wlet, Option.bind_some, true_and, and_true, not_true_eq_false, not_false_eq_true, reduceCtorEq, n0_, n1_, n2_, n3_, n4_, n5_, n6_, n7_, n8_, n9_, n10_, n12_, n16_, n18_, n20_, n21_, n22_, n24_, n25_, n26_, n27_, n28_, n29_, n30_, n31_, n32_, n40_, n41_, n42_, n43_, n45_, n48_, n54_, n57_, n58_, n59_, n60_, n61_, n63_, n96_, n97_, n99_, n100_, n122_, n126_, n200_, n255_, n375_, n400_, n1000_, n2000_, n9999_, n5764801_, n1000000_, n3000_, m1, m2, le_t, le_f, lt_t, lt_f, eq_t, eq_f, no_lt, no_le, le_no, lt_no, eq_no, no_eq, add_no, wib_t, clamp, nI_add, pk_mul, pk_sub, nor_, nand_, ndif_, shl_, sh1_, shr_, tbn, tb0, tb1, les_t, les_f, pk_div, rem_, remv, and31, wu1, wuc, wui, wu2, ws1, wsc, ws2, wv1, n11_, n13_, n14_, n15_, n17_, n19_, n23_, n56_, n64_, fX2_holds_l6, fX2_holds_b90_6, fX2_holds_b182_6, hL, hx, k1, q0, q1, q2, Nat.reduceAdd]
      · rw [if_neg q2] at hy
        by_cases q3 : x = -nI 3
        · rw [if_pos q3] at hy
          have q3 := eq_true q3
          rw [← hy]
          simp (disch := omega) only [↓reduceIte, wlet, Option.bind_some, true_and, and_true, not_true_eq_false, not_false_eq_true, reduceCtorEq, n0_, n1_, n2_, n3_, n4_, n5_, n6_, n7_, n8_, n9_, n10_, n12_, n16_, n18_, n20_, n21_, n22_, n24_, n25_, n26_, n27_, n28_, n29_, n30_, n31_, n32_, n40_, n41_, n42_, n43_, n45_, n48_, n54_, n57_, n58_, n59_, n60_, n61_, n63_, n96_, n97_, n99_, n100_, n122_, n126_, n200_, n255_, n375_, n400_, n1000_, n2000_, n9999_, n5764801_, n1000000_, n3000_, m1, m2, le_t, le_f, lt_t, lt_f, eq_t, eq_f, no_lt, no_le, le_no, lt_no, eq_no, no_eq, add_no, wib_t, clamp, nI_add, pk_mul, pk_sub, nor_, nand_, ndif_, shl_, sh1_, shr_, tbn, tb0, tb1, les_t, les_f, pk_div, rem_, remv, and31, wu1, wuc, wui, wu2, ws1, wsc, ws2, wv1, n11_, n13_, n14_, n15_, n17_, n19_, n23_, n56_, n64_, fX2_holds_l6, fX2_holds_b90_6, fX2_holds_b182_6, hL, hx, k1, q0, q1, q2, q3, Nat.reduceAdd]
        · rw [if_neg q3] at hy
          rw [← hy]
          simp (disch := omega) only [↓reduceIte, wlet, Option.bind_some, true_and, and_true, not_true_eq_false, not_false_eq_true, reduceCtorEq, n0_, n1_, n2_, n3_, n4_, n5_, n6_, n7_, n8_, n9_, n10_, n12_, n16_, n18_, n20_, n21_, n22_, n24_, n25_, n26_, n27_, n28_, n29_, n30_, n31_, n32_, n40_, n41_, n42_, n43_, n45_, n48_, n54_, n57_, n58_, n59_, n60_, n61_, n63_, n96_, n97_, n99_, n100_, n122_, n126_, n200_, n255_, n375_, n400_, n1000_, n2000_, n9999_, n5764801_, n1000000_, n3000_, m1, m2, le_t, le_f, lt_t, lt_f, eq_t, eq_f, no_lt, no_le, le_no, lt_no, eq_no, no_eq, add_no, wib_t, clamp, nI_add, pk_mul, pk_sub, nor_, nand_, ndif_, shl_, sh1_, shr_, tbn, tb0, tb1, les_t, les_f, pk_div, rem_, remv, and31, wu1, wuc, wui, wu2, ws1, wsc, ws2, wv1, n11_, n13_, n14_, n15_, n17_, n19_, n23_, n56_, n64_, fX2_holds_l6, fX2_holds_b90_6, fX2_holds_b182_6, hL, hx, k1, q0, q1, q2, q3, Nat.reduceAdd]
  · rw [if_neg q0] at hy
    rw [← hy]
    simp (disch := omega) only [↓reduceIte, wlet, Option.bind_some, true_and, and_true, not_true_eq_false, not_false_eq_true, reduceCtorEq, n0_, n1_, n2_, n3_, n4_, n5_, n6_, n7_, n8_, n9_, n10_, n12_, n16_, n18_, n20_, n21_, n22_, n24_, n25_, n26_, n27_, n28_, n29_, n30_, n31_, n32_, n40_, n41_, n42_, n43_, n45_, n48_, n54_, n57_, n58_, n59_, n60_, n61_, n63_, n96_, n97_, n99_, n100_, n122_, n126_, n200_, n255_, n375_, n400_, n1000_, n2000_, n9999_, n5764801_, n1000000_, n3000_, m1, m2, le_t, le_f, lt_t, lt_f, eq_t, eq_f, no_lt, no_le, le_no, lt_no, eq_no, no_eq, add_no, wib_t, clamp, nI_add, pk_mul, pk_sub, nor_, nand_, ndif_, shl_, sh1_, shr_, tbn, tb0, tb1, les_t, les_f, pk_div, rem_, remv, and31, wu1, wuc, wui, wu2, ws1, wsc, ws2, wv1, n11_, n13_, n14_, n15_, n17_, n19_, n23_, n56_, n64_, fX2_holds_l6, fX2_holds_b90_6, fX2_holds_b182_6, hL, hx, k1, q0, Nat.reduceAdd]
theorem cB_not (hL : h.1 13 1 = nI L) (hi : i < L) (hL2 : L ≤ 1000) (hx : h.1 14 i = -nI 5) (ht : top < 32) : gcB e (nI (top + 1), nI i, h) = some (.inl (nI (top + 1), nI (i + 1), wuI h 15 top (vN (h.1 15 top)))) := by
  show fX2_holds_l6 h 13 (e 1) (e 2) (e 3) (e 4) (nI (top + 1)) (nI i) = _
  have k1 : -nI 5 < -nI 4 := by decide
  unfold vN
  by_cases q : h.1 15 top = nI 0
  · rw [if_pos (show h.1 15 top = 0 from q)]
    simp (disch := omega) only [↓reduceIte, wlet, Option.bind_some, true_and, and_true, not_true_eq_false, not_false_eq_true, reduceCtorEq, n0_, n1_, n2_, n3_, n4_, n5_, n6_, n7_, n8_, n9_, n10_, n12_, n16_, n18_, n20_, n21_, n22_, n24_, n25_, n26_, n27_, n28_, n29_, n30_, n31_, n32_, n40_, n41_, n42_, n43_, n45_, n48_, n54_, n57_, n58_, n59_, n60_, n61_, n63_, n96_, n97_, n99_, n100_, n122_, n126_, n200_, n255_, n375_, n400_, n1000_, n2000_, n9999_, n5764801_, n1000000_, n3000_, m1, m2, le_t, le_f, lt_t, lt_f, eq_t, eq_f, no_lt, no_le, le_no, lt_no, eq_no, no_eq, add_no, wib_t, clamp, nI_add, pk_mul, pk_sub, nor_, nand_, ndif_, shl_, sh1_, shr_, tbn, tb0, tb1, les_t, les_f, pk_div, rem_, remv, and31, wu1, wuc, wui, wu2, ws1, wsc, ws2, wv1, n11_, n13_, n14_, n15_, n17_, n19_, n23_, n56_, n64_, fX2_holds_l6, fX2_holds_b137_6, fX2_holds_b182_6, hL, hx, k1, q, Nat.reduceAdd, Nat.add_sub_cancel]
  · rw [if_neg (show ¬ h.1 15 top = 0 from q)]
    simp (disch := omega) only [↓reduceIte, wlet, Option.bind_some, true_and, and_true, not_true_eq_false, not_false_eq_true, reduceCtorEq, n0_, n1_, n2_, n3_, n4_, n5_, n6_, n7_, n8_, n9_, n10_, n12_, n16_, n18_, n20_, n21_, n22_, n24_, n25_, n26_, n27_, n28_, n29_, n30_, n31_, n32_, n40_, n41_, n42_, n43_, n45_, n48_, n54_, n57_, n58_, n59_, n60_, n61_, n63_, n96_, n97_, n99_, n100_, n122_, n126_, n200_, n255_, n375_, n400_, n1000_, n2000_, n9999_, n5764801_, n1000000_, n3000_, m1, m2, le_t, le_f, lt_t, lt_f, eq_t, eq_f, no_lt, no_le, le_no, lt_no, eq_no, no_eq, add_no, wib_t, clamp, nI_add, pk_mul, pk_sub, nor_, nand_, ndif_, shl_, sh1_, shr_, tbn, tb0, tb1, les_t, les_f, pk_div, rem_, remv, and31, wu1, wuc, wui, wu2, ws1, wsc, ws2, wv1, n11_, n13_, n14_, n15_, n17_, n19_, n23_, n56_, n64_, fX2_holds_l6, fX2_holds_b137_6, fX2_holds_b182_6, hL, hx, k1, q, Nat.reduceAdd, Nat.add_sub_cancel]
def isJ (c : Nat) : Prop := c = 26 ∨ c = 27 ∨ c = 24 ∨ c = 25 ∨ c = 20 ∨ c = 21 ∨ c = 22
theorem c_joined {c : Nat} (hc : isJ c) (y z : Int32) : fX2_joined h (cJ c) y z = some (vJ c y z) := by
  rcases hc with rfl | rfl | rfl | rfl | rfl | rfl | rfl
  · show (if (-6 : Int32) = -11 then some (y - z) else if (-6 : Int32) = -10 then some (y + z) else if (-6 : Int32) = -9 then (if y = z then some 1 else some 0) else if (-6 : Int32) = -8 then (if z ≤ y then some 0 else some 1) else if (-6 : Int32) = -7 then (if y = 0 then (if z = 0 then some 0 else some 1) else some 1) else if (-6 : Int32) = -6 then (if y = 0 then some 0 else if z = 0 then some 0 else some 1) else some (y * z)) = some (if y = 0 then 0 else if z = 0 then 0 else 1)
    rw [if_neg (by decide), if_neg (by decide), if_neg (by decide), if_neg (by decide), if_neg (by decide), if_pos rfl]
    by_cases a : y = 0
    · rw [if_pos a, if_pos a]
    · rw [if_neg a, if_neg a]
      by_cases b : z = 0
      · rw [if_pos b, if_pos b]
      · rw [if_neg b, if_neg b]
  · show (if (-7 : Int32) = -11 then some (y - z) else if (-7 : Int32) = -10 then some (y + z) else if (-7 : Int32) = -9 then (if y = z then some 1 else some 0) else if (-7 : Int32) = -8 then (if z ≤ y then some 0 else some 1) else if (-7 : Int32) = -7 then (if y = 0 then (if z = 0 then some 0 else some 1) else some 1) else if (-7 : Int32) = -6 then (if y = 0 then some 0 else if z = 0 then some 0 else some 1) else some (y * z)) = some (if y = 0 then (if z = 0 then 0 else 1) else 1)
    rw [if_neg (by decide), if_neg (by decide), if_neg (by decide), if_neg (by decide), if_pos rfl]
    by_cases a : y = 0
    · rw [if_pos a, if_pos a]
      by_cases b : z = 0
      · rw [if_pos b, if_pos b]
      · rw [if_neg b, if_neg b]
    · rw [if_neg a, if_neg a]
  · show (if (-8 : Int32) = -11 then some (y - z) else if (-8 : Int32) = -10 then some (y + z) else if (-8 : Int32) = -9 then (if y = z then some 1 else some 0) else if (-8 : Int32) = -8 then (if z ≤ y then some 0 else some 1) else if (-8 : Int32) = -7 then (if y = 0 then (if z = 0 then some 0 else some 1) else some 1) else if (-8 : Int32) = -6 then (if y = 0 then some 0 else if z = 0 then some 0 else some 1) else some (y * z)) = some (if z ≤ y then 0 else 1)
    rw [if_neg (by decide), if_neg (by decide), if_neg (by decide), if_pos rfl]
    by_cases a : z ≤ y
    · rw [if_pos a, if_pos a]
    · rw [if_neg a, if_neg a]
  · show (if (-9 : Int32) = -11 then some (y - z) else if (-9 : Int32) = -10 then some (y + z) else if (-9 : Int32) = -9 then (if y = z then some 1 else some 0) else if (-9 : Int32) = -8 then (if z ≤ y then some 0 else some 1) else if (-9 : Int32) = -7 then (if y = 0 then (if z = 0 then some 0 else some 1) else some 1) else if (-9 : Int32) = -6 then (if y = 0 then some 0 else if z = 0 then some 0 else some 1) else some (y * z)) = some (if y = z then 1 else 0)
    rw [if_neg (by decide), if_neg (by decide), if_pos rfl]
    by_cases a : y = z
    · rw [if_pos a, if_pos a]
    · rw [if_neg a, if_neg a]
  · rfl
  · rfl
  · rfl
theorem cB_join {c : Nat} (hc : isJ c) (hL : h.1 13 1 = nI L) (hi : i < L) (hL2 : L ≤ 1000) (hx : h.1 14 i = cJ c) (ht : top < 31) : gcB e (nI (top + 2), nI i, h) = some (.inl (nI (top + 1), nI (i + 1), wuI h 15 top (vJ c (h.1 15 top) (h.1 15 (top + 1))))) := by
  show fX2_holds_l6 h 13 (e 1) (e 2) (e 3) (e 4) (nI (top + 2)) (nI i) = _
  have k1 : cJ c < -nI 4 := by rcases hc with rfl | rfl | rfl | rfl | rfl | rfl | rfl <;> decide
  have k2 : ¬ cJ c = -nI 5 := by rcases hc with rfl | rfl | rfl | rfl | rfl | rfl | rfl <;> decide
  have k3 := c_joined (h := h) hc (h.1 15 top) (h.1 15 (top + 1))
  have k4 : top + 2 - 1 = top + 1 := rfl
  have k5 : top + 2 - 1 - 1 = top := rfl
  simp (disch := omega) only [↓reduceIte, wlet, Option.bind_some, true_and, and_true, not_true_eq_false, not_false_eq_true, reduceCtorEq, n0_, n1_, n2_, n3_, n4_, n5_, n6_, n7_, n8_, n9_, n10_, n12_, n16_, n18_, n20_, n21_, n22_, n24_, n25_, n26_, n27_, n28_, n29_, n30_, n31_, n32_, n40_, n41_, n42_, n43_, n45_, n48_, n54_, n57_, n58_, n59_, n60_, n61_, n63_, n96_, n97_, n99_, n100_, n122_, n126_, n200_, n255_, n375_, n400_, n1000_, n2000_, n9999_, n5764801_, n1000000_, n3000_, m1, m2, le_t, le_f, lt_t, lt_f, eq_t, eq_f, no_lt, no_le, le_no, lt_no, eq_no, no_eq, add_no, wib_t, clamp, nI_add, pk_mul, pk_sub, nor_, nand_, ndif_, shl_, sh1_, shr_, tbn, tb0, tb1, les_t, les_f, pk_div, rem_, remv, and31, wu1, wuc, wui, wu2, ws1, wsc, ws2, wv1, n11_, n13_, n14_, n15_, n17_, n19_, n23_, n56_, n64_, fX2_holds_l6, fX2_holds_b182_6, hL, hx, k1, k2, k4, k5, Nat.reduceAdd, Nat.add_sub_cancel, k3]
theorem PC_not {n : Nat} {cs : List Int32} {v : (Nat → Int32) → Int32} (p : PCs n cs v) (hn : 1 ≤ n) (hn2 : n ≤ 31) : PCs n (cs ++ [-5]) (fun e => vN (v e)) := by
  intro e h top i L hL hL2 hi hc ht
  have el : (cs ++ [(-5 : Int32)]).length = cs.length + 1 := by rw [List.length_append]; rfl
  rw [el] at hi hc ⊢
  obtain ⟨g, g1, g2, g3, g4⟩ := p e h top i L hL hL2 (by omega) (fun j hj => by rw [hc j (by omega), gd_l hj]) ht
  have b13 : g.1 13 1 = nI L := by rw [fr_at g2 (by unfold sq; omega)]; exact hL
  have b14 : g.1 14 (i + cs.length) = -nI 5 := by
    rw [fr_at g2 (by unfold sq; omega), hc cs.length (by omega)]
    exact gd_e
  have st := cB_not (e := e) (top := top) b13 (by omega) hL2 b14 (by omega)
  refine ⟨wuI g 15 top (vN (g.1 15 top)), fun N => ?_, fr_tr g2 (fr_wuI rfl), ?_, fun j hj => ?_⟩
  · rw [show N + (cs.length + 1) = (N + 1) + cs.length by omega, g1, wt1 st, Nat.add_assoc]
  · rw [wu1, g3]
  · rw [wui (by omega), g4 j hj]
theorem PC_join {n m c : Nat} {a x : List Int32} {va vx : (Nat → Int32) → Int32} (hc : isJ c) (pa : PCs n a va) (px : PCs m x vx) (hn : m + 1 ≤ n) (hm : 1 ≤ m) (hn2 : n ≤ 31) : PCs n (a ++ (x ++ [cJ c])) (fun e => vJ c (va e) (vx e)) := by
  intro e h top i L hL hL2 hi hcs ht
  have el : (a ++ (x ++ [cJ c])).length = a.length + (x.length + 1) := by rw [List.length_append, List.length_append]; rfl
  rw [el] at hi hcs ⊢
  obtain ⟨g, g1, g2, g3, g4⟩ := pa e h top i L hL hL2 (by omega) (fun j hj => by rw [hcs j (by omega), gd_l hj]) ht
  have b13 : g.1 13 1 = nI L := by rw [fr_at g2 (by unfold sq; omega)]; exact hL
  have b14 : g.1 14 = h.1 14 := fr_at g2 (by unfold sq; omega)
  obtain ⟨f, f1, f2, f3, f4⟩ := px e g (top + 1) (i + a.length) L b13 hL2 (by omega) (fun j hj => by rw [b14, Nat.add_assoc, hcs (a.length + j) (by omega), gd_r, gd_l hj]) (by omega)
  have c13 : f.1 13 1 = nI L := by rw [fr_at f2 (by unfold sq; omega)]; exact b13
  have c14 : f.1 14 (i + a.length + x.length) = cJ c := by
    rw [fr_at f2 (by unfold sq; omega), b14, Nat.add_assoc, hcs (a.length + x.length) (by omega), gd_r]
    exact gd_e
  have st := cB_join (e := e) hc c13 (by omega) hL2 c14 (top := top) (by omega)
  refine ⟨wuI f 15 top (vJ c (f.1 15 top) (f.1 15 (top + 1))), fun N => ?_, fr_tr g2 (fr_tr f2 (fr_wuI rfl)), ?_, fun j hj => ?_⟩
  · rw [show N + (a.length + (x.length + 1)) = (N + 1 + x.length) + a.length by omega, g1, f1, wt1 st, show i + a.length + x.length + 1 = i + (a.length + (x.length + 1)) by omega]
  · rw [wu1, f3, f4 top (by omega), g3]
  · rw [wui (by omega), f4 j (by omega), g4 j hj]
theorem PC_1 {y : (Nat → Int32) → Int32} (k1 : ¬ x < -nI 4) (hy : ∀ e : Nat → Int32, (if x < nI 0 then (if x = wno then e 1 else if x = wno2 then e 2 else if x = -nI 3 then e 3 else e 4) else x) = y e) : PCs 1 [x] y := by
  intro e h top i L hL hL2 hi hcs ht
  have hi : i + 1 ≤ L := hi
  have hx : h.1 14 i = x := by
    have := hcs 0 (by show 0 < 1; omega)
    rw [Nat.add_zero] at this
    exact this
  have st := cB_push (top := top) hL (by omega) hL2 hx (by omega) k1 (hy e)
  exact ⟨wuI h 15 top (y e), fun N => wt1 st N, fr_wuI rfl, wu1, fun j hj => wui (by omega)⟩
theorem PC_n {m : Nat} (hm : m < 10000) : PCs 1 [nI m] (fun _ => nI m) := by
  have z0 : ¬ nI m < nI 0 := nI_nlt (by omega) (by omega)
  refine PC_1 (fun q => z0 ?_) (fun e => if_neg z0)
  rw [Int32.lt_iff_toInt_lt] at q ⊢
  rw [nI_toInt (by omega)] at q ⊢
  rw [show (-nI 4).toInt = -4 by decide] at q
  rw [nI_toInt (by omega)]
  omega
theorem PC_f {f : Nat} (h1 : 1 ≤ f) (h4 : f ≤ 4) : PCs 1 [-nI f] (fun e => e f) := by
  have : f = 1 ∨ f = 2 ∨ f = 3 ∨ f = 4 := by omega
  rcases this with rfl | rfl | rfl | rfl
  · exact PC_1 (by decide) (fun e => by rw [if_pos (by decide), if_pos (by decide)])
  · exact PC_1 (by decide) (fun e => by rw [if_pos (by decide), if_neg (by decide), if_pos (by decide)])
  · exact PC_1 (by decide) (fun e => by rw [if_pos (by decide), if_neg (by decide), if_neg (by decide), if_pos (by decide)])
  · exact PC_1 (by decide) (fun e => by rw [if_pos (by decide), if_neg (by decide), if_neg (by decide), if_neg (by decide)])
theorem gJ_i {T : gTp} {l b : Nat} (hl : l ≤ 3) (q : gJo T l b ≠ 0) : isJ (gJo T l b) := by
  unfold isJ
  rcases gJ_v hl q with ⟨-, ⟨e, -⟩ | ⟨e, -⟩⟩ | ⟨-, ⟨e, -⟩ | ⟨e, -⟩⟩ | ⟨-, ⟨e, -⟩ | ⟨e, -⟩⟩ | ⟨-, e, -⟩ <;> omega
theorem PC_all {T : gTp} (n : Nat) : ∀ l d s, l ≤ 4 → d ≤ 5 → gFl l d ≤ n → s.1 ≤ T.1 → s.2 = 0 → (gX T n true l d s).1.2 = 0 → d ≤ 4 ∧ PCs (1 + 4 * (4 - d) + (4 - l)) (gX T n true l d s).2.1 (gX T n true l d s).2.2.2 := by
  refine (gX_i (fun d x => d ≤ 4 ∧ PCs (1 + 4 * (4 - d)) x.2.1 x.2.2.2) (fun l d x => d ≤ 4 ∧ PCs (1 + 4 * (4 - d) + (4 - l)) x.2.1 x.2.2.2) ?_ ?_ ?_ ?_ ?_ ?_ ?_ n).2
  · intro d s hd hb hs h18 h40
    refine ⟨hd, PC_mono (n := 1) ?_ (by omega)⟩
    by_cases hf : gFa T s.1 = 0
    · have hk : gTk T s.1 = 2 := by
        unfold gStt at hs
        rw [hf, h18, h40] at hs
        simpa using hs
      have e1 : gAs T s.1 = nI (gTn T s.1) := if_pos hf
      have e2 : gAv T s.1 = fun _ => nI (gTn T s.1) := funext (fun e => if_pos hf)
      show PCs 1 [gAs T s.1] (gAv T s.1)
      rw [e1, e2]
      exact PC_n (gTk_2 hb hk).2.2
    · have e1 : gAs T s.1 = -nI (gFa T s.1) := if_neg hf
      have e2 : gAv T s.1 = fun e => e (gFa T s.1) := funext (fun e => if_neg hf)
      show PCs 1 [gAs T s.1] (gAv T s.1)
      rw [e1, e2]
      exact PC_f (by omega) gFa_le
  · intro d x hd p
    exact ⟨hd, PC_not (PC_mono p.2 (by omega)) (by omega) (by omega)⟩
  · intro d x hd p
    have := p.1
    exact ⟨hd, PC_mono p.2 (by omega)⟩
  · intro d x p
    exact p
  · intro l d x hl p
    exact ⟨p.1, PC_mono p.2 (by omega)⟩
  · intro l d a x hl h1 pa px pj
    exact ⟨pa.1, PC_join (gJ_i hl pj) pa.2 px.2 (by omega) (by omega) (by omega)⟩
  · intro d a x pa px pj
    exact ⟨pa.1, PC_join (gJ_i (by omega) pj) (PC_mono pa.2 (by omega)) px.2 (by omega) (by omega) (by omega)⟩
def gEn (a b c d : Nat) (k : Nat) : Int32 := if k = 1 then nI a else if k = 2 then nI b else if k = 3 then nI c else nI d
theorem LawC_of {cs : List Int32} {v : (Nat → Int32) → Int32} (hL : h.1 13 1 = nI cs.length) (hc : ∀ j, j < cs.length → h.1 14 j = cs.getD j 0) (hl : cs.length ≤ 1000) (p : PCs 21 cs v) : LawC h (fun a b c d => decide (v (gEn a b c d) ≠ 0)) := by
  intro h2 q1 q2 a b c d _ _ _ _
  rw [← q1] at hL
  rw [← q2] at hc
  obtain ⟨g, g1, g2, g3, g4⟩ := p (gEn a b c d) h2 0 0 cs.length hL hl (by omega) (fun j hj => by rw [Nat.zero_add]; exact hc j hj) (by omega)
  rw [Nat.zero_add, Nat.zero_add] at g1
  have b13 : g.1 13 1 = nI cs.length := by rw [fr_at g2 (by unfold sq; omega)]; exact hL
  have st : gcB (gEn a b c d) (nI 1, nI cs.length, g) = some (.inr (.inl (nI 1, g))) := by
    show fX2_holds_l6 g 13 _ _ _ _ (nI 1) (nI cs.length) = _
    simp (disch := omega) only [↓reduceIte, wlet, Option.bind_some, true_and, and_true, not_true_eq_false, not_false_eq_true, reduceCtorEq, n0_, n1_, n2_, n3_, n4_, n5_, n6_, n7_, n8_, n9_, n10_, n12_, n16_, n18_, n20_, n21_, n22_, n24_, n25_, n26_, n27_, n28_, n29_, n30_, n31_, n32_, n40_, n41_, n42_, n43_, n45_, n48_, n54_, n57_, n58_, n59_, n60_, n61_, n63_, n96_, n97_, n99_, n100_, n122_, n126_, n200_, n255_, n375_, n400_, n1000_, n2000_, n9999_, n5764801_, n1000000_, n3000_, m1, m2, le_t, le_f, lt_t, lt_f, eq_t, eq_f, no_lt, no_le, le_no, lt_no, eq_no, no_eq, add_no, wib_t, clamp, nI_add, pk_mul, pk_sub, nor_, nand_, ndif_, shl_, sh1_, shr_, tbn, tb0, tb1, les_t, les_f, pk_div, rem_, remv, and31, wu1, wuc, wui, wu2, ws1, wsc, ws2, wv1, n11_, n13_, n14_, n15_, n17_, n19_, n23_, n56_, n64_, fX2_holds_l6, b13]
  have w : wit (gcB (gEn a b c d)) 3000 (nI 0, nI 0, h2) = some (.inl (nI 1, g)) := by
    rw [show 3000 = (3000 - cs.length - 1 + 1) + cs.length by omega, g1, wt2 st]
  have w : wit (fun v : (Int32 × Int32 × wSt) => fX2_holds_l6 v.2.2 13 (nI a) (nI b) (nI c) (nI d) v.1 v.2.1) 3000 (nI 0, nI 0, h2) = some (.inl (nI 1, g)) := w
  refine ⟨g, ?_, g2⟩
  show fX2_holds h2 13 (nI a) (nI b) (nI c) (nI d) = some (decide (v (gEn a b c d) ≠ 0), g)
  by_cases z : v (gEn a b c d) = nI 0
  · rw [decide_eq_false (show ¬ v (gEn a b c d) ≠ 0 from fun y => y z)]
    rw [z] at g3
    simp (disch := omega) only [↓reduceIte, wlet, Option.bind_some, true_and, and_true, not_true_eq_false, not_false_eq_true, reduceCtorEq, n0_, n1_, n2_, n3_, n4_, n5_, n6_, n7_, n8_, n9_, n10_, n12_, n16_, n18_, n20_, n21_, n22_, n24_, n25_, n26_, n27_, n28_, n29_, n30_, n31_, n32_, n40_, n41_, n42_, n43_, n45_, n48_, n54_, n57_, n58_, n59_, n60_, n61_, n63_, n96_, n97_, n99_, n100_, n122_, n126_, n200_, n255_, n375_, n400_, n1000_, n2000_, n9999_, n5764801_, n1000000_, n3000_, m1, m2, le_t, le_f, lt_t, lt_f, eq_t, eq_f, no_lt, no_le, le_no, lt_no, eq_no, no_eq, add_no, wib_t, clamp, nI_add, pk_mul, pk_sub, nor_, nand_, ndif_, shl_, sh1_, shr_, tbn, tb0, tb1, les_t, les_f, pk_div, rem_, remv, and31, wu1, wuc, wui, wu2, ws1, wsc, ws2, wv1, n11_, n13_, n14_, n15_, n17_, n19_, n23_, n56_, n64_, fX2_holds, w, g3, Nat.reduceAdd]
  · rw [decide_eq_true (show v (gEn a b c d) ≠ 0 from z)]
    simp (disch := omega) only [↓reduceIte, wlet, Option.bind_some, true_and, and_true, not_true_eq_false, not_false_eq_true, reduceCtorEq, n0_, n1_, n2_, n3_, n4_, n5_, n6_, n7_, n8_, n9_, n10_, n12_, n16_, n18_, n20_, n21_, n22_, n24_, n25_, n26_, n27_, n28_, n29_, n30_, n31_, n32_, n40_, n41_, n42_, n43_, n45_, n48_, n54_, n57_, n58_, n59_, n60_, n61_, n63_, n96_, n97_, n99_, n100_, n122_, n126_, n200_, n255_, n375_, n400_, n1000_, n2000_, n9999_, n5764801_, n1000000_, n3000_, m1, m2, le_t, le_f, lt_t, lt_f, eq_t, eq_f, no_lt, no_le, le_no, lt_no, eq_no, no_eq, add_no, wib_t, clamp, nI_add, pk_mul, pk_sub, nor_, nand_, ndif_, shl_, sh1_, shr_, tbn, tb0, tb1, les_t, les_f, pk_div, rem_, remv, and31, wu1, wuc, wui, wu2, ws1, wsc, ws2, wv1, n11_, n13_, n14_, n15_, n17_, n19_, n23_, n56_, n64_, fX2_holds, w, g3, z, Nat.reduceAdd]
/-- the law that is not told -/
def gcs0 : List Int32 := [-2, 2, -12, -3, -11, -1, -8]
def gv0 (e : Nat → Int32) : Int32 := vJ 24 (vJ 21 (vJ 22 (e 2) (nI 2)) (e 3)) (e 1)
theorem PC_0 : PCs 21 gcs0 gv0 := by
  have p1 := PC_join (c := 22) (n := 2) (by unfold isJ; omega) (PC_mono (PC_f (f := 2) (by omega) (by omega)) (by omega)) (PC_n (m := 2) (by omega)) (by omega) (by omega) (by omega)
  have p2 := PC_join (c := 21) (n := 2) (by unfold isJ; omega) p1 (PC_f (f := 3) (by omega) (by omega)) (by omega) (by omega) (by omega)
  have p3 := PC_join (c := 24) (n := 2) (by unfold isJ; omega) p2 (PC_f (f := 1) (by omega) (by omega)) (by omega) (by omega) (by omega)
  exact PC_mono p3 (by omega)
end G82

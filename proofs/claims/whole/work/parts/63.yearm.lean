/-! A YEAR'S LINE ON THE OTHER SIDE -/
/-- what reading a year leaves alone on the other side -/
def RY (h g : wSt) : Prop := fr (fun c => c = 188 ∨ (215 ≤ c ∧ c ≤ 219)) h g ∧ (∀ j, j ≠ 4 → j ≠ 5 → j ≠ 6 → j ≠ 8 → j ≠ 9 → j ≠ 36 → g.1 188 j = h.1 188 j) ∧ (∀ j, j ≠ 5 → g.1 215 j = h.1 215 j) ∧ ∀ c, 216 ≤ c → c ≤ 219 → ∀ q, q < 200 → g.1 c q = h.1 c q
theorem RY_rf {h : wSt} : RY h h := ⟨fr_rf, fun _ _ _ _ _ _ _ => rfl, fun _ _ => rfl, fun _ _ _ _ _ => rfl⟩
theorem RY_tr {h g f : wSt} (a : RY h g) (b : RY g f) : RY h f := ⟨fr_tr a.1 b.1, fun j h1 h2 h3 h4 h5 h6 => (b.2.1 j h1 h2 h3 h4 h5 h6).trans (a.2.1 j h1 h2 h3 h4 h5 h6), fun j hj => (b.2.2.1 j hj).trans (a.2.2.1 j hj), fun c h1 h2 q hq => (b.2.2.2 c h1 h2 q hq).trans (a.2.2.2 c h1 h2 q hq)⟩
theorem RY_K {h g : wSt} (a : RK h g) : RY h g := ⟨fr_mono a.1 (fun c q => Or.inl q), a.2.1, fun j _ => by rw [fr_at a.1 (by unfold s188; omega)], fun c h1 h2 q _ => by rw [fr_at a.1 (by unfold s188; omega)]⟩
theorem RY_5 {h : wSt} {x : Int32} : RY h (wuI h 215 5 x) := ⟨fr_wuI (Or.inr (by omega)), fun j _ _ _ _ _ _ => by rw [wuc (by omega)], fun j hj => wui hj, fun c h1 h2 q _ => by rw [wuc (by omega)]⟩
theorem RY_l {h : wSt} {x : Int32} {c i : Nat} (h1 : 216 ≤ c) (h2 : c ≤ 219) (hi : 200 ≤ i) : RY h (wuI h c i x) := ⟨fr_wuI (Or.inr (by omega)), fun j _ _ _ _ _ _ => by rw [wuc (by omega)], fun j hj => by rw [wuc (by omega)], fun d _ _ q hq => by
  by_cases e : d = c
  · subst e; exact wui (by omega)
  · rw [wuc (by omega)]⟩
section G63
variable {h : wSt} {T : gTp} {b : Nat} {L : gLib}
theorem r_b180 (hs : SM h T b) {n : Nat} (hn : n < 40) (h0 : h.1 215 5 = nI n) : ∃ r g, fX11_readsLine_b180 h = some (r, g) ∧ OK g T (gTs T 59 (b, 0)) r ∧ RY h g ∧ g.1 215 5 = nI (n + 1) ∧ ∀ c, 216 ≤ c → c ≤ 219 → g.1 c = h.1 c := by
  have f1 : fr (fun c => c = 215) h (wuI h 215 5 (nI (n + 1))) := fr_wuI rfl
  obtain ⟨r, g, e1, o1, k1⟩ := r_closes (SM_fr hs f1 (by omega) (by omega))
  refine ⟨r, g, ?_, o1, RY_tr RY_5 (RY_K k1), ?_, fun c h1 h2 => ?_⟩
  · simp (disch := omega) only [↓reduceIte, wlet, Option.bind_some, true_and, and_true, not_true_eq_false, not_false_eq_true, reduceCtorEq, n0_, n1_, n2_, n3_, n4_, n5_, n6_, n7_, n8_, n9_, n10_, n12_, n16_, n18_, n20_, n21_, n22_, n24_, n25_, n26_, n27_, n28_, n29_, n30_, n31_, n32_, n40_, n41_, n42_, n43_, n45_, n48_, n54_, n57_, n58_, n59_, n60_, n61_, n63_, n96_, n97_, n99_, n100_, n122_, n126_, n200_, n255_, n375_, n400_, n1000_, n2000_, n9999_, n5764801_, n1000000_, n3000_, m1, m2, le_t, le_f, lt_t, lt_f, eq_t, eq_f, no_lt, no_le, le_no, lt_no, eq_no, no_eq, add_no, wib_t, clamp, nI_add, pk_mul, pk_sub, nor_, nand_, ndif_, shl_, sh1_, shr_, tbn, tb0, tb1, les_t, les_f, pk_div, rem_, remv, and31, wu1, wuc, wui, wu2, ws1, wsc, ws2, wv1, n11_, n13_, n14_, n15_, n17_, n19_, n23_, n56_, n64_, fX11_readsLine_b180, h0, e1]
  · rw [fr_at k1.1 (by unfold s188; omega)]; exact wu1
  · rw [fr_at k1.1 (by unfold s188; omega), wuc (by omega)]
theorem eta0 {s : Nat × Nat} (h : s.2 = 0) : s = (s.1, 0) := Prod.ext rfl h
theorem r_b155 (hs : SM h T b) {n a : Nat} (hn : n < 40) (ha : a < 4) (h0 : h.1 215 5 = nI n) : ∃ r g, fX11_readsLine_b155 h (nI a) (nI (200 + n)) = some (r, g) ∧ OK g T (gTs T 59 (gY4 T a (b, 0))) r ∧ RY h g ∧ (r = true → g.1 215 5 = nI (n + 1) ∧ (∀ c, 216 ≤ c → c ≤ 218 → g.1 c = h.1 c) ∧ (a = 0 → g.1 219 (200 + n) = nI (gTn T b)) ∧ ∀ i, i ≠ 200 + n → g.1 219 i = h.1 219 i) := by
  unfold gY4
  by_cases h1 : a = 0
  · rw [if_pos h1]
    obtain ⟨r1, g1, e1, o1, v1, k1⟩ := r_needsNumber hs (lo := 0) (hi := 5) (by omega) (by omega)
    subst h1
    by_cases hq : (nx T (gNw T 0 5 (b, 0))).2 = 0
    · obtain ⟨hr, s1'⟩ := o1.1 hq
      subst hr
      have v1 := v1 rfl
      have f2 : fr (fun c => c = 219) g1 (wuI g1 219 (200 + n) (nI (gTn T b))) := fr_wuI rfl
      obtain ⟨r, g, e2, o2, y2, g5, gc⟩ := r_b180 (SM_fr s1' f2 (by omega) (by omega)) hn (by rw [fr_at f2 (by omega), fr_at k1.1 (by unfold s188; omega)]; exact h0)
      rw [eta0 hq]
      refine ⟨r, g, ?_, o2, RY_tr (RY_K k1) (RY_tr (RY_l (by omega) (by omega) (by omega)) y2), fun _ => ⟨g5, fun c q1 q2 => ?_, fun _ => ?_, fun i hi => ?_⟩⟩
      · simp (disch := omega) only [↓reduceIte, wlet, Option.bind_some, true_and, and_true, not_true_eq_false, not_false_eq_true, reduceCtorEq, n0_, n1_, n2_, n3_, n4_, n5_, n6_, n7_, n8_, n9_, n10_, n12_, n16_, n18_, n20_, n21_, n22_, n24_, n25_, n26_, n27_, n28_, n29_, n30_, n31_, n32_, n40_, n41_, n42_, n43_, n45_, n48_, n54_, n57_, n58_, n59_, n60_, n61_, n63_, n96_, n97_, n99_, n100_, n122_, n126_, n200_, n255_, n375_, n400_, n1000_, n2000_, n9999_, n5764801_, n1000000_, n3000_, m1, m2, le_t, le_f, lt_t, lt_f, eq_t, eq_f, no_lt, no_le, le_no, lt_no, eq_no, no_eq, add_no, wib_t, clamp, nI_add, pk_mul, pk_sub, nor_, nand_, ndif_, shl_, sh1_, shr_, tbn, tb0, tb1, les_t, les_f, pk_div, rem_, remv, and31, wu1, wuc, wui, wu2, ws1, wsc, ws2, wv1, n11_, n13_, n14_, n15_, n17_, n19_, n23_, n56_, n64_, fX11_readsLine_b155, e1, v1, e2]
      · rw [gc c (by omega) (by omega), fr_at f2 (by omega), fr_at k1.1 (by unfold s188; omega)]
      · rw [gc 219 (by omega) (by omega)]; exact wu1
      · rw [gc 219 (by omega) (by omega), wui hi, fr_at k1.1 (by unfold s188; omega)]
    · obtain ⟨hr, s9⟩ := o1.2 hq
      subst hr
      rw [gTs_f hq]
      refine ⟨false, g1, ?_, ⟨fun q => absurd q hq, fun _ => ⟨rfl, s9⟩⟩, RY_K k1, (by intro q; cases q)⟩
      simp (disch := omega) only [↓reduceIte, wlet, Option.bind_some, true_and, and_true, not_true_eq_false, not_false_eq_true, reduceCtorEq, n0_, n1_, n2_, n3_, n4_, n5_, n6_, n7_, n8_, n9_, n10_, n12_, n16_, n18_, n20_, n21_, n22_, n24_, n25_, n26_, n27_, n28_, n29_, n30_, n31_, n32_, n40_, n41_, n42_, n43_, n45_, n48_, n54_, n57_, n58_, n59_, n60_, n61_, n63_, n96_, n97_, n99_, n100_, n122_, n126_, n200_, n255_, n375_, n400_, n1000_, n2000_, n9999_, n5764801_, n1000000_, n3000_, m1, m2, le_t, le_f, lt_t, lt_f, eq_t, eq_f, no_lt, no_le, le_no, lt_no, eq_no, no_eq, add_no, wib_t, clamp, nI_add, pk_mul, pk_sub, nor_, nand_, ndif_, shl_, sh1_, shr_, tbn, tb0, tb1, les_t, les_f, pk_div, rem_, remv, and31, wu1, wuc, wui, wu2, ws1, wsc, ws2, wv1, n11_, n13_, n14_, n15_, n17_, n19_, n23_, n56_, n64_, fX11_readsLine_b155, e1, Option.isSome_none, Option.isSome_some, Bool.false_eq_true]
  · rw [if_neg h1]
    obtain ⟨r, g, e2, o2, y2, g5, gc⟩ := r_b180 hs hn h0
    refine ⟨r, g, ?_, o2, y2, fun _ => ⟨g5, fun c q1 q2 => gc c (by omega) (by omega), fun q => absurd q h1, fun i hi => by rw [gc 219 (by omega) (by omega)]⟩⟩
    simp (disch := omega) only [↓reduceIte, wlet, Option.bind_some, true_and, and_true, not_true_eq_false, not_false_eq_true, reduceCtorEq, n0_, n1_, n2_, n3_, n4_, n5_, n6_, n7_, n8_, n9_, n10_, n12_, n16_, n18_, n20_, n21_, n22_, n24_, n25_, n26_, n27_, n28_, n29_, n30_, n31_, n32_, n40_, n41_, n42_, n43_, n45_, n48_, n54_, n57_, n58_, n59_, n60_, n61_, n63_, n96_, n97_, n99_, n100_, n122_, n126_, n200_, n255_, n375_, n400_, n1000_, n2000_, n9999_, n5764801_, n1000000_, n3000_, m1, m2, le_t, le_f, lt_t, lt_f, eq_t, eq_f, no_lt, no_le, le_no, lt_no, eq_no, no_eq, add_no, wib_t, clamp, nI_add, pk_mul, pk_sub, nor_, nand_, ndif_, shl_, sh1_, shr_, tbn, tb0, tb1, les_t, les_f, pk_div, rem_, remv, and31, wu1, wuc, wui, wu2, ws1, wsc, ws2, wv1, n11_, n13_, n14_, n15_, n17_, n19_, n23_, n56_, n64_, fX11_readsLine_b155, e2]
theorem r_b130 (hW : WL L) (hM : ML h L) (hs : SM h T b) {n a : Nat} (hn : n < 40) (ha : a < 4) (h0 : h.1 215 5 = nI n) : ∃ r g, fX11_readsLine_b130 h (nI a) (nI (200 + n)) = some (r, g) ∧ OK g T (gTs T 59 (gY4 T a (gY3 L T a (b, 0)))) r ∧ RY h g ∧ (r = true → g.1 215 5 = nI (n + 1) ∧ (∀ c, 216 ≤ c → c ≤ 217 → g.1 c = h.1 c) ∧ (a = 0 → g.1 219 (200 + n) = nI (gTn T (gY3 L T a (b, 0)).1)) ∧ (a ≠ 3 → g.1 218 (200 + n) = nI ((gNf (gnm L 0) (gns L) (gTw T b)).getD 0)) ∧ ∀ c, 218 ≤ c → c ≤ 219 → ∀ i, i ≠ 200 + n → g.1 c i = h.1 c i) := by
  unfold gY3
  by_cases h3 : a = 3
  · rw [if_pos h3]
    obtain ⟨r, g, e2, o2, y2, gg⟩ := r_b155 (a := a) hs hn ha h0
    refine ⟨r, g, ?_, o2, y2, fun q => ?_⟩
    · rw [h3] at e2 ⊢
      simp (disch := omega) only [↓reduceIte, wlet, Option.bind_some, true_and, and_true, not_true_eq_false, not_false_eq_true, reduceCtorEq, n0_, n1_, n2_, n3_, n4_, n5_, n6_, n7_, n8_, n9_, n10_, n12_, n16_, n18_, n20_, n21_, n22_, n24_, n25_, n26_, n27_, n28_, n29_, n30_, n31_, n32_, n40_, n41_, n42_, n43_, n45_, n48_, n54_, n57_, n58_, n59_, n60_, n61_, n63_, n96_, n97_, n99_, n100_, n122_, n126_, n200_, n255_, n375_, n400_, n1000_, n2000_, n9999_, n5764801_, n1000000_, n3000_, m1, m2, le_t, le_f, lt_t, lt_f, eq_t, eq_f, no_lt, no_le, le_no, lt_no, eq_no, no_eq, add_no, wib_t, clamp, nI_add, pk_mul, pk_sub, nor_, nand_, ndif_, shl_, sh1_, shr_, tbn, tb0, tb1, les_t, les_f, pk_div, rem_, remv, and31, wu1, wuc, wui, wu2, ws1, wsc, ws2, wv1, n11_, n13_, n14_, n15_, n17_, n19_, n23_, n56_, n64_, fX11_readsLine_b130, e2]
    · obtain ⟨g5, gc, g9, gi⟩ := gg q
      refine ⟨g5, fun c q1 q2 => gc c (by omega) (by omega), g9, fun q => absurd h3 q, fun c q1 q2 i hi => ?_⟩
      by_cases e : c = 219
      · rw [e]; exact gi i hi
      · rw [gc c (by omega) (by omega)]
  · rw [if_neg h3]
    obtain ⟨r1, g1, e1, o1, v1, k1⟩ := r_needsSkin hs (nm := gnm L 0) (n := gns L) (r := 0) (by omega) hM.1 (fun i hi => ⟨(hW.2.2.2.1 i hi).2.2.2.2.2, by rw [show 3 * 0 + i = i by omega]; exact (hM.2.2.2.1 i hi).2.2.2⟩) hW.1
    by_cases hq : (gTo T (gnm L 0) (gns L) (b, 0)).2 = 0
    · obtain ⟨hr, s1'⟩ := o1.1 hq
      subst hr
      obtain ⟨-, j, hj, -⟩ := gTo_2 hq
      have hj : gNf (gnm L 0) (gns L) (gTw T b) = some j := hj
      have v1 : g1.1 188 36 = nI j := by have := v1 rfl; rw [hj] at this; exact this
      have f2 : fr (fun c => c = 218) g1 (wuI g1 218 (200 + n) (nI j)) := fr_wuI rfl
      obtain ⟨r, g, e2, o2, y2, gg⟩ := r_b155 (a := a) (SM_fr s1' f2 (by omega) (by omega)) hn ha (by rw [fr_at f2 (by omega), fr_at k1.1 (by unfold s188; omega)]; exact h0)
      rw [eta0 hq, hj]
      refine ⟨r, g, ?_, o2, RY_tr (RY_K k1) (RY_tr (RY_l (by omega) (by omega) (by omega)) y2), fun q => ?_⟩
      · simp (disch := omega) only [↓reduceIte, wlet, Option.bind_some, true_and, and_true, not_true_eq_false, not_false_eq_true, reduceCtorEq, n0_, n1_, n2_, n3_, n4_, n5_, n6_, n7_, n8_, n9_, n10_, n12_, n16_, n18_, n20_, n21_, n22_, n24_, n25_, n26_, n27_, n28_, n29_, n30_, n31_, n32_, n40_, n41_, n42_, n43_, n45_, n48_, n54_, n57_, n58_, n59_, n60_, n61_, n63_, n96_, n97_, n99_, n100_, n122_, n126_, n200_, n255_, n375_, n400_, n1000_, n2000_, n9999_, n5764801_, n1000000_, n3000_, m1, m2, le_t, le_f, lt_t, lt_f, eq_t, eq_f, no_lt, no_le, le_no, lt_no, eq_no, no_eq, add_no, wib_t, clamp, nI_add, pk_mul, pk_sub, nor_, nand_, ndif_, shl_, sh1_, shr_, tbn, tb0, tb1, les_t, les_f, pk_div, rem_, remv, and31, wu1, wuc, wui, wu2, ws1, wsc, ws2, wv1, n11_, n13_, n14_, n15_, n17_, n19_, n23_, n56_, n64_, fX11_readsLine_b130, e1, v1, e2]
      · obtain ⟨g5, gc, g9, gi⟩ := gg q
        refine ⟨g5, fun c q1 q2 => ?_, g9, fun _ => ?_, fun c q1 q2 i hi => ?_⟩
        · rw [gc c (by omega) (by omega), fr_at f2 (by omega), fr_at k1.1 (by unfold s188; omega)]
        · rw [gc 218 (by omega) (by omega)]; exact wu1
        · by_cases e : c = 219
          · rw [e, gi i hi, fr_at f2 (by omega), fr_at k1.1 (by unfold s188; omega)]
          · have e : c = 218 := by omega
            rw [e, gc 218 (by omega) (by omega), wui hi, fr_at k1.1 (by unfold s188; omega)]
    · obtain ⟨hr, s9⟩ := o1.2 hq
      subst hr
      have e4 : gTs T 59 (gY4 T a (gTo T (gnm L 0) (gns L) (b, 0))) = gTo T (gnm L 0) (gns L) (b, 0) := by
        unfold gY4
        by_cases ha0 : a = 0
        · rw [if_pos ha0, gNw_f hq, nx_f hq, gTs_f hq]
        · rw [if_neg ha0, gTs_f hq]
      rw [e4]
      refine ⟨false, g1, ?_, ⟨fun q => absurd q hq, fun _ => ⟨rfl, s9⟩⟩, RY_K k1, (by intro q; cases q)⟩
      simp (disch := omega) only [↓reduceIte, wlet, Option.bind_some, true_and, and_true, not_true_eq_false, not_false_eq_true, reduceCtorEq, n0_, n1_, n2_, n3_, n4_, n5_, n6_, n7_, n8_, n9_, n10_, n12_, n16_, n18_, n20_, n21_, n22_, n24_, n25_, n26_, n27_, n28_, n29_, n30_, n31_, n32_, n40_, n41_, n42_, n43_, n45_, n48_, n54_, n57_, n58_, n59_, n60_, n61_, n63_, n96_, n97_, n99_, n100_, n122_, n126_, n200_, n255_, n375_, n400_, n1000_, n2000_, n9999_, n5764801_, n1000000_, n3000_, m1, m2, le_t, le_f, lt_t, lt_f, eq_t, eq_f, no_lt, no_le, le_no, lt_no, eq_no, no_eq, add_no, wib_t, clamp, nI_add, pk_mul, pk_sub, nor_, nand_, ndif_, shl_, sh1_, shr_, tbn, tb0, tb1, les_t, les_f, pk_div, rem_, remv, and31, wu1, wuc, wui, wu2, ws1, wsc, ws2, wv1, n11_, n13_, n14_, n15_, n17_, n19_, n23_, n56_, n64_, fX11_readsLine_b130, e1, Option.isSome_none, Option.isSome_some, Bool.false_eq_true]
theorem ML_Y (hM : ML h L) {g : wSt} (y : RY h g) : ML g L := ML_fr hM y.1 (fun c _ _ => by omega)
theorem YM_add {g : wSt} {Y : gYr} (hY : YM h 5 Y) {a i1 i2 i3 : Nat} (g5 : g.1 215 5 = nI (Y.1 + 1)) (ga : g.1 216 (200 + Y.1) = nI a) (gb : a = 0 → g.1 217 (200 + Y.1) = nI i1 ∧ g.1 219 (200 + Y.1) = nI i3) (gs : a ≠ 3 → g.1 218 (200 + Y.1) = nI i2) (go : ∀ c, 216 ≤ c → c ≤ 219 → ∀ i, i ≠ 200 + Y.1 → g.1 c i = h.1 c i) : YM g 5 (Y.1 + 1, fun i => if i = Y.1 then (a, i1, i2, i3) else Y.2 i) := by
  refine ⟨g5, fun i hi => ?_⟩
  have hi : i < Y.1 + 1 := hi
  show g.1 216 (40 * 5 + i) = nI (if i = Y.1 then (a, i1, i2, i3) else Y.2 i).1 ∧ ((if i = Y.1 then (a, i1, i2, i3) else Y.2 i).1 = 0 → g.1 217 (40 * 5 + i) = nI (if i = Y.1 then (a, i1, i2, i3) else Y.2 i).2.1 ∧ g.1 219 (40 * 5 + i) = nI (if i = Y.1 then (a, i1, i2, i3) else Y.2 i).2.2.2) ∧ ((if i = Y.1 then (a, i1, i2, i3) else Y.2 i).1 ≠ 3 → g.1 218 (40 * 5 + i) = nI (if i = Y.1 then (a, i1, i2, i3) else Y.2 i).2.2.1)
  by_cases e : i = Y.1
  · rw [if_pos e, e]
    exact ⟨ga, gb, gs⟩
  · rw [if_neg e, go 216 (by omega) (by omega) _ (by omega), go 217 (by omega) (by omega) _ (by omega), go 218 (by omega) (by omega) _ (by omega), go 219 (by omega) (by omega) _ (by omega)]
    exact hY.2 i (by omega)
theorem r_b57 (hW : WL L) (hM : ML h L) (hs : SM h T b) {Y : gYr} (hY : YM h 5 Y) (h40 : Y.1 < 40) {a : Nat} (ha : a < 4) : ∃ r g, fX11_readsLine_b57 h (nI a) = some (r, g) ∧ OK g T (gOs L T a b) r ∧ RY h g ∧ (r = true → YM g 5 (Y.1 + 1, fun i => if i = Y.1 then gOe L T a b else Y.2 i)) := by
  have y0 := hY.1
  obtain ⟨g1, e1, s1', j1⟩ := r_next hs
  have k1 := RK_J j1
  have en : nx T (b, 0) = (gTe T b, 0) := by unfold nx; rfl
  have f2 : fr (fun c => c = 216) g1 (wuI g1 216 (200 + Y.1) (nI a)) := fr_wuI rfl
  have s2 := SM_fr s1' f2 (by omega) (by omega)
  have y1 : g1.1 215 5 = nI Y.1 := by rw [fr_at k1.1 (by unfold s188; omega)]; exact y0
  have y2 : (wuI g1 216 (200 + Y.1) (nI a)).1 215 5 = nI Y.1 := by rw [fr_at f2 (by omega)]; exact y1
  have r2 : RY h (wuI g1 216 (200 + Y.1) (nI a)) := RY_tr (RY_K k1) (RY_l (by omega) (by omega) (by omega))
  have hM2 := ML_Y hM r2
  have k188 : ∀ c, 216 ≤ c → c ≤ 219 → g1.1 c = h.1 c := fun c _ _ => fr_at k1.1 (by unfold s188; omega)
  by_cases h1 : a = 0
  · have eOs : gOs L T a b = gTs T 59 (gY4 T a (gY3 L T a (gTo T (gnm L 1) (gnt L) (gTe T b, 0)))) := by unfold gOs gY2; rw [if_pos h1, en]
    have eOe : gOe L T a b = (a, (gNf (gnm L 1) (gnt L) (gTw T (gTe T b))).getD 0, (gNf (gnm L 0) (gns L) (gTw T (gTo T (gnm L 1) (gnt L) (gTe T b, 0)).1)).getD 0, gTn T (gY3 L T a (gTo T (gnm L 1) (gnt L) (gTe T b, 0))).1) := by
      unfold gOe gY2; rw [if_pos h1, if_pos h1, if_neg (show ¬ a = 3 by omega), if_pos h1, en]
    obtain ⟨r1, g2, e2, o1, v1, k2⟩ := r_needsText s2 (nm := gnm L 1) (n := gnt L) hM2.2.1 (fun i hi => ⟨(hW.2.2.2.2.1 i hi).2.2.2.2, (hM2.2.2.2.2.1 i hi).2.2.2⟩) hW.2.1
    rw [eOs, eOe]
    by_cases hq : (gTo T (gnm L 1) (gnt L) (gTe T b, 0)).2 = 0
    · obtain ⟨hr, s3⟩ := o1.1 hq
      subst hr
      obtain ⟨-, j, hj, -⟩ := gTo_2 hq
      have hj : gNf (gnm L 1) (gnt L) (gTw T (gTe T b)) = some j := hj
      have v1 : g2.1 188 36 = nI j := by have := v1 rfl; rw [hj] at this; exact this
      have f3 : fr (fun c => c = 217) g2 (wuI g2 217 (200 + Y.1) (nI j)) := fr_wuI rfl
      have r3 : RY h (wuI g2 217 (200 + Y.1) (nI j)) := RY_tr r2 (RY_tr (RY_K k2) (RY_l (by omega) (by omega) (by omega)))
      have c2 : ∀ c, 215 ≤ c → g2.1 c = (wuI g1 216 (200 + Y.1) (nI a)).1 c := fun c _ => fr_at k2.1 (by unfold s188; omega)
      obtain ⟨r, g, e3, o2, y3, gg⟩ := r_b130 (a := a) hW (ML_Y hM r3) (SM_fr s3 f3 (by omega) (by omega)) h40 ha (by rw [fr_at f3 (by omega), c2 215 (by omega)]; exact y2)
      rw [eta0 hq, hj]
      refine ⟨r, g, ?_, o2, RY_tr r3 y3, fun q => ?_⟩
      · subst h1
        simp (disch := omega) only [↓reduceIte, wlet, Option.bind_some, true_and, and_true, not_true_eq_false, not_false_eq_true, reduceCtorEq, n0_, n1_, n2_, n3_, n4_, n5_, n6_, n7_, n8_, n9_, n10_, n12_, n16_, n18_, n20_, n21_, n22_, n24_, n25_, n26_, n27_, n28_, n29_, n30_, n31_, n32_, n40_, n41_, n42_, n43_, n45_, n48_, n54_, n57_, n58_, n59_, n60_, n61_, n63_, n96_, n97_, n99_, n100_, n122_, n126_, n200_, n255_, n375_, n400_, n1000_, n2000_, n9999_, n5764801_, n1000000_, n3000_, m1, m2, le_t, le_f, lt_t, lt_f, eq_t, eq_f, no_lt, no_le, le_no, lt_no, eq_no, no_eq, add_no, wib_t, clamp, nI_add, pk_mul, pk_sub, nor_, nand_, ndif_, shl_, sh1_, shr_, tbn, tb0, tb1, les_t, les_f, pk_div, rem_, remv, and31, wu1, wuc, wui, wu2, ws1, wsc, ws2, wv1, n11_, n13_, n14_, n15_, n17_, n19_, n23_, n56_, n64_, fX11_readsLine_b57, y0, e1, y1, e2, v1, e3]
      · obtain ⟨g5, gc, g9, g8, gi⟩ := gg q
        refine YM_add hY g5 ?_ (fun q => ⟨?_, g9 q⟩) g8 (fun c q1 q2 i hi => ?_)
        · rw [gc 216 (by omega) (by omega), fr_at f3 (by omega), c2 216 (by omega)]; exact wu1
        · rw [gc 217 (by omega) (by omega)]; exact wu1
        · by_cases e8 : 218 ≤ c
          · rw [gi c e8 q2 i hi, fr_at f3 (by omega), c2 c (by omega), wuc (by omega), k188 c q1 q2]
          · rw [gc c q1 (by omega)]
            by_cases e7 : c = 217
            · rw [e7, wui hi, c2 217 (by omega), wuc (by omega), k188 217 (by omega) (by omega)]
            · have e7 : c = 216 := by omega
              rw [e7, wuc (by omega), c2 216 (by omega), wui hi, k188 216 (by omega) (by omega)]
    · obtain ⟨hr, s9⟩ := o1.2 hq
      subst hr
      have e4 : gTs T 59 (gY4 T a (gY3 L T a (gTo T (gnm L 1) (gnt L) (gTe T b, 0)))) = gTo T (gnm L 1) (gnt L) (gTe T b, 0) := by
        unfold gY4 gY3
        rw [if_pos h1, if_neg (show ¬ a = 3 by omega), gTo_f hq, gNw_f hq, nx_f hq, gTs_f hq]
      rw [e4]
      refine ⟨false, g2, ?_, ⟨fun q => absurd q hq, fun _ => ⟨rfl, s9⟩⟩, RY_tr r2 (RY_K k2), (by intro q; cases q)⟩
      subst h1
      simp (disch := omega) only [↓reduceIte, wlet, Option.bind_some, true_and, and_true, not_true_eq_false, not_false_eq_true, reduceCtorEq, n0_, n1_, n2_, n3_, n4_, n5_, n6_, n7_, n8_, n9_, n10_, n12_, n16_, n18_, n20_, n21_, n22_, n24_, n25_, n26_, n27_, n28_, n29_, n30_, n31_, n32_, n40_, n41_, n42_, n43_, n45_, n48_, n54_, n57_, n58_, n59_, n60_, n61_, n63_, n96_, n97_, n99_, n100_, n122_, n126_, n200_, n255_, n375_, n400_, n1000_, n2000_, n9999_, n5764801_, n1000000_, n3000_, m1, m2, le_t, le_f, lt_t, lt_f, eq_t, eq_f, no_lt, no_le, le_no, lt_no, eq_no, no_eq, add_no, wib_t, clamp, nI_add, pk_mul, pk_sub, nor_, nand_, ndif_, shl_, sh1_, shr_, tbn, tb0, tb1, les_t, les_f, pk_div, rem_, remv, and31, wu1, wuc, wui, wu2, ws1, wsc, ws2, wv1, n11_, n13_, n14_, n15_, n17_, n19_, n23_, n56_, n64_, fX11_readsLine_b57, y0, e1, y1, e2, Option.isSome_none, Option.isSome_some, Bool.false_eq_true]
  · have eOs : gOs L T a b = gTs T 59 (gY4 T a (gY3 L T a (gTe T b, 0))) := by unfold gOs gY2; rw [if_neg h1, en]
    have eOe : gOe L T a b = (a, 0, (if a = 3 then 0 else (gNf (gnm L 0) (gns L) (gTw T (gTe T b))).getD 0), 0) := by
      unfold gOe gY2; rw [if_neg h1, if_neg h1, if_neg h1, en]
    rw [eOs, eOe]
    obtain ⟨r, g, e3, o2, y3, gg⟩ := r_b130 (a := a) hW hM2 s2 h40 ha y2
    refine ⟨r, g, ?_, o2, RY_tr r2 y3, fun q => ?_⟩
    · simp (disch := omega) only [↓reduceIte, wlet, Option.bind_some, true_and, and_true, not_true_eq_false, not_false_eq_true, reduceCtorEq, n0_, n1_, n2_, n3_, n4_, n5_, n6_, n7_, n8_, n9_, n10_, n12_, n16_, n18_, n20_, n21_, n22_, n24_, n25_, n26_, n27_, n28_, n29_, n30_, n31_, n32_, n40_, n41_, n42_, n43_, n45_, n48_, n54_, n57_, n58_, n59_, n60_, n61_, n63_, n96_, n97_, n99_, n100_, n122_, n126_, n200_, n255_, n375_, n400_, n1000_, n2000_, n9999_, n5764801_, n1000000_, n3000_, m1, m2, le_t, le_f, lt_t, lt_f, eq_t, eq_f, no_lt, no_le, le_no, lt_no, eq_no, no_eq, add_no, wib_t, clamp, nI_add, pk_mul, pk_sub, nor_, nand_, ndif_, shl_, sh1_, shr_, tbn, tb0, tb1, les_t, les_f, pk_div, rem_, remv, and31, wu1, wuc, wui, wu2, ws1, wsc, ws2, wv1, n11_, n13_, n14_, n15_, n17_, n19_, n23_, n56_, n64_, fX11_readsLine_b57, y0, e1, y1, e3]
    · obtain ⟨g5, gc, g9, g8, gi⟩ := gg q
      refine YM_add hY g5 ?_ (fun q => absurd q h1) (fun q => by rw [g8 q, if_neg q]) (fun c q1 q2 i hi => ?_)
      · rw [gc 216 (by omega) (by omega)]; exact wu1
      · by_cases e8 : 218 ≤ c
        · rw [gi c e8 q2 i hi, wuc (by omega), k188 c q1 q2]
        · rw [gc c q1 (by omega)]
          by_cases e7 : c = 217
          · rw [e7, wuc (by omega), k188 217 (by omega) (by omega)]
          · have e7 : c = 216 := by omega
            rw [e7, wui hi, k188 216 (by omega) (by omega)]
theorem r_one (hW : WL L) (hM : ML h L) (hs : SM h T b) {Y : gYr} (hY : YM h 5 Y) (hy : Y.1 ≤ 40) : ∃ r g, fX11_readsLine h = some (r, g) ∧ OK g T (gOne L T ((b, 0), Y)).1 r ∧ RY h g ∧ (r = true → YM g 5 (gOne L T ((b, 0), Y)).2) := by
  have y0 := hY.1
  have ea : fX11_readsLine h = fX11_readsLine_b57 h (rI (gAct T b)) := by
    unfold fX11_readsLine gAct
    rw [r_w8 hs, r_w9 hs, r_w10 hs, r_w11 hs]
    simp only [Option.bind_some]
    cases gIs T b 8 <;> cases gIs T b 9 <;> cases gIs T b 10 <;> cases gIs T b 11 <;> rfl
  rw [ea]
  cases hq : gAct T b with
  | none =>
    rw [gOne_n hq]
    obtain ⟨g, e1, s9, k1⟩ := r_fails hs 1
    refine ⟨false, g, ?_, ⟨fun q => absurd q (fl_ne (by omega)), fun _ => ⟨rfl, s9⟩⟩, RY_K k1, (by intro q; cases q)⟩
    have er : rI (none : Option Nat) = wno := rfl
    rw [er]
    simp (disch := omega) only [↓reduceIte, wlet, Option.bind_some, true_and, and_true, not_true_eq_false, not_false_eq_true, reduceCtorEq, n0_, n1_, n2_, n3_, n4_, n5_, n6_, n7_, n8_, n9_, n10_, n12_, n16_, n18_, n20_, n21_, n22_, n24_, n25_, n26_, n27_, n28_, n29_, n30_, n31_, n32_, n40_, n41_, n42_, n43_, n45_, n48_, n54_, n57_, n58_, n59_, n60_, n61_, n63_, n96_, n97_, n99_, n100_, n122_, n126_, n200_, n255_, n375_, n400_, n1000_, n2000_, n9999_, n5764801_, n1000000_, n3000_, m1, m2, le_t, le_f, lt_t, lt_f, eq_t, eq_f, no_lt, no_le, le_no, lt_no, eq_no, no_eq, add_no, wib_t, clamp, nI_add, pk_mul, pk_sub, nor_, nand_, ndif_, shl_, sh1_, shr_, tbn, tb0, tb1, les_t, les_f, pk_div, rem_, remv, and31, wu1, wuc, wui, wu2, ws1, wsc, ws2, wv1, n11_, n13_, n14_, n15_, n17_, n19_, n23_, n56_, n64_, fX11_readsLine_b57, e1]
  | some a =>
    have ha := gAct_lt hq
    have er : rI (some a) = nI a := rfl
    rw [er]
    by_cases h40 : 40 ≤ Y.1
    · rw [gOne_f hq h40]
      obtain ⟨g, e1, s9, k1⟩ := r_fails hs 5
      refine ⟨false, g, ?_, ⟨fun q => absurd q (fl_ne (by omega)), fun _ => ⟨rfl, s9⟩⟩, RY_K k1, (by intro q; cases q)⟩
      have h40' : Y.1 = 40 := by omega
      rw [h40'] at y0
      simp (disch := omega) only [↓reduceIte, wlet, Option.bind_some, true_and, and_true, not_true_eq_false, not_false_eq_true, reduceCtorEq, n0_, n1_, n2_, n3_, n4_, n5_, n6_, n7_, n8_, n9_, n10_, n12_, n16_, n18_, n20_, n21_, n22_, n24_, n25_, n26_, n27_, n28_, n29_, n30_, n31_, n32_, n40_, n41_, n42_, n43_, n45_, n48_, n54_, n57_, n58_, n59_, n60_, n61_, n63_, n96_, n97_, n99_, n100_, n122_, n126_, n200_, n255_, n375_, n400_, n1000_, n2000_, n9999_, n5764801_, n1000000_, n3000_, m1, m2, le_t, le_f, lt_t, lt_f, eq_t, eq_f, no_lt, no_le, le_no, lt_no, eq_no, no_eq, add_no, wib_t, clamp, nI_add, pk_mul, pk_sub, nor_, nand_, ndif_, shl_, sh1_, shr_, tbn, tb0, tb1, les_t, les_f, pk_div, rem_, remv, and31, wu1, wuc, wui, wu2, ws1, wsc, ws2, wv1, n11_, n13_, n14_, n15_, n17_, n19_, n23_, n56_, n64_, fX11_readsLine_b57, y0, e1]
    · rw [gOne_s hq h40]
      exact r_b57 hW hM hs hY (by omega) ha
end G63

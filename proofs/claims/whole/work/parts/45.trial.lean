/-! TRIALS: cost, bears, giveup -/
def gCost (L : gLib) (S : gSh) (t i m : Nat) : Option Nat := if S.2.2.1 i &&& m = 0 then none else match gPlace L (gRub L i m S) t i with | none => none | some _ => some (gWear L S (S.2.2.1 i &&& m) i)
def gGiveSt (L : gLib) (S : gSh) (i : Nat) (a : Int32 × Int32) : Int32 × Int32 :=
  if S.2.2.1 i &&& 63 = 0 then a else if a.2 ≤ nI (gBits (bdf (gWhole L S (gDamp L S.1)) (gWhole L (gRub L i 63 S) (gDamp L S.1)))) then a else (nI i, nI (gBits (bdf (gWhole L S (gDamp L S.1)) (gWhole L (gRub L i 63 S) (gDamp L S.1)))))
def sT (c : Nat) : Prop := c = 15 ∨ (34 ≤ c ∧ c ≤ 38)
def rT (c : Nat) : Prop := (203 ≤ c ∧ c ≤ 214) ∨ c = 225 ∨ c = 227
theorem sT_cs {c : Nat} (h : sT c) : cs c := by unfold sT at h; unfold cs; omega
theorem rT_rt {c : Nat} (h : rT c) : rt c := by unfold rT at h; unfold rt; omega
theorem sk34_sT {c : Nat} (h : sk 34 c) : sT c := by unfold sk at h; unfold sT; omega
theorem sq_sT {c : Nat} (h : sq c) : sT c := Or.inl h
theorem sr_rT {c : Nat} (h : sr c) : rT c := Or.inl h
theorem s225_rT {c : Nat} (h : s225 c) : rT c := Or.inr (Or.inl h)
theorem gPut_thick (L : gLib) (t i j : Nat) (S : gSh) : (gPut L t i j S).2.1 = S.2.1 := by
  unfold gPut
  generalize gtl L t = n
  induction n with
  | zero => rfl
  | succ n ih => rw [gF]; exact ih
theorem gPut_open {L : gLib} {t i j : Nat} {S : gSh} (ht : 1 ≤ gtl L t) : ((gPut L t i j S).2.2.1 i).testBit j = true := by
  have key : ∀ n, ((gF (fun m S => gPut1 t i (j + m) S) (n + 1) S).2.2.1 i).testBit j = true := by
    intro n
    induction n with
    | zero =>
      show (if i = i then S.2.2.1 i ||| 2 ^ (j + 0) else S.2.2.1 i).testBit j = true
      rw [if_pos rfl, Nat.testBit_or, Nat.add_zero, Nat.testBit_two_pow_self, Bool.or_true]
    | succ n ih =>
      rw [gF]
      show (if i = i then (gF (fun m S => gPut1 t i (j + m) S) (n + 1) S).2.2.1 i ||| 2 ^ (j + (n + 1)) else (gF (fun m S => gPut1 t i (j + m) S) (n + 1) S).2.2.1 i).testBit j = true
      rw [if_pos rfl, Nat.testBit_or, ih, Bool.true_or]
  have := key (gtl L t - 1)
  rw [show gtl L t - 1 + 1 = gtl L t by omega] at this
  exact this
theorem and63 {x j : Nat} (h : x.testBit j = true) (hj : j < 6) : x &&& 63 ≠ 0 := by
  intro e
  have h2 : (x &&& 63).testBit j = true := by
    rw [Nat.testBit_and, h, show (63 : Nat) = 2 ^ 6 - 1 from rfl, Nat.testBit_two_pow_sub_one, decide_eq_true hj]
    rfl
  rw [e, Nat.zero_testBit] at h2
  cases h2
section G45
variable {h : wSt} {k : Nat} {L : gLib} {S : gSh} {u : gUn} {M : gMk} {Y : gYr} {N : gSn} {T : gTp}
theorem gPlace_0 (hW : WL L) {t i : Nat} (ht : t < gnt L) (h0 : S.2.1 i = 0) : gPlace L S t i = none := by
  cases e : gPlace L S t i with
  | none => rfl
  | some j =>
    obtain ⟨-, q⟩ := gPlace_can e
    have := (gCan_spec q).2 0 (by have := (hW.2.2.2.2.1 t ht).2.2.1; omega)
    unfold gFr at this
    rw [decide_eq_false (show ¬ 0 < S.2.1 i by omega)] at this
    simp at this
theorem gRub_thick (hW : WL L) (hV : WS L S) {i m : Nat} (hi : i < gns L) (h0 : S.2.2.1 i &&& m ≠ 0) : (gRub L i m S).2.1 i = S.2.1 i - gWear L S (S.2.2.1 i &&& m) i := by
  unfold gRub
  rw [if_neg h0]
  by_cases h1 : S.2.1 i ≤ gWear L S (S.2.2.1 i &&& m) i
  · rw [if_pos h1]
    show (if i = i then 0 else S.2.1 i) = _
    rw [if_pos rfl]; omega
  · rw [if_neg h1]
    show (if i = i then _ else S.2.1 i) = _
    rw [if_pos rfl]
theorem c_trial (hx : CX h L 29 S) : ∃ g, fX6_copyFrom h 34 29 = some g ∧ CX g L 34 S ∧ CX g L 29 S ∧ fr (sk 34) h g := by
  obtain ⟨hW, hC, hV, hS, hk⟩ := hx
  obtain ⟨g, e, s, f⟩ := c_copy h (k := 34) (k0 := 29) hS (by omega)
  have c := CL_fr hC f (fun c _ _ => by unfold sk; omega)
  exact ⟨g, e, ⟨hW, c, hV, s, by omega⟩, ⟨hW, c, hV, SH_fr hS f (fun c _ _ => by unfold sk; omega), hk⟩, f⟩
theorem r_trial (hx : MX h L S) : ∃ g, fX11_copies h 225 25 (nI 0) 227 25 (nI 0) = some g ∧ MX g L S ∧ MS g 227 0 S ∧ fr (fun c => c = 227) h g := by
  obtain ⟨hW, hC, hV, hS⟩ := hx
  obtain ⟨g, e, f, q⟩ := r_copies h (a0 := 225) (g0 := 25) (o := 0) (a2 := 227) (g2 := 25) (o2 := 0) (by omega) (by omega) (by omega) (by omega) (by omega)
  exact ⟨g, e, ⟨hW, ML_fr hC f (fun c _ _ => by omega), hV, MS_fr hS f (by omega)⟩, MS_copies hS q, f⟩
theorem r_back0 {S2 : gSh} (hx : MX h L S2) (hV : WS L S) (hS : MS h 227 0 S) : ∃ g, fX11_copies h 227 25 (nI 0) 225 25 (nI 0) = some g ∧ MX g L S ∧ fr s225 h g := by
  obtain ⟨hW, hC, -, -⟩ := hx
  obtain ⟨g, e, f, q⟩ := r_copies h (a0 := 227) (g0 := 25) (o := 0) (a2 := 225) (g2 := 25) (o2 := 0) (by omega) (by omega) (by omega) (by omega) (by omega)
  exact ⟨g, e, ⟨hW, ML_fr hC f (fun c _ _ => by omega), hV, MS_copies hS q⟩, f⟩
theorem CX_34 {g : wSt} (hx : CX h L 29 S) (f : fr sT h g) : CX g L 29 S := by
  obtain ⟨hW, hC, hV, hS, hk⟩ := hx
  exact ⟨hW, CL_fr hC f (fun c _ _ => by unfold sT; omega), hV, SH_fr hS f (fun c _ _ => by unfold sT; omega), hk⟩
theorem c_cost (hx : CX h L 29 S) {t i m : Nat} (ht : t < gnt L) (hi : i < gns L) : ∃ g, fX10_costOfRubbing h (nI t) (nI i) (nI m) = some (rI (gCost L S t i m), g) ∧ fr sT h g := by
  have n1 := hx.1.1
  have b1 := c_canRub hx (m := m) hi
  unfold gCost
  by_cases h0 : S.2.2.1 i &&& m = 0
  · rw [decide_eq_false (fun q => q h0)] at b1
    rw [if_pos h0]
    refine ⟨h, ?_, fr_rf⟩
    simp (disch := omega) only [↓reduceIte, wlet, Option.bind_some, true_and, and_true, not_true_eq_false, not_false_eq_true, reduceCtorEq, n0_, n1_, n2_, n3_, n4_, n5_, n6_, n7_, n8_, n9_, n10_, n12_, n16_, n18_, n20_, n21_, n22_, n24_, n25_, n26_, n27_, n28_, n29_, n30_, n31_, n32_, n40_, n41_, n42_, n43_, n45_, n48_, n54_, n57_, n58_, n59_, n60_, n61_, n63_, n96_, n97_, n99_, n100_, n122_, n126_, n200_, n255_, n375_, n400_, n1000_, n2000_, n9999_, n5764801_, n1000000_, n3000_, m1, m2, le_t, le_f, lt_t, lt_f, eq_t, eq_f, no_lt, no_le, le_no, lt_no, eq_no, no_eq, add_no, wib_t, clamp, nI_add, pk_mul, pk_sub, nor_, nand_, ndif_, shl_, sh1_, shr_, tbn, tb0, tb1, les_t, les_f, pk_div, rem_, remv, and31, wu1, wuc, wui, wu2, ws1, wsc, ws2, wv1, n11_, n13_, n14_, n15_, n17_, n19_, n23_, n56_, n64_, fX10_costOfRubbing, b1, rI, Option.isSome_none, Option.isSome_some, Bool.false_eq_true]
  · rw [decide_eq_true h0] at b1
    rw [if_neg h0]
    obtain ⟨g1, e1, x1, y1, f1⟩ := c_trial hx
    obtain ⟨g2, e2, x2, f2⟩ := c_rub x1 (m := m) hi
    have e3 := c_place x2 ht hi
    have f12 := fr_mono (fr_tr f1 f2) (fun c => sk34_sT)
    have s1 := ((CX_34 hx f12).2.2.2.1.2.1 i (by omega)).1
    have s2 := (x2.2.2.2.1.2.1 i (by omega)).1
    simp only [Nat.reduceAdd] at s1 s2
    have hb := gWear_b hx.1 hx.2.2.1 (S.2.2.1 i &&& m) (i := i) (by omega)
    have hv := (hx.2.2.1.2.1 i (by omega)).1
    have ht2 := gRub_thick hx.1 hx.2.2.1 hi h0
    refine ⟨g2, ?_, f12⟩
    cases hp : gPlace L (gRub L i m S) t i with
    | none =>
      rw [hp] at e3
      simp (disch := omega) only [↓reduceIte, wlet, Option.bind_some, true_and, and_true, not_true_eq_false, not_false_eq_true, reduceCtorEq, n0_, n1_, n2_, n3_, n4_, n5_, n6_, n7_, n8_, n9_, n10_, n12_, n16_, n18_, n20_, n21_, n22_, n24_, n25_, n26_, n27_, n28_, n29_, n30_, n31_, n32_, n40_, n41_, n42_, n43_, n45_, n48_, n54_, n57_, n58_, n59_, n60_, n61_, n63_, n96_, n97_, n99_, n100_, n122_, n126_, n200_, n255_, n375_, n400_, n1000_, n2000_, n9999_, n5764801_, n1000000_, n3000_, m1, m2, le_t, le_f, lt_t, lt_f, eq_t, eq_f, no_lt, no_le, le_no, lt_no, eq_no, no_eq, add_no, wib_t, clamp, nI_add, pk_mul, pk_sub, nor_, nand_, ndif_, shl_, sh1_, shr_, tbn, tb0, tb1, les_t, les_f, pk_div, rem_, remv, and31, wu1, wuc, wui, wu2, ws1, wsc, ws2, wv1, n11_, n13_, n14_, n15_, n17_, n19_, n23_, n56_, n64_, fX10_costOfRubbing, b1, e1, e2, e3, rI, Option.isSome_none, Option.isSome_some, Bool.false_eq_true]
    | some j =>
      rw [hp] at e3
      have hj := (gPlace_can hp).1
      have l2 := (hx.1.2.2.2.1 i hi).2.1
      have h1 : ¬ S.2.1 i ≤ gWear L S (S.2.2.1 i &&& m) i := by
        intro q
        rw [gPlace_0 hx.1 ht (by rw [ht2]; omega)] at hp
        cases hp
      rw [ht2] at s2
      have e4 : S.2.1 i - (S.2.1 i - gWear L S (S.2.2.1 i &&& m) i) = gWear L S (S.2.2.1 i &&& m) i := by omega
      simp (disch := omega) only [↓reduceIte, wlet, Option.bind_some, true_and, and_true, not_true_eq_false, not_false_eq_true, reduceCtorEq, n0_, n1_, n2_, n3_, n4_, n5_, n6_, n7_, n8_, n9_, n10_, n12_, n16_, n18_, n20_, n21_, n22_, n24_, n25_, n26_, n27_, n28_, n29_, n30_, n31_, n32_, n40_, n41_, n42_, n43_, n45_, n48_, n54_, n57_, n58_, n59_, n60_, n61_, n63_, n96_, n97_, n99_, n100_, n122_, n126_, n200_, n255_, n375_, n400_, n1000_, n2000_, n9999_, n5764801_, n1000000_, n3000_, m1, m2, le_t, le_f, lt_t, lt_f, eq_t, eq_f, no_lt, no_le, le_no, lt_no, eq_no, no_eq, add_no, wib_t, clamp, nI_add, pk_mul, pk_sub, nor_, nand_, ndif_, shl_, sh1_, shr_, tbn, tb0, tb1, les_t, les_f, pk_div, rem_, remv, and31, wu1, wuc, wui, wu2, ws1, wsc, ws2, wv1, n11_, n13_, n14_, n15_, n17_, n19_, n23_, n56_, n64_, fX10_costOfRubbing, b1, e1, e2, e3, s1, s2, e4, rI, Option.isSome_none, Option.isSome_some, Bool.false_eq_true]
theorem r_cost (hx : MX h L S) {t i m : Nat} (ht : t < gnt L) (hi : i < gns L) : ∃ g, fX11_costBy h (nI t) (nI i) (nI m) = some (rI (gCost L S t i m), g) ∧ MX g L S ∧ fr rT h g := by
  have n1 := hx.1.1
  have b1 := r_wear hx (m := m) hi
  have hb := gWear_b hx.1 hx.2.2.1 (S.2.2.1 i &&& m) (i := i) (by omega)
  have hv := (hx.2.2.1.2.1 i (by omega)).1
  have s1 := (hx.2.2.2.2.1 i (by omega)).1
  rw [Nat.zero_add] at s1
  unfold gCost
  by_cases h0 : S.2.2.1 i &&& m = 0
  · rw [if_pos h0] at b1 ⊢
    refine ⟨h, ?_, hx, fr_rf⟩
    simp (disch := omega) only [↓reduceIte, wlet, Option.bind_some, true_and, and_true, not_true_eq_false, not_false_eq_true, reduceCtorEq, n0_, n1_, n2_, n3_, n4_, n5_, n6_, n7_, n8_, n9_, n10_, n12_, n16_, n18_, n20_, n21_, n22_, n24_, n25_, n26_, n27_, n28_, n29_, n30_, n31_, n32_, n40_, n41_, n42_, n43_, n45_, n48_, n54_, n57_, n58_, n59_, n60_, n61_, n63_, n96_, n97_, n99_, n100_, n122_, n126_, n200_, n255_, n375_, n400_, n1000_, n2000_, n9999_, n5764801_, n1000000_, n3000_, m1, m2, le_t, le_f, lt_t, lt_f, eq_t, eq_f, no_lt, no_le, le_no, lt_no, eq_no, no_eq, add_no, wib_t, clamp, nI_add, pk_mul, pk_sub, nor_, nand_, ndif_, shl_, sh1_, shr_, tbn, tb0, tb1, les_t, les_f, pk_div, rem_, remv, and31, wu1, wuc, wui, wu2, ws1, wsc, ws2, wv1, n11_, n13_, n14_, n15_, n17_, n19_, n23_, n56_, n64_, fX11_costBy, b1, rI]
  · rw [if_neg h0] at b1 ⊢
    have ht2 := gRub_thick hx.1 hx.2.2.1 hi h0
    by_cases h1 : S.2.1 i ≤ gWear L S (S.2.2.1 i &&& m) i
    · rw [gPlace_0 hx.1 ht (by rw [ht2]; omega)]
      refine ⟨h, ?_, hx, fr_rf⟩
      simp (disch := omega) only [↓reduceIte, wlet, Option.bind_some, true_and, and_true, not_true_eq_false, not_false_eq_true, reduceCtorEq, n0_, n1_, n2_, n3_, n4_, n5_, n6_, n7_, n8_, n9_, n10_, n12_, n16_, n18_, n20_, n21_, n22_, n24_, n25_, n26_, n27_, n28_, n29_, n30_, n31_, n32_, n40_, n41_, n42_, n43_, n45_, n48_, n54_, n57_, n58_, n59_, n60_, n61_, n63_, n96_, n97_, n99_, n100_, n122_, n126_, n200_, n255_, n375_, n400_, n1000_, n2000_, n9999_, n5764801_, n1000000_, n3000_, m1, m2, le_t, le_f, lt_t, lt_f, eq_t, eq_f, no_lt, no_le, le_no, lt_no, eq_no, no_eq, add_no, wib_t, clamp, nI_add, pk_mul, pk_sub, nor_, nand_, ndif_, shl_, sh1_, shr_, tbn, tb0, tb1, les_t, les_f, pk_div, rem_, remv, and31, wu1, wuc, wui, wu2, ws1, wsc, ws2, wv1, n11_, n13_, n14_, n15_, n17_, n19_, n23_, n56_, n64_, fX11_costBy, b1, s1, rI]
    · obtain ⟨g1, e1, x1, y1, f1⟩ := r_trial hx
      obtain ⟨g2, e2, x2, f2⟩ := r_scrapes x1 hi h0
      have e3 := r_place x2 ht hi
      obtain ⟨g3, e4, x3, f3⟩ := r_back0 x2 hx.2.2.1 (MS_fr y1 f2 (by unfold s225; omega))
      refine ⟨g3, ?_, x3, fr_tr (fr_mono f1 (fun c q => Or.inr (Or.inr q))) (fr_mono (fr_tr f2 f3) (fun c => s225_rT))⟩
      cases hp : gPlace L (gRub L i m S) t i with
      | none =>
        rw [hp] at e3
        simp (disch := omega) only [↓reduceIte, wlet, Option.bind_some, true_and, and_true, not_true_eq_false, not_false_eq_true, reduceCtorEq, n0_, n1_, n2_, n3_, n4_, n5_, n6_, n7_, n8_, n9_, n10_, n12_, n16_, n18_, n20_, n21_, n22_, n24_, n25_, n26_, n27_, n28_, n29_, n30_, n31_, n32_, n40_, n41_, n42_, n43_, n45_, n48_, n54_, n57_, n58_, n59_, n60_, n61_, n63_, n96_, n97_, n99_, n100_, n122_, n126_, n200_, n255_, n375_, n400_, n1000_, n2000_, n9999_, n5764801_, n1000000_, n3000_, m1, m2, le_t, le_f, lt_t, lt_f, eq_t, eq_f, no_lt, no_le, le_no, lt_no, eq_no, no_eq, add_no, wib_t, clamp, nI_add, pk_mul, pk_sub, nor_, nand_, ndif_, shl_, sh1_, shr_, tbn, tb0, tb1, les_t, les_f, pk_div, rem_, remv, and31, wu1, wuc, wui, wu2, ws1, wsc, ws2, wv1, n11_, n13_, n14_, n15_, n17_, n19_, n23_, n56_, n64_, fX11_costBy, fX11_costBy_b61, b1, s1, e1, e2, e3, e4, rI]
      | some j =>
        rw [hp] at e3
        have hj := (gPlace_can hp).1
        have l2 := (hx.1.2.2.2.1 i hi).2.1
        simp (disch := omega) only [↓reduceIte, wlet, Option.bind_some, true_and, and_true, not_true_eq_false, not_false_eq_true, reduceCtorEq, n0_, n1_, n2_, n3_, n4_, n5_, n6_, n7_, n8_, n9_, n10_, n12_, n16_, n18_, n20_, n21_, n22_, n24_, n25_, n26_, n27_, n28_, n29_, n30_, n31_, n32_, n40_, n41_, n42_, n43_, n45_, n48_, n54_, n57_, n58_, n59_, n60_, n61_, n63_, n96_, n97_, n99_, n100_, n122_, n126_, n200_, n255_, n375_, n400_, n1000_, n2000_, n9999_, n5764801_, n1000000_, n3000_, m1, m2, le_t, le_f, lt_t, lt_f, eq_t, eq_f, no_lt, no_le, le_no, lt_no, eq_no, no_eq, add_no, wib_t, clamp, nI_add, pk_mul, pk_sub, nor_, nand_, ndif_, shl_, sh1_, shr_, tbn, tb0, tb1, les_t, les_f, pk_div, rem_, remv, and31, wu1, wuc, wui, wu2, ws1, wsc, ws2, wv1, n11_, n13_, n14_, n15_, n17_, n19_, n23_, n56_, n64_, fX11_costBy, fX11_costBy_b61, b1, s1, e1, e2, e3, e4, rI]
theorem gCost_b (hW : WL L) (hV : WS L S) {t i m x : Nat} (hi : i < gns L) (h : gCost L S t i m = some x) : x ≤ 3 := by
  have n1 := hW.1
  unfold gCost at h
  split at h
  · cases h
  · split at h
    · cases h
    · cases h
      exact (gWear_b hW hV _ (by omega)).2
theorem op_cost (hI : Inv k h) (x0 x1 : Int32) : ∃ r h1 h2, fX10_cost h x0 x1 = some (r, h1) ∧ fX11_cost h1 x0 x1 = some (r, h2) ∧ Inv k h2 := by
  obtain ⟨L, S, u, M, Y, N, T, W, C, R⟩ := hI
  have hC := W_CX W C
  have a1 := c_hasText W.1 C.1 x0
  have a3 := c_hasSkin W.1 C.1 x1
  have R0 := MI_0 R (nI 0)
  have a2 := r_isText W.1 R0.1 x0
  have a4 := r_isSkin W.1 R0.1 x1
  cases e : gIx (gnt L) x0 with
  | none =>
    rw [e] at a1 a2
    refine ⟨wno, h, _, ?_, ?_, Inv_q0 W C R fr_rf⟩
    · simp (disch := omega) only [↓reduceIte, wlet, Option.bind_some, true_and, and_true, not_true_eq_false, not_false_eq_true, reduceCtorEq, n0_, n1_, n2_, n3_, n4_, n5_, n6_, n7_, n8_, n9_, n10_, n12_, n16_, n18_, n20_, n21_, n22_, n24_, n25_, n26_, n27_, n28_, n29_, n30_, n31_, n32_, n40_, n41_, n42_, n43_, n45_, n48_, n54_, n57_, n58_, n59_, n60_, n61_, n63_, n96_, n97_, n99_, n100_, n122_, n126_, n200_, n255_, n375_, n400_, n1000_, n2000_, n9999_, n5764801_, n1000000_, n3000_, m1, m2, le_t, le_f, lt_t, lt_f, eq_t, eq_f, no_lt, no_le, le_no, lt_no, eq_no, no_eq, add_no, wib_t, clamp, nI_add, pk_mul, pk_sub, nor_, nand_, ndif_, shl_, sh1_, shr_, tbn, tb0, tb1, les_t, les_f, pk_div, rem_, remv, and31, wu1, wuc, wui, wu2, ws1, wsc, ws2, wv1, n11_, n13_, n14_, n15_, n17_, n19_, n23_, n56_, n64_, fX10_cost, a1, Option.isSome_none, Option.isSome_some, Bool.false_eq_true]
    · simp (disch := omega) only [↓reduceIte, wlet, Option.bind_some, true_and, and_true, not_true_eq_false, not_false_eq_true, reduceCtorEq, n0_, n1_, n2_, n3_, n4_, n5_, n6_, n7_, n8_, n9_, n10_, n12_, n16_, n18_, n20_, n21_, n22_, n24_, n25_, n26_, n27_, n28_, n29_, n30_, n31_, n32_, n40_, n41_, n42_, n43_, n45_, n48_, n54_, n57_, n58_, n59_, n60_, n61_, n63_, n96_, n97_, n99_, n100_, n122_, n126_, n200_, n255_, n375_, n400_, n1000_, n2000_, n9999_, n5764801_, n1000000_, n3000_, m1, m2, le_t, le_f, lt_t, lt_f, eq_t, eq_f, no_lt, no_le, le_no, lt_no, eq_no, no_eq, add_no, wib_t, clamp, nI_add, pk_mul, pk_sub, nor_, nand_, ndif_, shl_, sh1_, shr_, tbn, tb0, tb1, les_t, les_f, pk_div, rem_, remv, and31, wu1, wuc, wui, wu2, ws1, wsc, ws2, wv1, n11_, n13_, n14_, n15_, n17_, n19_, n23_, n56_, n64_, fX11_cost, a2, Option.isSome_none, Option.isSome_some, Bool.false_eq_true]
  | some t =>
    obtain ⟨rfl, ht⟩ := gIx_some e
    rw [e] at a1 a2
    cases e1 : gIx (gns L) x1 with
    | none =>
      rw [e1] at a3 a4
      refine ⟨wno, h, _, ?_, ?_, Inv_q0 W C R fr_rf⟩
      · simp (disch := omega) only [↓reduceIte, wlet, Option.bind_some, true_and, and_true, not_true_eq_false, not_false_eq_true, reduceCtorEq, n0_, n1_, n2_, n3_, n4_, n5_, n6_, n7_, n8_, n9_, n10_, n12_, n16_, n18_, n20_, n21_, n22_, n24_, n25_, n26_, n27_, n28_, n29_, n30_, n31_, n32_, n40_, n41_, n42_, n43_, n45_, n48_, n54_, n57_, n58_, n59_, n60_, n61_, n63_, n96_, n97_, n99_, n100_, n122_, n126_, n200_, n255_, n375_, n400_, n1000_, n2000_, n9999_, n5764801_, n1000000_, n3000_, m1, m2, le_t, le_f, lt_t, lt_f, eq_t, eq_f, no_lt, no_le, le_no, lt_no, eq_no, no_eq, add_no, wib_t, clamp, nI_add, pk_mul, pk_sub, nor_, nand_, ndif_, shl_, sh1_, shr_, tbn, tb0, tb1, les_t, les_f, pk_div, rem_, remv, and31, wu1, wuc, wui, wu2, ws1, wsc, ws2, wv1, n11_, n13_, n14_, n15_, n17_, n19_, n23_, n56_, n64_, fX10_cost, a1, a3, Option.isSome_none, Option.isSome_some, Bool.false_eq_true]
      · simp (disch := omega) only [↓reduceIte, wlet, Option.bind_some, true_and, and_true, not_true_eq_false, not_false_eq_true, reduceCtorEq, n0_, n1_, n2_, n3_, n4_, n5_, n6_, n7_, n8_, n9_, n10_, n12_, n16_, n18_, n20_, n21_, n22_, n24_, n25_, n26_, n27_, n28_, n29_, n30_, n31_, n32_, n40_, n41_, n42_, n43_, n45_, n48_, n54_, n57_, n58_, n59_, n60_, n61_, n63_, n96_, n97_, n99_, n100_, n122_, n126_, n200_, n255_, n375_, n400_, n1000_, n2000_, n9999_, n5764801_, n1000000_, n3000_, m1, m2, le_t, le_f, lt_t, lt_f, eq_t, eq_f, no_lt, no_le, le_no, lt_no, eq_no, no_eq, add_no, wib_t, clamp, nI_add, pk_mul, pk_sub, nor_, nand_, ndif_, shl_, sh1_, shr_, tbn, tb0, tb1, les_t, les_f, pk_div, rem_, remv, and31, wu1, wuc, wui, wu2, ws1, wsc, ws2, wv1, n11_, n13_, n14_, n15_, n17_, n19_, n23_, n56_, n64_, fX11_cost, a2, a4, Option.isSome_none, Option.isSome_some, Bool.false_eq_true]
    | some i =>
      obtain ⟨rfl, hi⟩ := gIx_some e1
      rw [e1] at a3 a4
      have b1 := c_place hC ht hi
      have b2 := r_place (W_MX W R0) ht hi
      cases hp : gPlace L S t i with
      | some j =>
        have hj := (gPlace_can hp).1
        have l2 := (W.1.2.2.2.1 i hi).2.1
        rw [hp] at b1 b2
        refine ⟨nI 0, h, _, ?_, ?_, Inv_q0 W C R fr_rf⟩
        · simp (disch := omega) only [↓reduceIte, wlet, Option.bind_some, true_and, and_true, not_true_eq_false, not_false_eq_true, reduceCtorEq, n0_, n1_, n2_, n3_, n4_, n5_, n6_, n7_, n8_, n9_, n10_, n12_, n16_, n18_, n20_, n21_, n22_, n24_, n25_, n26_, n27_, n28_, n29_, n30_, n31_, n32_, n40_, n41_, n42_, n43_, n45_, n48_, n54_, n57_, n58_, n59_, n60_, n61_, n63_, n96_, n97_, n99_, n100_, n122_, n126_, n200_, n255_, n375_, n400_, n1000_, n2000_, n9999_, n5764801_, n1000000_, n3000_, m1, m2, le_t, le_f, lt_t, lt_f, eq_t, eq_f, no_lt, no_le, le_no, lt_no, eq_no, no_eq, add_no, wib_t, clamp, nI_add, pk_mul, pk_sub, nor_, nand_, ndif_, shl_, sh1_, shr_, tbn, tb0, tb1, les_t, les_f, pk_div, rem_, remv, and31, wu1, wuc, wui, wu2, ws1, wsc, ws2, wv1, n11_, n13_, n14_, n15_, n17_, n19_, n23_, n56_, n64_, fX10_cost, a1, a3, b1, rI, Option.isSome_none, Option.isSome_some, Bool.false_eq_true]
        · simp (disch := omega) only [↓reduceIte, wlet, Option.bind_some, true_and, and_true, not_true_eq_false, not_false_eq_true, reduceCtorEq, n0_, n1_, n2_, n3_, n4_, n5_, n6_, n7_, n8_, n9_, n10_, n12_, n16_, n18_, n20_, n21_, n22_, n24_, n25_, n26_, n27_, n28_, n29_, n30_, n31_, n32_, n40_, n41_, n42_, n43_, n45_, n48_, n54_, n57_, n58_, n59_, n60_, n61_, n63_, n96_, n97_, n99_, n100_, n122_, n126_, n200_, n255_, n375_, n400_, n1000_, n2000_, n9999_, n5764801_, n1000000_, n3000_, m1, m2, le_t, le_f, lt_t, lt_f, eq_t, eq_f, no_lt, no_le, le_no, lt_no, eq_no, no_eq, add_no, wib_t, clamp, nI_add, pk_mul, pk_sub, nor_, nand_, ndif_, shl_, sh1_, shr_, tbn, tb0, tb1, les_t, les_f, pk_div, rem_, remv, and31, wu1, wuc, wui, wu2, ws1, wsc, ws2, wv1, n11_, n13_, n14_, n15_, n17_, n19_, n23_, n56_, n64_, fX11_cost, a2, a4, b2, rI, Option.isSome_none, Option.isSome_some, Bool.false_eq_true]
      | none =>
        rw [hp] at b1
        obtain ⟨g1, c1, f1⟩ := c_cost hC (m := 9) ht hi
        obtain ⟨g2, c2, f2⟩ := c_cost (CX_34 hC f1) (m := 63) ht hi
        have f12 := fr_mono (fr_tr f1 f2) (fun c => sT_cs)
        have R1 := MI_0 (MI_cls R (fr_mono f12 (fun c => cs_cls))) (nI 0)
        have a2 := r_isText W.1 R1.1 (nI t)
        have a4 := r_isSkin W.1 R1.1 (nI i)
        have b2 := r_place (W_MX W R1) ht hi
        rw [e] at a2
        rw [e1] at a4
        rw [hp] at b2
        obtain ⟨g3, d1, mm1, f3⟩ := r_cost (W_MX W R1) (m := 9) ht hi
        obtain ⟨g4, d2, mm2, f4⟩ := r_cost mm1 (m := 63) ht hi
        have hfin := Inv_qr W C R f12 (fr_mono (fr_tr f3 f4) (fun c => rT_rt)) mm2.2.2.2
        have hA := fun x => gCost_b (x := x) W.1 W.2.1 (t := t) (m := 9) hi
        have hB := fun x => gCost_b (x := x) W.1 W.2.1 (t := t) (m := 63) hi
        revert c1 c2 d1 d2 hA hB
        generalize gCost L S t i 9 = A
        generalize gCost L S t i 63 = B
        intro c1 c2 d1 d2 hA hB
        have mx1 : wmx wno wno = wno := rfl
        cases A with
        | none =>
          cases B with
          | none =>
            refine ⟨wno, g2, g4, ?_, ?_, hfin⟩
            · simp (disch := omega) only [↓reduceIte, wlet, Option.bind_some, true_and, and_true, not_true_eq_false, not_false_eq_true, reduceCtorEq, n0_, n1_, n2_, n3_, n4_, n5_, n6_, n7_, n8_, n9_, n10_, n12_, n16_, n18_, n20_, n21_, n22_, n24_, n25_, n26_, n27_, n28_, n29_, n30_, n31_, n32_, n40_, n41_, n42_, n43_, n45_, n48_, n54_, n57_, n58_, n59_, n60_, n61_, n63_, n96_, n97_, n99_, n100_, n122_, n126_, n200_, n255_, n375_, n400_, n1000_, n2000_, n9999_, n5764801_, n1000000_, n3000_, m1, m2, le_t, le_f, lt_t, lt_f, eq_t, eq_f, no_lt, no_le, le_no, lt_no, eq_no, no_eq, add_no, wib_t, clamp, nI_add, pk_mul, pk_sub, nor_, nand_, ndif_, shl_, sh1_, shr_, tbn, tb0, tb1, les_t, les_f, pk_div, rem_, remv, and31, wu1, wuc, wui, wu2, ws1, wsc, ws2, wv1, n11_, n13_, n14_, n15_, n17_, n19_, n23_, n56_, n64_, fX10_cost, fX10_cost_b69, a1, a3, b1, c1, c2, rI, mx1, Option.isSome_none, Option.isSome_some, Bool.false_eq_true]
            · simp (disch := omega) only [↓reduceIte, wlet, Option.bind_some, true_and, and_true, not_true_eq_false, not_false_eq_true, reduceCtorEq, n0_, n1_, n2_, n3_, n4_, n5_, n6_, n7_, n8_, n9_, n10_, n12_, n16_, n18_, n20_, n21_, n22_, n24_, n25_, n26_, n27_, n28_, n29_, n30_, n31_, n32_, n40_, n41_, n42_, n43_, n45_, n48_, n54_, n57_, n58_, n59_, n60_, n61_, n63_, n96_, n97_, n99_, n100_, n122_, n126_, n200_, n255_, n375_, n400_, n1000_, n2000_, n9999_, n5764801_, n1000000_, n3000_, m1, m2, le_t, le_f, lt_t, lt_f, eq_t, eq_f, no_lt, no_le, le_no, lt_no, eq_no, no_eq, add_no, wib_t, clamp, nI_add, pk_mul, pk_sub, nor_, nand_, ndif_, shl_, sh1_, shr_, tbn, tb0, tb1, les_t, les_f, pk_div, rem_, remv, and31, wu1, wuc, wui, wu2, ws1, wsc, ws2, wv1, n11_, n13_, n14_, n15_, n17_, n19_, n23_, n56_, n64_, fX11_cost, a2, a4, b2, d1, d2, rI, no_lt, le_no, Option.isSome_none, Option.isSome_some, Bool.false_eq_true]
          | some b =>
            have := hB b rfl
            have mx2 : wmx wno (nI b) = nI b := if_pos (of_eq_true (no_lt (by omega)))
            refine ⟨nI b, g2, g4, ?_, ?_, hfin⟩
            · simp (disch := omega) only [↓reduceIte, wlet, Option.bind_some, true_and, and_true, not_true_eq_false, not_false_eq_true, reduceCtorEq, n0_, n1_, n2_, n3_, n4_, n5_, n6_, n7_, n8_, n9_, n10_, n12_, n16_, n18_, n20_, n21_, n22_, n24_, n25_, n26_, n27_, n28_, n29_, n30_, n31_, n32_, n40_, n41_, n42_, n43_, n45_, n48_, n54_, n57_, n58_, n59_, n60_, n61_, n63_, n96_, n97_, n99_, n100_, n122_, n126_, n200_, n255_, n375_, n400_, n1000_, n2000_, n9999_, n5764801_, n1000000_, n3000_, m1, m2, le_t, le_f, lt_t, lt_f, eq_t, eq_f, no_lt, no_le, le_no, lt_no, eq_no, no_eq, add_no, wib_t, clamp, nI_add, pk_mul, pk_sub, nor_, nand_, ndif_, shl_, sh1_, shr_, tbn, tb0, tb1, les_t, les_f, pk_div, rem_, remv, and31, wu1, wuc, wui, wu2, ws1, wsc, ws2, wv1, n11_, n13_, n14_, n15_, n17_, n19_, n23_, n56_, n64_, fX10_cost, fX10_cost_b69, a1, a3, b1, c1, c2, rI, mx2, Option.isSome_none, Option.isSome_some, Bool.false_eq_true]
            · simp (disch := omega) only [↓reduceIte, wlet, Option.bind_some, true_and, and_true, not_true_eq_false, not_false_eq_true, reduceCtorEq, n0_, n1_, n2_, n3_, n4_, n5_, n6_, n7_, n8_, n9_, n10_, n12_, n16_, n18_, n20_, n21_, n22_, n24_, n25_, n26_, n27_, n28_, n29_, n30_, n31_, n32_, n40_, n41_, n42_, n43_, n45_, n48_, n54_, n57_, n58_, n59_, n60_, n61_, n63_, n96_, n97_, n99_, n100_, n122_, n126_, n200_, n255_, n375_, n400_, n1000_, n2000_, n9999_, n5764801_, n1000000_, n3000_, m1, m2, le_t, le_f, lt_t, lt_f, eq_t, eq_f, no_lt, no_le, le_no, lt_no, eq_no, no_eq, add_no, wib_t, clamp, nI_add, pk_mul, pk_sub, nor_, nand_, ndif_, shl_, sh1_, shr_, tbn, tb0, tb1, les_t, les_f, pk_div, rem_, remv, and31, wu1, wuc, wui, wu2, ws1, wsc, ws2, wv1, n11_, n13_, n14_, n15_, n17_, n19_, n23_, n56_, n64_, fX11_cost, a2, a4, b2, d1, d2, rI, no_lt, le_no, Option.isSome_none, Option.isSome_some, Bool.false_eq_true]
        | some a =>
          have := hA a rfl
          cases B with
          | none =>
            have mx2 : wmx (nI a) wno = nI a := if_neg (of_eq_false (lt_no (by omega)))
            refine ⟨nI a, g2, g4, ?_, ?_, hfin⟩
            · simp (disch := omega) only [↓reduceIte, wlet, Option.bind_some, true_and, and_true, not_true_eq_false, not_false_eq_true, reduceCtorEq, n0_, n1_, n2_, n3_, n4_, n5_, n6_, n7_, n8_, n9_, n10_, n12_, n16_, n18_, n20_, n21_, n22_, n24_, n25_, n26_, n27_, n28_, n29_, n30_, n31_, n32_, n40_, n41_, n42_, n43_, n45_, n48_, n54_, n57_, n58_, n59_, n60_, n61_, n63_, n96_, n97_, n99_, n100_, n122_, n126_, n200_, n255_, n375_, n400_, n1000_, n2000_, n9999_, n5764801_, n1000000_, n3000_, m1, m2, le_t, le_f, lt_t, lt_f, eq_t, eq_f, no_lt, no_le, le_no, lt_no, eq_no, no_eq, add_no, wib_t, clamp, nI_add, pk_mul, pk_sub, nor_, nand_, ndif_, shl_, sh1_, shr_, tbn, tb0, tb1, les_t, les_f, pk_div, rem_, remv, and31, wu1, wuc, wui, wu2, ws1, wsc, ws2, wv1, n11_, n13_, n14_, n15_, n17_, n19_, n23_, n56_, n64_, fX10_cost, fX10_cost_b69, a1, a3, b1, c1, c2, rI, mx2, Option.isSome_none, Option.isSome_some, Bool.false_eq_true]
            · simp (disch := omega) only [↓reduceIte, wlet, Option.bind_some, true_and, and_true, not_true_eq_false, not_false_eq_true, reduceCtorEq, n0_, n1_, n2_, n3_, n4_, n5_, n6_, n7_, n8_, n9_, n10_, n12_, n16_, n18_, n20_, n21_, n22_, n24_, n25_, n26_, n27_, n28_, n29_, n30_, n31_, n32_, n40_, n41_, n42_, n43_, n45_, n48_, n54_, n57_, n58_, n59_, n60_, n61_, n63_, n96_, n97_, n99_, n100_, n122_, n126_, n200_, n255_, n375_, n400_, n1000_, n2000_, n9999_, n5764801_, n1000000_, n3000_, m1, m2, le_t, le_f, lt_t, lt_f, eq_t, eq_f, no_lt, no_le, le_no, lt_no, eq_no, no_eq, add_no, wib_t, clamp, nI_add, pk_mul, pk_sub, nor_, nand_, ndif_, shl_, sh1_, shr_, tbn, tb0, tb1, les_t, les_f, pk_div, rem_, remv, and31, wu1, wuc, wui, wu2, ws1, wsc, ws2, wv1, n11_, n13_, n14_, n15_, n17_, n19_, n23_, n56_, n64_, fX11_cost, a2, a4, b2, d1, d2, rI, no_lt, le_no, Option.isSome_none, Option.isSome_some, Bool.false_eq_true]
          | some b =>
            have := hB b rfl
            refine ⟨wmn (nI a) (nI b), g2, g4, ?_, ?_, hfin⟩
            · simp (disch := omega) only [↓reduceIte, wlet, Option.bind_some, true_and, and_true, not_true_eq_false, not_false_eq_true, reduceCtorEq, n0_, n1_, n2_, n3_, n4_, n5_, n6_, n7_, n8_, n9_, n10_, n12_, n16_, n18_, n20_, n21_, n22_, n24_, n25_, n26_, n27_, n28_, n29_, n30_, n31_, n32_, n40_, n41_, n42_, n43_, n45_, n48_, n54_, n57_, n58_, n59_, n60_, n61_, n63_, n96_, n97_, n99_, n100_, n122_, n126_, n200_, n255_, n375_, n400_, n1000_, n2000_, n9999_, n5764801_, n1000000_, n3000_, m1, m2, le_t, le_f, lt_t, lt_f, eq_t, eq_f, no_lt, no_le, le_no, lt_no, eq_no, no_eq, add_no, wib_t, clamp, nI_add, pk_mul, pk_sub, nor_, nand_, ndif_, shl_, sh1_, shr_, tbn, tb0, tb1, les_t, les_f, pk_div, rem_, remv, and31, wu1, wuc, wui, wu2, ws1, wsc, ws2, wv1, n11_, n13_, n14_, n15_, n17_, n19_, n23_, n56_, n64_, fX10_cost, fX10_cost_b69, a1, a3, b1, c1, c2, rI, Option.isSome_none, Option.isSome_some, Bool.false_eq_true]
            · simp (disch := omega) only [↓reduceIte, wlet, Option.bind_some, true_and, and_true, not_true_eq_false, not_false_eq_true, reduceCtorEq, n0_, n1_, n2_, n3_, n4_, n5_, n6_, n7_, n8_, n9_, n10_, n12_, n16_, n18_, n20_, n21_, n22_, n24_, n25_, n26_, n27_, n28_, n29_, n30_, n31_, n32_, n40_, n41_, n42_, n43_, n45_, n48_, n54_, n57_, n58_, n59_, n60_, n61_, n63_, n96_, n97_, n99_, n100_, n122_, n126_, n200_, n255_, n375_, n400_, n1000_, n2000_, n9999_, n5764801_, n1000000_, n3000_, m1, m2, le_t, le_f, lt_t, lt_f, eq_t, eq_f, no_lt, no_le, le_no, lt_no, eq_no, no_eq, add_no, wib_t, clamp, nI_add, pk_mul, pk_sub, nor_, nand_, ndif_, shl_, sh1_, shr_, tbn, tb0, tb1, les_t, les_f, pk_div, rem_, remv, and31, wu1, wuc, wui, wu2, ws1, wsc, ws2, wv1, n11_, n13_, n14_, n15_, n17_, n19_, n23_, n56_, n64_, fX11_cost, a2, a4, b2, d1, d2, rI, no_lt, le_no, Option.isSome_none, Option.isSome_some, Bool.false_eq_true]
theorem op_bears (hI : Inv k h) (x0 x1 : Int32) : ∃ r h1 h2, fX10_bears h x0 x1 = some (r, h1) ∧ fX11_bears h1 x0 x1 = some (r, h2) ∧ Inv k h2 := by
  obtain ⟨L, S, u, M, Y, N, T, W, C, R⟩ := hI
  have hC := W_CX W C
  have n1 := W.1.1
  have a1 := c_hasSkin W.1 C.1 x0
  have a3 := c_hasText W.1 C.1 x1
  have R0 := MI_0 R (nI 0)
  have a2 := r_isSkin W.1 R0.1 x0
  have a4 := r_isText W.1 R0.1 x1
  cases e : gIx (gns L) x0 with
  | none =>
    rw [e] at a1 a2
    refine ⟨wno, h, _, ?_, ?_, Inv_q0 W C R fr_rf⟩
    · simp (disch := omega) only [↓reduceIte, wlet, Option.bind_some, true_and, and_true, not_true_eq_false, not_false_eq_true, reduceCtorEq, n0_, n1_, n2_, n3_, n4_, n5_, n6_, n7_, n8_, n9_, n10_, n12_, n16_, n18_, n20_, n21_, n22_, n24_, n25_, n26_, n27_, n28_, n29_, n30_, n31_, n32_, n40_, n41_, n42_, n43_, n45_, n48_, n54_, n57_, n58_, n59_, n60_, n61_, n63_, n96_, n97_, n99_, n100_, n122_, n126_, n200_, n255_, n375_, n400_, n1000_, n2000_, n9999_, n5764801_, n1000000_, n3000_, m1, m2, le_t, le_f, lt_t, lt_f, eq_t, eq_f, no_lt, no_le, le_no, lt_no, eq_no, no_eq, add_no, wib_t, clamp, nI_add, pk_mul, pk_sub, nor_, nand_, ndif_, shl_, sh1_, shr_, tbn, tb0, tb1, les_t, les_f, pk_div, rem_, remv, and31, wu1, wuc, wui, wu2, ws1, wsc, ws2, wv1, n11_, n13_, n14_, n15_, n17_, n19_, n23_, n56_, n64_, fX10_bears, a1, Option.isSome_none, Option.isSome_some, Bool.false_eq_true]
    · simp (disch := omega) only [↓reduceIte, wlet, Option.bind_some, true_and, and_true, not_true_eq_false, not_false_eq_true, reduceCtorEq, n0_, n1_, n2_, n3_, n4_, n5_, n6_, n7_, n8_, n9_, n10_, n12_, n16_, n18_, n20_, n21_, n22_, n24_, n25_, n26_, n27_, n28_, n29_, n30_, n31_, n32_, n40_, n41_, n42_, n43_, n45_, n48_, n54_, n57_, n58_, n59_, n60_, n61_, n63_, n96_, n97_, n99_, n100_, n122_, n126_, n200_, n255_, n375_, n400_, n1000_, n2000_, n9999_, n5764801_, n1000000_, n3000_, m1, m2, le_t, le_f, lt_t, lt_f, eq_t, eq_f, no_lt, no_le, le_no, lt_no, eq_no, no_eq, add_no, wib_t, clamp, nI_add, pk_mul, pk_sub, nor_, nand_, ndif_, shl_, sh1_, shr_, tbn, tb0, tb1, les_t, les_f, pk_div, rem_, remv, and31, wu1, wuc, wui, wu2, ws1, wsc, ws2, wv1, n11_, n13_, n14_, n15_, n17_, n19_, n23_, n56_, n64_, fX11_bears, a2, Option.isSome_none, Option.isSome_some, Bool.false_eq_true]
  | some i =>
    obtain ⟨rfl, hi⟩ := gIx_some e
    rw [e] at a1 a2
    cases e1 : gIx (gnt L) x1 with
    | none =>
      rw [e1] at a3 a4
      refine ⟨wno, h, _, ?_, ?_, Inv_q0 W C R fr_rf⟩
      · simp (disch := omega) only [↓reduceIte, wlet, Option.bind_some, true_and, and_true, not_true_eq_false, not_false_eq_true, reduceCtorEq, n0_, n1_, n2_, n3_, n4_, n5_, n6_, n7_, n8_, n9_, n10_, n12_, n16_, n18_, n20_, n21_, n22_, n24_, n25_, n26_, n27_, n28_, n29_, n30_, n31_, n32_, n40_, n41_, n42_, n43_, n45_, n48_, n54_, n57_, n58_, n59_, n60_, n61_, n63_, n96_, n97_, n99_, n100_, n122_, n126_, n200_, n255_, n375_, n400_, n1000_, n2000_, n9999_, n5764801_, n1000000_, n3000_, m1, m2, le_t, le_f, lt_t, lt_f, eq_t, eq_f, no_lt, no_le, le_no, lt_no, eq_no, no_eq, add_no, wib_t, clamp, nI_add, pk_mul, pk_sub, nor_, nand_, ndif_, shl_, sh1_, shr_, tbn, tb0, tb1, les_t, les_f, pk_div, rem_, remv, and31, wu1, wuc, wui, wu2, ws1, wsc, ws2, wv1, n11_, n13_, n14_, n15_, n17_, n19_, n23_, n56_, n64_, fX10_bears, a1, a3, Option.isSome_none, Option.isSome_some, Bool.false_eq_true]
      · simp (disch := omega) only [↓reduceIte, wlet, Option.bind_some, true_and, and_true, not_true_eq_false, not_false_eq_true, reduceCtorEq, n0_, n1_, n2_, n3_, n4_, n5_, n6_, n7_, n8_, n9_, n10_, n12_, n16_, n18_, n20_, n21_, n22_, n24_, n25_, n26_, n27_, n28_, n29_, n30_, n31_, n32_, n40_, n41_, n42_, n43_, n45_, n48_, n54_, n57_, n58_, n59_, n60_, n61_, n63_, n96_, n97_, n99_, n100_, n122_, n126_, n200_, n255_, n375_, n400_, n1000_, n2000_, n9999_, n5764801_, n1000000_, n3000_, m1, m2, le_t, le_f, lt_t, lt_f, eq_t, eq_f, no_lt, no_le, le_no, lt_no, eq_no, no_eq, add_no, wib_t, clamp, nI_add, pk_mul, pk_sub, nor_, nand_, ndif_, shl_, sh1_, shr_, tbn, tb0, tb1, les_t, les_f, pk_div, rem_, remv, and31, wu1, wuc, wui, wu2, ws1, wsc, ws2, wv1, n11_, n13_, n14_, n15_, n17_, n19_, n23_, n56_, n64_, fX11_bears, a2, a4, Option.isSome_none, Option.isSome_some, Bool.false_eq_true]
    | some t =>
      obtain ⟨rfl, ht⟩ := gIx_some e1
      rw [e1] at a3
      have l2 := (W.1.2.2.2.1 i hi).2.1
      have t1 := (W.1.2.2.2.2.1 t ht).2.2.1
      have hv := (W.2.1.2.1 i (by omega)).1
      obtain ⟨g1, c1, x1, y1, f1⟩ := c_trial hC
      have s1 := (y1.2.2.2.1.2.1 i (by omega)).1
      simp only [Nat.reduceAdd] at s1
      -- the other side starts from the same numbers; its heap is chosen after this side's end, so run the loops over any heap of it
      have key : ∀ h2 : wSt, MX h2 L S → MS h2 227 0 S → ∃ r q1 q2, wit (fun v : (Int32 × Int32 × wSt) => fX10_bears_l51 v.2.2 (nI i) (nI t) (nI (S.2.1 i)) v.1 v.2.1) 3000 (nI 0, nI 0, g1) = some (r, q1) ∧ wit (fun v : (Int32 × Int32 × wSt) => fX11_bears_l46 v.2.2 (nI i) (nI t) v.1 v.2.1) 3000 (nI 0, rI (gPlace L S t i), h2) = some (r, q2) ∧ fr (sk 34) g1 q1 ∧ fr s225 h2 q2 ∧ ∃ S2, MX q2 L S2 := by
        intro h2 hx2 hs2
        obtain ⟨e1, e2, w1, w2, r, q1, q2, rfl, rfl, z1, z2, z3⟩ := wit2 (b1 := fun v : (Int32 × Int32 × wSt) => fX10_bears_l51 v.2.2 (nI i) (nI t) (nI (S.2.1 i)) v.1 v.2.1) (b2 := fun v : (Int32 × Int32 × wSt) => fX11_bears_l46 v.2.2 (nI i) (nI t) v.1 v.2.1) (S.2.1 i + 1)
          (fun n v1 v2 => ∃ S2 p1 p2, v1 = (nI n, nI n, p1) ∧ v2 = (nI n, rI (gPlace L S2 t i), p2) ∧ CX p1 L 34 S2 ∧ MX p2 L S2 ∧ S2.2.1 i + n ≤ S.2.1 i ∧ fr (sk 34) g1 p1 ∧ fr s225 h2 p2)
          (fun e1 e2 => ∃ r q1 q2, e1 = (r, q1) ∧ e2 = (r, q2) ∧ fr (sk 34) g1 q1 ∧ fr s225 h2 q2 ∧ ∃ S2, MX q2 L S2)
          (by
            rintro n _ _ hn ⟨S2, p1, p2, rfl, rfl, hx1, hm1, hb, fa, fb⟩
            have b1 := c_place hx1 ht hi
            cases hp : gPlace L S2 t i with
            | none =>
              right
              rw [hp] at b1
              refine ⟨(nI n, p1), (nI n, p2), ?_, ?_, nI n, p1, p2, rfl, rfl, fa, fb, S2, hm1⟩
              · by_cases hq : S.2.1 i ≤ n
                · simp (disch := omega) only [↓reduceIte, wlet, Option.bind_some, true_and, and_true, not_true_eq_false, not_false_eq_true, reduceCtorEq, n0_, n1_, n2_, n3_, n4_, n5_, n6_, n7_, n8_, n9_, n10_, n12_, n16_, n18_, n20_, n21_, n22_, n24_, n25_, n26_, n27_, n28_, n29_, n30_, n31_, n32_, n40_, n41_, n42_, n43_, n45_, n48_, n54_, n57_, n58_, n59_, n60_, n61_, n63_, n96_, n97_, n99_, n100_, n122_, n126_, n200_, n255_, n375_, n400_, n1000_, n2000_, n9999_, n5764801_, n1000000_, n3000_, m1, m2, le_t, le_f, lt_t, lt_f, eq_t, eq_f, no_lt, no_le, le_no, lt_no, eq_no, no_eq, add_no, wib_t, clamp, nI_add, pk_mul, pk_sub, nor_, nand_, ndif_, shl_, sh1_, shr_, tbn, tb0, tb1, les_t, les_f, pk_div, rem_, remv, and31, wu1, wuc, wui, wu2, ws1, wsc, ws2, wv1, n11_, n13_, n14_, n15_, n17_, n19_, n23_, n56_, n64_, fX10_bears_l51]
                · simp (disch := omega) only [↓reduceIte, wlet, Option.bind_some, true_and, and_true, not_true_eq_false, not_false_eq_true, reduceCtorEq, n0_, n1_, n2_, n3_, n4_, n5_, n6_, n7_, n8_, n9_, n10_, n12_, n16_, n18_, n20_, n21_, n22_, n24_, n25_, n26_, n27_, n28_, n29_, n30_, n31_, n32_, n40_, n41_, n42_, n43_, n45_, n48_, n54_, n57_, n58_, n59_, n60_, n61_, n63_, n96_, n97_, n99_, n100_, n122_, n126_, n200_, n255_, n375_, n400_, n1000_, n2000_, n9999_, n5764801_, n1000000_, n3000_, m1, m2, le_t, le_f, lt_t, lt_f, eq_t, eq_f, no_lt, no_le, le_no, lt_no, eq_no, no_eq, add_no, wib_t, clamp, nI_add, pk_mul, pk_sub, nor_, nand_, ndif_, shl_, sh1_, shr_, tbn, tb0, tb1, les_t, les_f, pk_div, rem_, remv, and31, wu1, wuc, wui, wu2, ws1, wsc, ws2, wv1, n11_, n13_, n14_, n15_, n17_, n19_, n23_, n56_, n64_, fX10_bears_l51, b1, rI]
              · simp (disch := omega) only [↓reduceIte, wlet, Option.bind_some, true_and, and_true, not_true_eq_false, not_false_eq_true, reduceCtorEq, n0_, n1_, n2_, n3_, n4_, n5_, n6_, n7_, n8_, n9_, n10_, n12_, n16_, n18_, n20_, n21_, n22_, n24_, n25_, n26_, n27_, n28_, n29_, n30_, n31_, n32_, n40_, n41_, n42_, n43_, n45_, n48_, n54_, n57_, n58_, n59_, n60_, n61_, n63_, n96_, n97_, n99_, n100_, n122_, n126_, n200_, n255_, n375_, n400_, n1000_, n2000_, n9999_, n5764801_, n1000000_, n3000_, m1, m2, le_t, le_f, lt_t, lt_f, eq_t, eq_f, no_lt, no_le, le_no, lt_no, eq_no, no_eq, add_no, wib_t, clamp, nI_add, pk_mul, pk_sub, nor_, nand_, ndif_, shl_, sh1_, shr_, tbn, tb0, tb1, les_t, les_f, pk_div, rem_, remv, and31, wu1, wuc, wui, wu2, ws1, wsc, ws2, wv1, n11_, n13_, n14_, n15_, n17_, n19_, n23_, n56_, n64_, fX11_bears_l46, rI]
            | some j =>
              left
              rw [hp] at b1
              obtain ⟨hj, hc⟩ := gPlace_can hp
              have hpos : 0 < S2.2.1 i := by
                apply Nat.pos_of_ne_zero
                intro q
                rw [gPlace_0 W.1 ht q] at hp
                cases hp
              obtain ⟨p3, e3, hx3, f3⟩ := c_put hx1 ht hi hc
              obtain ⟨p4, e4, hx4, f4⟩ := c_rub hx3 (m := 63) hi
              obtain ⟨p5, e5, hm5, f5⟩ := r_put hm1 ht hi hc
              have ho : (gPut L t i j S2).2.2.1 i &&& 63 ≠ 0 := and63 (gPut_open t1) (by omega)
              obtain ⟨p6, e6, hm6, f6⟩ := r_scrapes hm5 hi ho
              have e7 := r_place hm6 ht hi
              have ht2 := gRub_thick W.1 hx3.2.2.1 hi ho
              have hw := gWear_b W.1 hx3.2.2.1 ((gPut L t i j S2).2.2.1 i &&& 63) (i := i) (by omega)
              rw [gPut_thick] at ht2
              refine ⟨(nI (n + 1), nI (n + 1), p4), (nI (n + 1), rI (gPlace L (gRub L i 63 (gPut L t i j S2)) t i), p6), ?_, ?_, _, p4, p6, rfl, rfl, hx4, hm6, by rw [ht2]; omega, fr_tr fa (fr_tr f3 f4), fr_tr fb (fr_tr f5 f6)⟩
              · simp (disch := omega) only [↓reduceIte, wlet, Option.bind_some, true_and, and_true, not_true_eq_false, not_false_eq_true, reduceCtorEq, n0_, n1_, n2_, n3_, n4_, n5_, n6_, n7_, n8_, n9_, n10_, n12_, n16_, n18_, n20_, n21_, n22_, n24_, n25_, n26_, n27_, n28_, n29_, n30_, n31_, n32_, n40_, n41_, n42_, n43_, n45_, n48_, n54_, n57_, n58_, n59_, n60_, n61_, n63_, n96_, n97_, n99_, n100_, n122_, n126_, n200_, n255_, n375_, n400_, n1000_, n2000_, n9999_, n5764801_, n1000000_, n3000_, m1, m2, le_t, le_f, lt_t, lt_f, eq_t, eq_f, no_lt, no_le, le_no, lt_no, eq_no, no_eq, add_no, wib_t, clamp, nI_add, pk_mul, pk_sub, nor_, nand_, ndif_, shl_, sh1_, shr_, tbn, tb0, tb1, les_t, les_f, pk_div, rem_, remv, and31, wu1, wuc, wui, wu2, ws1, wsc, ws2, wv1, n11_, n13_, n14_, n15_, n17_, n19_, n23_, n56_, n64_, fX10_bears_l51, b1, e3, e4, rI]
              · rw [show rI (some j) = nI j from rfl]
                simp (disch := omega) only [↓reduceIte, wlet, Option.bind_some, true_and, and_true, not_true_eq_false, not_false_eq_true, reduceCtorEq, n0_, n1_, n2_, n3_, n4_, n5_, n6_, n7_, n8_, n9_, n10_, n12_, n16_, n18_, n20_, n21_, n22_, n24_, n25_, n26_, n27_, n28_, n29_, n30_, n31_, n32_, n40_, n41_, n42_, n43_, n45_, n48_, n54_, n57_, n58_, n59_, n60_, n61_, n63_, n96_, n97_, n99_, n100_, n122_, n126_, n200_, n255_, n375_, n400_, n1000_, n2000_, n9999_, n5764801_, n1000000_, n3000_, m1, m2, le_t, le_f, lt_t, lt_f, eq_t, eq_f, no_lt, no_le, le_no, lt_no, eq_no, no_eq, add_no, wib_t, clamp, nI_add, pk_mul, pk_sub, nor_, nand_, ndif_, shl_, sh1_, shr_, tbn, tb0, tb1, les_t, les_f, pk_div, rem_, remv, and31, wu1, wuc, wui, wu2, ws1, wsc, ws2, wv1, n11_, n13_, n14_, n15_, n17_, n19_, n23_, n56_, n64_, fX11_bears_l46, e5, e6, e7])
          (by
            rintro _ _ ⟨S2, p1, p2, rfl, rfl, hx1, hm1, hb, fa, fb⟩
            omega)
          (N := 3000) (by omega) (v1 := (nI 0, nI 0, g1)) (v2 := (nI 0, rI (gPlace L S t i), h2)) ⟨S, g1, h2, rfl, rfl, x1, hx2, by omega, fr_rf, fr_rf⟩
        exact ⟨r, q1, q2, w1, w2, z1, z2, z3⟩
      -- this side's end does not hang on the other's heap: take it from any
      obtain ⟨g0, c0, m0, y0, f0⟩ := r_trial (W_MX W R0)
      obtain ⟨r, q1, q2, k1, k2, k3, k4, k5⟩ := key g0 m0 y0
      have f12 : fr cs h q1 := fr_mono (fr_tr f1 k3) (fun c => sk34_cs)
      have R1 := MI_0 (MI_cls R (fr_mono f12 (fun c => cs_cls))) (nI 0)
      have a2 := r_isSkin W.1 R1.1 (nI i)
      have a4 := r_isText W.1 R1.1 (nI t)
      rw [e] at a2
      rw [e1] at a4
      obtain ⟨g2, c2, m2, y2, f2⟩ := r_trial (W_MX W R1)
      have b2 := r_place m2 ht hi
      obtain ⟨r', q1', q3, k1', k2', k3', k4', S2, k5'⟩ := key g2 m2 y2
      rw [k1] at k1'
      have hrr : r = r' := congrArg Prod.fst (Option.some.inj k1')
      rw [← hrr] at k2'
      obtain ⟨g3, c3, m3, f3⟩ := r_back0 k5' W.2.1 (MS_fr y2 k4' (by unfold s225; omega))
      refine ⟨r, q1, g3, ?_, ?_, Inv_qr W C R f12 (fr_tr (fr_mono f2 (fun c q => by unfold rt; omega)) (fr_mono (fr_tr k4' f3) (fun c q => by unfold s225 at q; unfold rt; omega))) m3.2.2.2⟩
      · simp (disch := omega) only [↓reduceIte, wlet, Option.bind_some, true_and, and_true, not_true_eq_false, not_false_eq_true, reduceCtorEq, n0_, n1_, n2_, n3_, n4_, n5_, n6_, n7_, n8_, n9_, n10_, n12_, n16_, n18_, n20_, n21_, n22_, n24_, n25_, n26_, n27_, n28_, n29_, n30_, n31_, n32_, n40_, n41_, n42_, n43_, n45_, n48_, n54_, n57_, n58_, n59_, n60_, n61_, n63_, n96_, n97_, n99_, n100_, n122_, n126_, n200_, n255_, n375_, n400_, n1000_, n2000_, n9999_, n5764801_, n1000000_, n3000_, m1, m2, le_t, le_f, lt_t, lt_f, eq_t, eq_f, no_lt, no_le, le_no, lt_no, eq_no, no_eq, add_no, wib_t, clamp, nI_add, pk_mul, pk_sub, nor_, nand_, ndif_, shl_, sh1_, shr_, tbn, tb0, tb1, les_t, les_f, pk_div, rem_, remv, and31, wu1, wuc, wui, wu2, ws1, wsc, ws2, wv1, n11_, n13_, n14_, n15_, n17_, n19_, n23_, n56_, n64_, fX10_bears, a1, a3, c1, s1, k1, Option.isSome_none, Option.isSome_some, Bool.false_eq_true]
      · simp (disch := omega) only [↓reduceIte, wlet, Option.bind_some, true_and, and_true, not_true_eq_false, not_false_eq_true, reduceCtorEq, n0_, n1_, n2_, n3_, n4_, n5_, n6_, n7_, n8_, n9_, n10_, n12_, n16_, n18_, n20_, n21_, n22_, n24_, n25_, n26_, n27_, n28_, n29_, n30_, n31_, n32_, n40_, n41_, n42_, n43_, n45_, n48_, n54_, n57_, n58_, n59_, n60_, n61_, n63_, n96_, n97_, n99_, n100_, n122_, n126_, n200_, n255_, n375_, n400_, n1000_, n2000_, n9999_, n5764801_, n1000000_, n3000_, m1, m2, le_t, le_f, lt_t, lt_f, eq_t, eq_f, no_lt, no_le, le_no, lt_no, eq_no, no_eq, add_no, wib_t, clamp, nI_add, pk_mul, pk_sub, nor_, nand_, ndif_, shl_, sh1_, shr_, tbn, tb0, tb1, les_t, les_f, pk_div, rem_, remv, and31, wu1, wuc, wui, wu2, ws1, wsc, ws2, wv1, n11_, n13_, n14_, n15_, n17_, n19_, n23_, n56_, n64_, fX11_bears, a2, a4, c2, b2, k2', c3, Option.isSome_none, Option.isSome_some, Bool.false_eq_true]
theorem c_give (hx : CX h L 29 S) : ∃ g, fX10_giveup h = some ((gF (gGiveSt L S) (gns L) (wno, nI 7)).1, g) ∧ fr sT h g := by
  have n1 := hx.1.1
  have d := c_dampNow hx
  obtain ⟨g1, e1, f1⟩ := c_whole hx (gDamp_le hx.1 S.1)
  have f1' := fr_mono f1 (fun c => sq_sT)
  have hb1 := gWhole_lt hx.1 hx.2.2.1 (gDamp L S.1)
  obtain ⟨e, he, g, eg, fg⟩ := wit_for (b := fun v : (Int32 × Int32 × Int32 × wSt) => fX10_giveup_l23 v.2.2.2 (nI (gWhole L S (gDamp L S.1))) v.1 v.2.1 v.2.2.1) (gGiveSt L S) (gns L)
    (fun i a v => ∃ g, v = (a.1, a.2, nI i, g) ∧ fr sT h g) (fun a e => ∃ g, e = (a.1, g) ∧ fr sT h g)
    (by
      rintro i a v hi ⟨g, rfl, fg⟩
      have hx2 := CX_34 hx fg
      have c1 := hx2.2.1.1
      have b1 := c_canRub hx2 (m := 63) hi
      unfold gGiveSt
      by_cases h0 : S.2.2.1 i &&& 63 = 0
      · rw [decide_eq_false (fun q => q h0)] at b1
        rw [if_pos h0]
        refine ⟨(a.1, a.2, nI (i + 1), g), ?_, g, rfl, fg⟩
        simp (disch := omega) only [↓reduceIte, wlet, Option.bind_some, true_and, and_true, not_true_eq_false, not_false_eq_true, reduceCtorEq, n0_, n1_, n2_, n3_, n4_, n5_, n6_, n7_, n8_, n9_, n10_, n12_, n16_, n18_, n20_, n21_, n22_, n24_, n25_, n26_, n27_, n28_, n29_, n30_, n31_, n32_, n40_, n41_, n42_, n43_, n45_, n48_, n54_, n57_, n58_, n59_, n60_, n61_, n63_, n96_, n97_, n99_, n100_, n122_, n126_, n200_, n255_, n375_, n400_, n1000_, n2000_, n9999_, n5764801_, n1000000_, n3000_, m1, m2, le_t, le_f, lt_t, lt_f, eq_t, eq_f, no_lt, no_le, le_no, lt_no, eq_no, no_eq, add_no, wib_t, clamp, nI_add, pk_mul, pk_sub, nor_, nand_, ndif_, shl_, sh1_, shr_, tbn, tb0, tb1, les_t, les_f, pk_div, rem_, remv, and31, wu1, wuc, wui, wu2, ws1, wsc, ws2, wv1, n11_, n13_, n14_, n15_, n17_, n19_, n23_, n56_, n64_, fX10_giveup_l23, fX10_giveup_b107_23, c1, b1, Option.isSome_none, Option.isSome_some, Bool.false_eq_true]
      · rw [decide_eq_true h0] at b1
        rw [if_neg h0]
        obtain ⟨g2, e2, x2, y2, f2⟩ := c_trial hx2
        obtain ⟨g3, e3, x3, f3⟩ := c_rub x2 (m := 63) hi
        have d3 := c_dampNow x3
        rw [gRub_week] at d3
        obtain ⟨g4, e4, f4⟩ := c_whole x3 (gDamp_le hx.1 S.1)
        have hl : bdf (gWhole L S (gDamp L S.1)) (gWhole L (gRub L i 63 S) (gDamp L S.1)) < 2 ^ 6 := bdf_lt hb1
        have e5 := bits_6 g4 hl
        have f24 := fr_tr fg (fr_tr (fr_mono (fr_tr f2 f3) (fun c => sk34_sT)) (fr_mono f4 (fun c => sq_sT)))
        revert e5
        generalize gBits (bdf (gWhole L S (gDamp L S.1)) (gWhole L (gRub L i 63 S) (gDamp L S.1))) = z
        intro e5
        have hbd : fX10_giveup_l23 g (nI (gWhole L S (gDamp L S.1))) a.1 a.2 (nI i) = (if a.2 ≤ nI z then fX10_giveup_b107_23 g4 (nI (gWhole L S (gDamp L S.1))) a.1 a.2 (nI i) else fX10_giveup_b107_23 g4 (nI (gWhole L S (gDamp L S.1))) (nI i) (nI z) (nI i)) := by
          unfold fX10_giveup_l23
          rw [c1, if_neg (nI_ge hi (by omega)), n63_, b1, Option.bind_some, if_pos rfl, e2, Option.bind_some, e3, Option.bind_some, d3, Option.bind_some, e4, Option.bind_some, n1_, m1, ndif_, e5]
          rfl
        refine ⟨((if a.2 ≤ nI z then a else (nI i, nI z)).1, (if a.2 ≤ nI z then a else (nI i, nI z)).2, nI (i + 1), g4), ?_, g4, rfl, f24⟩
        show fX10_giveup_l23 g (nI (gWhole L S (gDamp L S.1))) a.1 a.2 (nI i) = _
        rw [hbd]
        by_cases hq : a.2 ≤ nI z
        · rw [if_pos hq, if_pos hq, fX10_giveup_b107_23, n1_, nI_add]
        · rw [if_neg hq, if_neg hq, fX10_giveup_b107_23, n1_, nI_add])
    (by
      rintro a v ⟨g, rfl, fg⟩
      have c1 := (CX_34 hx fg).2.1.1
      refine ⟨_, ?_, g, rfl, fg⟩
      simp (disch := omega) only [↓reduceIte, wlet, Option.bind_some, true_and, and_true, not_true_eq_false, not_false_eq_true, reduceCtorEq, n0_, n1_, n2_, n3_, n4_, n5_, n6_, n7_, n8_, n9_, n10_, n12_, n16_, n18_, n20_, n21_, n22_, n24_, n25_, n26_, n27_, n28_, n29_, n30_, n31_, n32_, n40_, n41_, n42_, n43_, n45_, n48_, n54_, n57_, n58_, n59_, n60_, n61_, n63_, n96_, n97_, n99_, n100_, n122_, n126_, n200_, n255_, n375_, n400_, n1000_, n2000_, n9999_, n5764801_, n1000000_, n3000_, m1, m2, le_t, le_f, lt_t, lt_f, eq_t, eq_f, no_lt, no_le, le_no, lt_no, eq_no, no_eq, add_no, wib_t, clamp, nI_add, pk_mul, pk_sub, nor_, nand_, ndif_, shl_, sh1_, shr_, tbn, tb0, tb1, les_t, les_f, pk_div, rem_, remv, and31, wu1, wuc, wui, wu2, ws1, wsc, ws2, wv1, n11_, n13_, n14_, n15_, n17_, n19_, n23_, n56_, n64_, fX10_giveup_l23, c1])
    (N := 3000) (by omega) (a0 := (wno, nI 7)) (v0 := (wno, nI 7, nI 0, g1)) ⟨g1, rfl, f1'⟩
  refine ⟨g, ?_, fg⟩
  simp (disch := omega) only [↓reduceIte, wlet, Option.bind_some, true_and, and_true, not_true_eq_false, not_false_eq_true, reduceCtorEq, n0_, n1_, n2_, n3_, n4_, n5_, n6_, n7_, n8_, n9_, n10_, n12_, n16_, n18_, n20_, n21_, n22_, n24_, n25_, n26_, n27_, n28_, n29_, n30_, n31_, n32_, n40_, n41_, n42_, n43_, n45_, n48_, n54_, n57_, n58_, n59_, n60_, n61_, n63_, n96_, n97_, n99_, n100_, n122_, n126_, n200_, n255_, n375_, n400_, n1000_, n2000_, n9999_, n5764801_, n1000000_, n3000_, m1, m2, le_t, le_f, lt_t, lt_f, eq_t, eq_f, no_lt, no_le, le_no, lt_no, eq_no, no_eq, add_no, wib_t, clamp, nI_add, pk_mul, pk_sub, nor_, nand_, ndif_, shl_, sh1_, shr_, tbn, tb0, tb1, les_t, les_f, pk_div, rem_, remv, and31, wu1, wuc, wui, wu2, ws1, wsc, ws2, wv1, n11_, n13_, n14_, n15_, n17_, n19_, n23_, n56_, n64_, fX10_giveup, d, e1, he, eg]
theorem MX_rT {g : wSt} (hx : MX h L S) (f : fr rT h g) (hs : MS g 225 0 S) : MX g L S := by
  obtain ⟨hW, hC, hV, hS⟩ := hx
  exact ⟨hW, ML_fr hC f (fun c _ _ => by unfold rT; omega), hV, hs⟩
theorem r_give (hx : MX h L S) : ∃ g e, fX11_wholeNow h = some (nI (gWhole L S (gDamp L S.1)), e) ∧ wit (fun v : (Int32 × Int32 × Int32 × wSt) => fX11_giveup_l18 v.2.2.2 (nI (gWhole L S (gDamp L S.1))) v.1 v.2.1 v.2.2.1) 3000 (wno, nI 7, nI 0, e) = some ((gF (gGiveSt L S) (gns L) (wno, nI 7)).1, g) ∧ MX g L S ∧ fr rT h g := by
  have n1 := hx.1.1
  obtain ⟨g1, e1, f1⟩ := r_wholeNow hx
  have f1' := fr_mono f1 (fun c => sr_rT)
  have hb1 := gWhole_lt hx.1 hx.2.2.1 (gDamp L S.1)
  obtain ⟨e, he, g, eg, hg, fg⟩ := wit_for (b := fun v : (Int32 × Int32 × Int32 × wSt) => fX11_giveup_l18 v.2.2.2 (nI (gWhole L S (gDamp L S.1))) v.1 v.2.1 v.2.2.1) (gGiveSt L S) (gns L)
    (fun i a v => ∃ g, v = (a.1, a.2, nI i, g) ∧ MX g L S ∧ fr rT h g) (fun a e => ∃ g, e = (a.1, g) ∧ MX g L S ∧ fr rT h g)
    (by
      rintro i a v hi ⟨g, rfl, hx2, fg⟩
      have c1 := hx2.2.1.1
      have b1 := r_wear hx2 (m := 63) hi
      have hb := gWear_b hx.1 hx.2.2.1 (S.2.2.1 i &&& 63) (i := i) (by omega)
      unfold gGiveSt
      by_cases h0 : S.2.2.1 i &&& 63 = 0
      · rw [if_pos h0] at b1 ⊢
        refine ⟨(a.1, a.2, nI (i + 1), g), ?_, g, rfl, hx2, fg⟩
        simp (disch := omega) only [↓reduceIte, wlet, Option.bind_some, true_and, and_true, not_true_eq_false, not_false_eq_true, reduceCtorEq, n0_, n1_, n2_, n3_, n4_, n5_, n6_, n7_, n8_, n9_, n10_, n12_, n16_, n18_, n20_, n21_, n22_, n24_, n25_, n26_, n27_, n28_, n29_, n30_, n31_, n32_, n40_, n41_, n42_, n43_, n45_, n48_, n54_, n57_, n58_, n59_, n60_, n61_, n63_, n96_, n97_, n99_, n100_, n122_, n126_, n200_, n255_, n375_, n400_, n1000_, n2000_, n9999_, n5764801_, n1000000_, n3000_, m1, m2, le_t, le_f, lt_t, lt_f, eq_t, eq_f, no_lt, no_le, le_no, lt_no, eq_no, no_eq, add_no, wib_t, clamp, nI_add, pk_mul, pk_sub, nor_, nand_, ndif_, shl_, sh1_, shr_, tbn, tb0, tb1, les_t, les_f, pk_div, rem_, remv, and31, wu1, wuc, wui, wu2, ws1, wsc, ws2, wv1, n11_, n13_, n14_, n15_, n17_, n19_, n23_, n56_, n64_, fX11_giveup_l18, fX11_giveup_b105_18, c1, b1, Option.isSome_none, Option.isSome_some, Bool.false_eq_true]
      · rw [if_neg h0] at b1 ⊢
        obtain ⟨g2, e2, x2, y2, f2⟩ := r_trial hx2
        obtain ⟨g3, e3, x3, f3⟩ := r_scrapes x2 hi h0
        obtain ⟨g4, e4, f4⟩ := r_wholeNow x3
        rw [gRub_week] at e4
        have hl : bdf (gWhole L S (gDamp L S.1)) (gWhole L (gRub L i 63 S) (gDamp L S.1)) < 2 ^ 6 := bdf_lt hb1
        have e5 := r_bits g4 (x := bdf (gWhole L S (gDamp L S.1)) (gWhole L (gRub L i 63 S) (gDamp L S.1))) (by omega)
        obtain ⟨g5, e6, x5, f5⟩ := r_back0 (MX_sr x3 f4) hx.2.2.1 (MS_fr (MS_fr y2 f3 (by unfold s225; omega)) f4 (by unfold sr; omega))
        have f25 := fr_tr fg (fr_tr (fr_mono f2 (fun c q => Or.inr (Or.inr q))) (fr_tr (fr_mono f3 (fun c => s225_rT)) (fr_tr (fr_mono f4 (fun c => sr_rT)) (fr_mono f5 (fun c => s225_rT)))))
        revert e5
        generalize gBits (bdf (gWhole L S (gDamp L S.1)) (gWhole L (gRub L i 63 S) (gDamp L S.1))) = z
        intro e5
        have hbd : fX11_giveup_l18 g (nI (gWhole L S (gDamp L S.1))) a.1 a.2 (nI i) = (if nI z < a.2 then fX11_giveup_b105_18 g5 (nI i) (nI z) (nI (gWhole L S (gDamp L S.1))) (nI i) else fX11_giveup_b105_18 g5 a.1 a.2 (nI (gWhole L S (gDamp L S.1))) (nI i)) := by
          unfold fX11_giveup_l18
          rw [c1, if_neg (nI_ge hi (by omega)), n63_, b1, Option.bind_some, if_neg (by rw [n0_]; exact of_eq_false (eq_f (by omega) (by omega) (by omega))), n0_, e2, Option.bind_some, e3, Option.bind_some, e4, Option.bind_some, n1_, m1, ndif_, e5, Option.bind_some, e6]
          rfl
        refine ⟨((if a.2 ≤ nI z then a else (nI i, nI z)).1, (if a.2 ≤ nI z then a else (nI i, nI z)).2, nI (i + 1), g5), ?_, g5, rfl, x5, f25⟩
        show fX11_giveup_l18 g (nI (gWhole L S (gDamp L S.1))) a.1 a.2 (nI i) = _
        rw [hbd]
        by_cases hq : a.2 ≤ nI z
        · rw [if_pos hq, if_neg (Int32.not_lt.mpr hq), fX11_giveup_b105_18, n1_, nI_add]
        · rw [if_neg hq, if_pos (Int32.not_le.mp hq), fX11_giveup_b105_18, n1_, nI_add])
    (by
      rintro a v ⟨g, rfl, hx2, fg⟩
      have c1 := hx2.2.1.1
      refine ⟨_, ?_, g, rfl, hx2, fg⟩
      simp (disch := omega) only [↓reduceIte, wlet, Option.bind_some, true_and, and_true, not_true_eq_false, not_false_eq_true, reduceCtorEq, n0_, n1_, n2_, n3_, n4_, n5_, n6_, n7_, n8_, n9_, n10_, n12_, n16_, n18_, n20_, n21_, n22_, n24_, n25_, n26_, n27_, n28_, n29_, n30_, n31_, n32_, n40_, n41_, n42_, n43_, n45_, n48_, n54_, n57_, n58_, n59_, n60_, n61_, n63_, n96_, n97_, n99_, n100_, n122_, n126_, n200_, n255_, n375_, n400_, n1000_, n2000_, n9999_, n5764801_, n1000000_, n3000_, m1, m2, le_t, le_f, lt_t, lt_f, eq_t, eq_f, no_lt, no_le, le_no, lt_no, eq_no, no_eq, add_no, wib_t, clamp, nI_add, pk_mul, pk_sub, nor_, nand_, ndif_, shl_, sh1_, shr_, tbn, tb0, tb1, les_t, les_f, pk_div, rem_, remv, and31, wu1, wuc, wui, wu2, ws1, wsc, ws2, wv1, n11_, n13_, n14_, n15_, n17_, n19_, n23_, n56_, n64_, fX11_giveup_l18, c1])
    (N := 3000) (by omega) (a0 := (wno, nI 7)) (v0 := (wno, nI 7, nI 0, g1)) ⟨g1, rfl, MX_sr hx f1, f1'⟩
  exact ⟨g, g1, e1, by rw [he, eg], hg, fg⟩
theorem op_giveup (hI : Inv k h) : ∃ r h1 h2, fX10_giveup h = some (r, h1) ∧ fX11_giveup h1 = some (r, h2) ∧ Inv k h2 := by
  obtain ⟨L, S, u, M, Y, N, T, W, C, R⟩ := hI
  obtain ⟨g1, e1, f1⟩ := c_give (W_CX W C)
  have f1' := fr_mono f1 (fun c => sT_cs)
  have R1 := MI_0 (MI_cls R (fr_mono f1' (fun c => cs_cls))) (nI 0)
  obtain ⟨g2, e, e2, e3, m2, f2⟩ := r_give (W_MX W R1)
  refine ⟨_, g1, g2, e1, ?_, Inv_qr W C R f1' (fr_mono f2 (fun c => rT_rt)) m2.2.2.2⟩
  simp (disch := omega) only [↓reduceIte, wlet, Option.bind_some, true_and, and_true, not_true_eq_false, not_false_eq_true, reduceCtorEq, n0_, n1_, n2_, n3_, n4_, n5_, n6_, n7_, n8_, n9_, n10_, n12_, n16_, n18_, n20_, n21_, n22_, n24_, n25_, n26_, n27_, n28_, n29_, n30_, n31_, n32_, n40_, n41_, n42_, n43_, n45_, n48_, n54_, n57_, n58_, n59_, n60_, n61_, n63_, n96_, n97_, n99_, n100_, n122_, n126_, n200_, n255_, n375_, n400_, n1000_, n2000_, n9999_, n5764801_, n1000000_, n3000_, m1, m2, le_t, le_f, lt_t, lt_f, eq_t, eq_f, no_lt, no_le, le_no, lt_no, eq_no, no_eq, add_no, wib_t, clamp, nI_add, pk_mul, pk_sub, nor_, nand_, ndif_, shl_, sh1_, shr_, tbn, tb0, tb1, les_t, les_f, pk_div, rem_, remv, and31, wu1, wuc, wui, wu2, ws1, wsc, ws2, wv1, n11_, n13_, n14_, n15_, n17_, n19_, n23_, n56_, n64_, fX11_giveup, e2, e3]
end G45

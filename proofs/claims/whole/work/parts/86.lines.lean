/-! ALL LINES OF A LIBRARY -/
def gOl (T : gTp) (x : (Nat × Nat) × gLib × Option gPc) : (Nat × Nat) × gLib × Option gPc :=
  if gIs T x.1.1 1 then ((gSk x.2.1 T x.1).1, (gSk x.2.1 T x.1).2, x.2.2) else if gIs T x.1.1 4 then ((gHo x.2.1 T x.1).1, (gHo x.2.1 T x.1).2, x.2.2) else if gIs T x.1.1 5 then ((gTx x.2.1 T x.1).1, (gTx x.2.1 T x.1).2, x.2.2) else if gIs T x.1.1 6 then ((gDp x.2.1 T x.1).1, (gDp x.2.1 T x.1).2, x.2.2) else if gIs T x.1.1 7 then ((gSw x.2.2 T x.1).1, x.2.1, (gSw x.2.2 T x.1).2) else (fl T 1 x.1, x.2)
def gLl (T : gTp) : Nat → (Nat × Nat) × gLib × Option gPc → (Nat × Nat) × gLib × Option gPc
  | 0, x => x
  | n + 1, x => if x.1.2 ≠ 0 ∨ gTk T x.1.1 = 0 then x else gLl T n (gOl T x)
def gMn (T : gTp) (s t : Nat × Nat) : Prop := s.1 ≤ t.1 ∧ t.1 ≤ T.1
def sn (c : Nat) : Prop := c = 1 ∨ (16 ≤ c ∧ c ≤ 27)
section G86
variable {h g : wSt} {T : gTp} {b : Nat} {D : gLib} {W : Option gPc} {s t : Nat × Nat}
theorem gLl_0 {x : (Nat × Nat) × gLib × Option gPc} (q : x.1.2 ≠ 0 ∨ gTk T x.1.1 = 0) : ∀ {n : Nat}, gLl T n x = x
  | 0 => rfl
  | _ + 1 => if_pos q
theorem gLl_s {x : (Nat × Nat) × gLib × Option gPc} {n : Nat} (q : ¬ (x.1.2 ≠ 0 ∨ gTk T x.1.1 = 0)) : gLl T (n + 1) x = gLl T n (gOl T x) := if_neg q
theorem gO_1 (q : gIs T b 1 = true) : gOl T ((b, 0), D, W) = ((gSk D T (b, 0)).1, (gSk D T (b, 0)).2, W) := if_pos q
theorem gO_4 (q1 : gIs T b 1 = false) (q : gIs T b 4 = true) : gOl T ((b, 0), D, W) = ((gHo D T (b, 0)).1, (gHo D T (b, 0)).2, W) := by
  unfold gOl; dsimp only; rw [q1, q]; rfl
theorem gO_5 (q1 : gIs T b 1 = false) (q4 : gIs T b 4 = false) (q : gIs T b 5 = true) : gOl T ((b, 0), D, W) = ((gTx D T (b, 0)).1, (gTx D T (b, 0)).2, W) := by
  unfold gOl; dsimp only; rw [q1, q4, q]; rfl
theorem gO_6 (q1 : gIs T b 1 = false) (q4 : gIs T b 4 = false) (q5 : gIs T b 5 = false) (q : gIs T b 6 = true) : gOl T ((b, 0), D, W) = ((gDp D T (b, 0)).1, (gDp D T (b, 0)).2, W) := by
  unfold gOl; dsimp only; rw [q1, q4, q5, q]; rfl
theorem gO_7 (q1 : gIs T b 1 = false) (q4 : gIs T b 4 = false) (q5 : gIs T b 5 = false) (q6 : gIs T b 6 = false) (q : gIs T b 7 = true) : gOl T ((b, 0), D, W) = ((gSw W T (b, 0)).1, D, (gSw W T (b, 0)).2) := by
  unfold gOl; dsimp only; rw [q1, q4, q5, q6, q]; rfl
theorem gO_f (q1 : gIs T b 1 = false) (q4 : gIs T b 4 = false) (q5 : gIs T b 5 = false) (q6 : gIs T b 6 = false) (q7 : gIs T b 7 = false) : gOl T ((b, 0), D, W) = (fl T 1 (b, 0), D, W) := by
  unfold gOl; dsimp only; rw [q1, q4, q5, q6, q7]; rfl
theorem gO_c (Q : (Nat × Nat) × gLib × Option gPc → Prop) (k1 : gIs T b 1 = true → Q ((gSk D T (b, 0)).1, (gSk D T (b, 0)).2, W)) (k4 : gIs T b 1 = false → gIs T b 4 = true → Q ((gHo D T (b, 0)).1, (gHo D T (b, 0)).2, W)) (k5 : gIs T b 1 = false → gIs T b 4 = false → gIs T b 5 = true → Q ((gTx D T (b, 0)).1, (gTx D T (b, 0)).2, W)) (k6 : gIs T b 1 = false → gIs T b 4 = false → gIs T b 5 = false → gIs T b 6 = true → Q ((gDp D T (b, 0)).1, (gDp D T (b, 0)).2, W))
    (k7 : gIs T b 1 = false → gIs T b 4 = false → gIs T b 5 = false → gIs T b 6 = false → gIs T b 7 = true → Q ((gSw W T (b, 0)).1, D, (gSw W T (b, 0)).2)) (kf : gIs T b 1 = false → gIs T b 4 = false → gIs T b 5 = false → gIs T b 6 = false → gIs T b 7 = false → Q (fl T 1 (b, 0), D, W)) : Q (gOl T ((b, 0), D, W)) := by
  cases q1 : gIs T b 1 with
  | true => rw [gO_1 q1]; exact k1 q1
  | false =>
    cases q4 : gIs T b 4 with
    | true => rw [gO_4 q1 q4]; exact k4 q1 q4
    | false =>
      cases q5 : gIs T b 5 with
      | true => rw [gO_5 q1 q4 q5]; exact k5 q1 q4 q5
      | false =>
        cases q6 : gIs T b 6 with
        | true => rw [gO_6 q1 q4 q5 q6]; exact k6 q1 q4 q5 q6
        | false =>
          cases q7 : gIs T b 7 with
          | true => rw [gO_7 q1 q4 q5 q6 q7]; exact k7 q1 q4 q5 q6 q7
          | false => rw [gO_f q1 q4 q5 q6 q7]; exact kf q1 q4 q5 q6 q7
/-! no token is read twice -/
theorem mn_tr {u : Nat × Nat} (a : gMn T s t) (c : gMn T t u) : gMn T s u := ⟨Nat.le_trans a.1 c.1, c.2⟩
theorem mn_rf (h : s.1 ≤ T.1) : gMn T s s := ⟨Nat.le_refl _, h⟩
theorem mn_nx (a : gMn T s t) : gMn T s (nx T t) := by
  refine mn_tr a ⟨?_, nx_le a.2⟩
  unfold nx; split
  · have := gPl_b a.2
    have := (gTe_b a.2).1
    show t.1 ≤ gTe T t.1
    omega
  · exact Nat.le_refl _
theorem mn_fl (a : gMn T s t) {k : Nat} : gMn T s (fl T k t) := ⟨by rw [fl_1]; exact a.1, by rw [fl_1]; exact a.2⟩
theorem mn_ts (a : gMn T s t) {x : Nat} : gMn T s (gTs T x t) := by
  unfold gTs; split
  · exact mn_nx a
  · exact mn_fl a
theorem mn_td (a : gMn T s t) {x : Nat} : gMn T s (gTd T x t) := by
  unfold gTd; split
  · exact mn_nx a
  · exact mn_fl a
theorem mn_nw (a : gMn T s t) {lo hi : Nat} : gMn T s (gNw T lo hi t) := by
  unfold gNw; split
  · split
    · exact a
    · exact mn_fl a
  · exact mn_fl a
theorem mn_new (a : gMn T s t) {p q : Nat → List Nat} {n m : Nat} : gMn T s (gNew T p n q m t) := by
  unfold gNew
  refine mn_nx ?_
  split
  · split
    · exact a
    · exact mn_fl a
  · exact mn_fl a
theorem mn_to (a : gMn T s t) {p : Nat → List Nat} {n : Nat} : gMn T s (gTo T p n t) := by
  unfold gTo
  refine mn_nx ?_
  split
  · split
    · exact a
    · exact mn_fl a
  · exact mn_fl a
theorem mn_tq (a : gMn T s t) {p : Option Nat} : gMn T s (gTq T p t) := by
  unfold gTq
  refine mn_nx ?_
  split
  · exact a
  · exact mn_fl a
theorem mn_dl : ∀ (n : Nat) (x : (Nat × Nat) × gLib), gMn T s x.1 → gMn T s (gDl T n x).1
  | 0, x, a => a
  | n + 1, x, a => by
    by_cases c : x.1.2 ≠ 0 ∨ (gnd x.2 ≠ 0 ∧ gTk T x.1.1 ≠ 2)
    · rw [gDl_0 c]; exact a
    · rw [gDl_s c]; exact mn_dl n _ (mn_nx (mn_nw a))
theorem mn_dz (a : gMn T s t) : gMn T s (gDz T t) := by
  unfold gDz
  refine mn_ts ?_
  split
  · exact mn_fl (mn_nw a)
  · exact a
theorem gOl_m (hb : b ≤ T.1) (hk : gTk T b ≠ 0) : (gOl T ((b, 0), D, W)).1.2 = 0 → b + 1 ≤ (gOl T ((b, 0), D, W)).1.1 := by
  obtain ⟨t1, t2⟩ := gTe_s hb hk
  have en : nx T (b, 0) = (gTe T b, 0) := by unfold nx; rfl
  have a0 : gMn T (gTe T b, 0) (nx T (b, 0)) := by rw [en]; exact mn_rf t2
  refine gO_c (fun x => x.1.2 = 0 → b + 1 ≤ x.1.1) (fun _ => ?_) (fun _ _ => ?_) (fun _ _ _ => ?_) (fun _ _ _ _ => ?_) (fun _ _ _ _ _ => ?_) (fun _ _ _ _ _ q => absurd q (fl_ne (by omega)))
  · by_cases hn : gns D < 3
    · rw [gSk_s hn]; dsimp only
      intro _
      have : gMn T (gTe T b, 0) (gTs T 59 (gS5 D T (b, 0))) := by
        unfold gS5 gS4 gS3 gS2 gS1
        exact mn_ts (mn_nx (mn_nw (mn_td (mn_nx (mn_nw (mn_td (mn_new a0)))))))
      have := this.1
      have this : gTe T b ≤ (gTs T 59 (gS5 D T (b, 0))).1 := this
      omega
    · rw [gSk_f hn]; dsimp only
      intro q
      exact absurd q (fl_ne (by omega))
  · have a1 : gMn T (gTe T b, 0) (gH1 D T (b, 0)) := by unfold gH1; exact mn_to a0
    by_cases q2 : (gH2 D T (b, 0)).2 = 0
    · cases ht : (gho D (gHi D T (b, 0))).testBit (gTn T (gH1 D T (b, 0)).1) with
      | true =>
        rw [gHo_3 q2 ht]; dsimp only
        intro q
        exact absurd q (fl_ne (by omega))
      | false =>
        rw [gHo_4 q2 ht]; dsimp only
        intro _
        have y1 : gMn T (gTe T b, 0) (gTs T 59 (nx T (gH1 D T (b, 0)))) := mn_ts (mn_nx a1)
        have this : gTe T b ≤ (gTs T 59 (nx T (gH1 D T (b, 0)))).1 := y1.1
        omega
    · rw [gHo_2 q2]; dsimp only
      intro q
      exact absurd q q2
  · by_cases hn : gnt D < 6
    · rw [gTx_s hn]; dsimp only
      intro _
      have : gMn T (gTe T b, 0) (gTs T 59 (gU5 D T (b, 0))) := by
        unfold gU5 gU4 gU3 gU2 gS1
        exact mn_ts (mn_nx (mn_nw (mn_td (mn_tq (mn_tq (mn_new a0))))))
      have this : gTe T b ≤ (gTs T 59 (gU5 D T (b, 0))).1 := this.1
      omega
    · rw [gTx_f hn]; dsimp only
      intro q
      exact absurd q (fl_ne (by omega))
  · by_cases hn : gnd D = 0
    · rw [gDp_s hn]; dsimp only
      intro _
      have y0 : gMn T (gTe T b, 0) (gDl T 12 (nx T (b, 0), D)).1 := mn_dl 12 (nx T (b, 0), D) a0
      revert y0
      generalize (gDl T 12 (nx T (b, 0), D)).1 = u
      intro y0
      have y1 : gMn T (gTe T b, 0) (gDz T u) := mn_dz y0
      have this : gTe T b ≤ (gDz T u).1 := y1.1
      omega
    · rw [gDp_f hn]; dsimp only
      intro q
      exact absurd q (fl_ne (by omega))
  · cases W with
    | some x =>
      rw [gSw_y]; dsimp only
      intro q
      exact absurd q (fl_ne (by omega))
    | none =>
      rw [gSw_n]; dsimp only
      intro q
      have n1 := gLs_n (T := T) (s := nx T (b, 0)) (nx_le hb)
      revert q n1
      generalize gLs T (nx T (b, 0)) = x
      rw [en]
      intro q n1
      obtain ⟨q1, q2, q3⟩ := gTs_3 q
      have n2 : gTe T b + x.2.1.length ≤ x.1.1 := (n1.2 q1).1
      have y1 : gMn T x.1 (gTs T 59 x.1) := mn_ts (mn_rf n1.1)
      have n3 : x.1.1 ≤ (gTs T 59 x.1).1 := y1.1
      omega
theorem gOl_W (hW : WL D) (hv : gWv W) (hb : b ≤ T.1) : (gOl T ((b, 0), D, W)).1.2 = 0 → WL (gOl T ((b, 0), D, W)).2.1 ∧ gWv (gOl T ((b, 0), D, W)).2.2 :=
  gO_c (fun x => x.1.2 = 0 → WL x.2.1 ∧ gWv x.2.2) (fun _ q => ⟨gSk_W hW hb q, hv⟩) (fun _ _ q => ⟨gHo_W hW q, hv⟩) (fun _ _ _ q => ⟨gTx_W hW hb q, hv⟩) (fun _ _ _ _ q => ⟨gDp_W hW q, hv⟩) (fun _ _ _ _ _ q => ⟨hW, gSw_v hb hv q⟩) (fun _ _ _ _ _ q => absurd q (fl_ne (by omega)))
theorem c_ol (hW : WL D) (hD : DC h D) (hw : DCw h W) (hs : SC h T b 0) (hk : gTk T b ≠ 0) {i : Nat} (hi : i < 1000) : ∃ g, fX4_readFrom_l28 h 16 (nI i) = some (.inl (nI (i + 1), g)) ∧ SCs g T (gOl T ((b, 0), D, W)).1 ∧ fr sn h g ∧ ((gOl T ((b, 0), D, W)).1.2 = 0 → DC g (gOl T ((b, 0), D, W)).2.1 ∧ DCw g (gOl T ((b, 0), D, W)).2.2) := by
  have es : fX7_isSound h = some true := by rw [c_isSound hs]; rfl
  have ee : fX7_isAtEnd h = some false := by rw [c_isEnd hs, decide_eq_false hk]
  have e1 := c_isWord hs (i := 1) (by omega) (by omega)
  have e4 := c_isWord hs (i := 4) (by omega) (by omega)
  have e5 := c_isWord hs (i := 5) (by omega) (by omega)
  have e6 := c_isWord hs (i := 6) (by omega) (by omega)
  have e7 := c_isWord hs (i := 7) (by omega) (by omega)
  have sl_n : ∀ c, sl c → sn c := fun c q => by unfold sl at q; unfold sn; omega
  refine gO_c (fun x => ∃ g, fX4_readFrom_l28 h 16 (nI i) = some (.inl (nI (i + 1), g)) ∧ SCs g T x.1 ∧ fr sn h g ∧ (x.1.2 = 0 → DC g x.2.1 ∧ DCw g x.2.2)) (fun q1 => ?_) (fun q1 q4 => ?_) (fun q1 q4 q5 => ?_) (fun q1 q4 q5 q6 => ?_) (fun q1 q4 q5 q6 q7 => ?_) (fun q1 q4 q5 q6 q7 => ?_)
  · obtain ⟨g, r1, r2, r3, r4⟩ := c_readSkin hW hD hs
    rw [q1] at e1
    refine ⟨g, ?_, r2, fr_mono r3 sl_n, fun q => ⟨r4 q, DCw_fr hw r3 (by unfold sl; omega) (by unfold sl; omega)⟩⟩
    simp (disch := omega) only [↓reduceIte, wlet, Option.bind_some, true_and, and_true, not_true_eq_false, not_false_eq_true, reduceCtorEq, n0_, n1_, n2_, n3_, n4_, n5_, n6_, n7_, n8_, n9_, n10_, n12_, n16_, n18_, n20_, n21_, n22_, n24_, n25_, n26_, n27_, n28_, n29_, n30_, n31_, n32_, n40_, n41_, n42_, n43_, n45_, n48_, n54_, n57_, n58_, n59_, n60_, n61_, n63_, n96_, n97_, n99_, n100_, n122_, n126_, n200_, n255_, n375_, n400_, n1000_, n2000_, n9999_, n5764801_, n1000000_, n3000_, m1, m2, le_t, le_f, lt_t, lt_f, eq_t, eq_f, no_lt, no_le, le_no, lt_no, eq_no, no_eq, add_no, wib_t, clamp, nI_add, pk_mul, pk_sub, nor_, nand_, ndif_, shl_, sh1_, shr_, tbn, tb0, tb1, les_t, les_f, pk_div, rem_, remv, and31, wu1, wuc, wui, wu2, ws1, wsc, ws2, wv1, n11_, n13_, n14_, n15_, n17_, n19_, n23_, n56_, n64_, fX4_readFrom_l28, fX4_readFrom_b142_28, es, ee, e1, r1, Option.isSome_none, Option.isSome_some, Bool.false_eq_true]
  · obtain ⟨g, r1, r2, r3, r4⟩ := c_readHole hW hD hs
    rw [q1] at e1
    rw [q4] at e4
    refine ⟨g, ?_, r2, fr_mono r3 sl_n, fun q => ⟨r4 q, DCw_fr hw r3 (by unfold sl; omega) (by unfold sl; omega)⟩⟩
    simp (disch := omega) only [↓reduceIte, wlet, Option.bind_some, true_and, and_true, not_true_eq_false, not_false_eq_true, reduceCtorEq, n0_, n1_, n2_, n3_, n4_, n5_, n6_, n7_, n8_, n9_, n10_, n12_, n16_, n18_, n20_, n21_, n22_, n24_, n25_, n26_, n27_, n28_, n29_, n30_, n31_, n32_, n40_, n41_, n42_, n43_, n45_, n48_, n54_, n57_, n58_, n59_, n60_, n61_, n63_, n96_, n97_, n99_, n100_, n122_, n126_, n200_, n255_, n375_, n400_, n1000_, n2000_, n9999_, n5764801_, n1000000_, n3000_, m1, m2, le_t, le_f, lt_t, lt_f, eq_t, eq_f, no_lt, no_le, le_no, lt_no, eq_no, no_eq, add_no, wib_t, clamp, nI_add, pk_mul, pk_sub, nor_, nand_, ndif_, shl_, sh1_, shr_, tbn, tb0, tb1, les_t, les_f, pk_div, rem_, remv, and31, wu1, wuc, wui, wu2, ws1, wsc, ws2, wv1, n11_, n13_, n14_, n15_, n17_, n19_, n23_, n56_, n64_, fX4_readFrom_l28, fX4_readFrom_b142_28, es, ee, e1, e4, r1, Option.isSome_none, Option.isSome_some, Bool.false_eq_true]
  · obtain ⟨g, r1, r2, r3, r4⟩ := c_readText hW hD hs
    rw [q1] at e1
    rw [q4] at e4
    rw [q5] at e5
    refine ⟨g, ?_, r2, fr_mono r3 sl_n, fun q => ⟨r4 q, DCw_fr hw r3 (by unfold sl; omega) (by unfold sl; omega)⟩⟩
    simp (disch := omega) only [↓reduceIte, wlet, Option.bind_some, true_and, and_true, not_true_eq_false, not_false_eq_true, reduceCtorEq, n0_, n1_, n2_, n3_, n4_, n5_, n6_, n7_, n8_, n9_, n10_, n12_, n16_, n18_, n20_, n21_, n22_, n24_, n25_, n26_, n27_, n28_, n29_, n30_, n31_, n32_, n40_, n41_, n42_, n43_, n45_, n48_, n54_, n57_, n58_, n59_, n60_, n61_, n63_, n96_, n97_, n99_, n100_, n122_, n126_, n200_, n255_, n375_, n400_, n1000_, n2000_, n9999_, n5764801_, n1000000_, n3000_, m1, m2, le_t, le_f, lt_t, lt_f, eq_t, eq_f, no_lt, no_le, le_no, lt_no, eq_no, no_eq, add_no, wib_t, clamp, nI_add, pk_mul, pk_sub, nor_, nand_, ndif_, shl_, sh1_, shr_, tbn, tb0, tb1, les_t, les_f, pk_div, rem_, remv, and31, wu1, wuc, wui, wu2, ws1, wsc, ws2, wv1, n11_, n13_, n14_, n15_, n17_, n19_, n23_, n56_, n64_, fX4_readFrom_l28, fX4_readFrom_b142_28, es, ee, e1, e4, e5, r1, Option.isSome_none, Option.isSome_some, Bool.false_eq_true]
  · obtain ⟨g, r1, r2, r3, r4⟩ := c_readDamp hW hD hs
    rw [q1] at e1
    rw [q4] at e4
    rw [q5] at e5
    rw [q6] at e6
    refine ⟨g, ?_, r2, fr_mono r3 sl_n, fun q => ⟨r4 q, DCw_fr hw r3 (by unfold sl; omega) (by unfold sl; omega)⟩⟩
    simp (disch := omega) only [↓reduceIte, wlet, Option.bind_some, true_and, and_true, not_true_eq_false, not_false_eq_true, reduceCtorEq, n0_, n1_, n2_, n3_, n4_, n5_, n6_, n7_, n8_, n9_, n10_, n12_, n16_, n18_, n20_, n21_, n22_, n24_, n25_, n26_, n27_, n28_, n29_, n30_, n31_, n32_, n40_, n41_, n42_, n43_, n45_, n48_, n54_, n57_, n58_, n59_, n60_, n61_, n63_, n96_, n97_, n99_, n100_, n122_, n126_, n200_, n255_, n375_, n400_, n1000_, n2000_, n9999_, n5764801_, n1000000_, n3000_, m1, m2, le_t, le_f, lt_t, lt_f, eq_t, eq_f, no_lt, no_le, le_no, lt_no, eq_no, no_eq, add_no, wib_t, clamp, nI_add, pk_mul, pk_sub, nor_, nand_, ndif_, shl_, sh1_, shr_, tbn, tb0, tb1, les_t, les_f, pk_div, rem_, remv, and31, wu1, wuc, wui, wu2, ws1, wsc, ws2, wv1, n11_, n13_, n14_, n15_, n17_, n19_, n23_, n56_, n64_, fX4_readFrom_l28, fX4_readFrom_b142_28, es, ee, e1, e4, e5, e6, r1, Option.isSome_none, Option.isSome_some, Bool.false_eq_true]
  · obtain ⟨g, r1, r2, r3, r4⟩ := c_showL hw hs
    rw [q1] at e1
    rw [q4] at e4
    rw [q5] at e5
    rw [q6] at e6
    rw [q7] at e7
    refine ⟨g, ?_, r2, fr_mono r3 (fun c q => by unfold sw at q; unfold sn; omega), fun q => ⟨DC_fr hD r3 (fun c _ _ => by unfold sw; omega), r4 q⟩⟩
    simp (disch := omega) only [↓reduceIte, wlet, Option.bind_some, true_and, and_true, not_true_eq_false, not_false_eq_true, reduceCtorEq, n0_, n1_, n2_, n3_, n4_, n5_, n6_, n7_, n8_, n9_, n10_, n12_, n16_, n18_, n20_, n21_, n22_, n24_, n25_, n26_, n27_, n28_, n29_, n30_, n31_, n32_, n40_, n41_, n42_, n43_, n45_, n48_, n54_, n57_, n58_, n59_, n60_, n61_, n63_, n96_, n97_, n99_, n100_, n122_, n126_, n200_, n255_, n375_, n400_, n1000_, n2000_, n9999_, n5764801_, n1000000_, n3000_, m1, m2, le_t, le_f, lt_t, lt_f, eq_t, eq_f, no_lt, no_le, le_no, lt_no, eq_no, no_eq, add_no, wib_t, clamp, nI_add, pk_mul, pk_sub, nor_, nand_, ndif_, shl_, sh1_, shr_, tbn, tb0, tb1, les_t, les_f, pk_div, rem_, remv, and31, wu1, wuc, wui, wu2, ws1, wsc, ws2, wv1, n11_, n13_, n14_, n15_, n17_, n19_, n23_, n56_, n64_, fX4_readFrom_l28, fX4_readFrom_b142_28, es, ee, e1, e4, e5, e6, e7, r1, Nat.reduceAdd, Option.isSome_none, Option.isSome_some, Bool.false_eq_true]
  · obtain ⟨g, r1, r2, r3⟩ := c_fl (show SCs h T (b, 0) from hs) (k := 1) (by omega) (by omega)
    rw [q1] at e1
    rw [q4] at e4
    rw [q5] at e5
    rw [q6] at e6
    rw [q7] at e7
    refine ⟨g, ?_, r2, fr_mono r3 (fun c q => Or.inl q), fun q => absurd q (fl_ne (by omega))⟩
    simp (disch := omega) only [↓reduceIte, wlet, Option.bind_some, true_and, and_true, not_true_eq_false, not_false_eq_true, reduceCtorEq, n0_, n1_, n2_, n3_, n4_, n5_, n6_, n7_, n8_, n9_, n10_, n12_, n16_, n18_, n20_, n21_, n22_, n24_, n25_, n26_, n27_, n28_, n29_, n30_, n31_, n32_, n40_, n41_, n42_, n43_, n45_, n48_, n54_, n57_, n58_, n59_, n60_, n61_, n63_, n96_, n97_, n99_, n100_, n122_, n126_, n200_, n255_, n375_, n400_, n1000_, n2000_, n9999_, n5764801_, n1000000_, n3000_, m1, m2, le_t, le_f, lt_t, lt_f, eq_t, eq_f, no_lt, no_le, le_no, lt_no, eq_no, no_eq, add_no, wib_t, clamp, nI_add, pk_mul, pk_sub, nor_, nand_, ndif_, shl_, sh1_, shr_, tbn, tb0, tb1, les_t, les_f, pk_div, rem_, remv, and31, wu1, wuc, wui, wu2, ws1, wsc, ws2, wv1, n11_, n13_, n14_, n15_, n17_, n19_, n23_, n56_, n64_, fX4_readFrom_l28, fX4_readFrom_b142_28, es, ee, e1, e4, e5, e6, e7, r1, Option.isSome_none, Option.isSome_some, Bool.false_eq_true]
theorem r_ol (hW : WL D) (hD : DM h D) (hw : DMw h W) (hs : SM h T b) (hk : gTk T b ≠ 0) : ∃ r g, fX11_readsAll_l51 h = fX11_readsAll_b148_51 g (wb r) ∧ OK g T (gOl T ((b, 0), D, W)).1 r ∧ RZf h g ∧ (r = true → DM g (gOl T ((b, 0), D, W)).2.1 ∧ DMw g (gOl T ((b, 0), D, W)).2.2) := by
  have s6 := hs.2.2.2.1
  have hk4 := gTk_0 hs.2.2.1
  have e1 := r_w1 hs
  have e4 := r_w4 hs
  have e5 := r_w5 hs
  have e6 := r_w6 hs
  have e7 := r_w7 hs
  have n0 : ¬ h.1 188 6 = 0 := by
    rw [s6]
    show ¬ nI (gTk T b) = nI 0
    rw [eq_f hk (by omega) (by omega)]
    exact fun z => z
  refine gO_c (fun x => ∃ r g, fX11_readsAll_l51 h = fX11_readsAll_b148_51 g (wb r) ∧ OK g T x.1 r ∧ RZf h g ∧ (r = true → DM g x.2.1 ∧ DMw g x.2.2)) (fun q1 => ?_) (fun q1 q4 => ?_) (fun q1 q4 q5 => ?_) (fun q1 q4 q5 q6 => ?_) (fun q1 q4 q5 q6 q7 => ?_) (fun q1 q4 q5 q6 q7 => ?_)
  · obtain ⟨r, g, r1, r2, r3, r4⟩ := r_readsSkin hW hD hs
    refine ⟨r, g, ?_, r2, RZf_d r3.1, fun q => ⟨r4 q, DMw_T hw r3⟩⟩
    unfold fX11_readsAll_l51
    rw [if_neg n0, e1, q1, r1]
    rfl
  · obtain ⟨r, g, r1, r2, r3, r4⟩ := r_readsHole hW hD hs
    refine ⟨r, g, ?_, r2, RZf_d r3.1, fun q => ⟨r4 q, DMw_T hw r3⟩⟩
    unfold fX11_readsAll_l51
    rw [if_neg n0, e1, q1, e4, q4, r1]
    rfl
  · obtain ⟨r, g, r1, r2, r3, r4⟩ := r_readsText hW hD hs
    refine ⟨r, g, ?_, r2, RZf_d r3.1, fun q => ⟨r4 q, DMw_T hw r3⟩⟩
    unfold fX11_readsAll_l51
    rw [if_neg n0, e1, q1, e4, q4, e5, q5, r1]
    rfl
  · obtain ⟨r, g, r1, r2, r3, r4⟩ := r_readsDamp hW hD hs
    refine ⟨r, g, ?_, r2, RZf_d r3.1, fun q => ⟨r4 q, DMw_T hw r3⟩⟩
    unfold fX11_readsAll_l51
    rw [if_neg n0, e1, q1, e4, q4, e5, q5, e6, q6, r1]
    rfl
  · obtain ⟨r, g, r1, r2, r3, r5, r4⟩ := r_showL hw hs
    refine ⟨r, g, ?_, r2, r3, fun q => ⟨DM_fr hD r5 (fun c _ _ => by omega), r4 q⟩⟩
    unfold fX11_readsAll_l51
    rw [if_neg n0, e1, q1, e4, q4, e5, q5, e6, q6, e7, q7, r1]
    rfl
  · obtain ⟨g, r1, g9, k1⟩ := r_fails hs 1
    refine ⟨false, g, ?_, ⟨fun q => absurd q (fl_ne (by omega)), fun _ => ⟨rfl, g9⟩⟩, RZf_d (RTd_K k1).1, (by intro q; cases q)⟩
    unfold fX11_readsAll_l51
    rw [if_neg n0, e1, q1, e4, q4, e5, q5, e6, q6, e7, q7, show (1 : Int32) = nI 1 from rfl, r1]
    rfl
end G86

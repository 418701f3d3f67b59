/-! THE LAW'S TEXT, this side -/
def gST (h : wSt) (cs : List Int32) : Prop := h.1 26 1 = nI cs.length ∧ ∀ i, i < cs.length → h.1 27 i = cs.getD i 0
def gST0 (h : wSt) : Prop := ∃ m, m ≤ 1000 ∧ h.1 26 1 = nI m
def sw (c : Nat) : Prop := c = 1 ∨ c = 26 ∨ c = 27
def RW (h g : wSt) : Prop := fr sw h g ∧ g.1 26 2 = h.1 26 2
def CR (h : wSt) (T : gTp) (s : Nat × Nat) (cs : List Int32) : Prop := SCs h T s ∧ gST0 h ∧ (s.2 = 0 → gST h cs ∧ cs.length ≤ s.1)
theorem RW_rf {h : wSt} : RW h h := ⟨fr_rf, rfl⟩
theorem RW_tr {h g f : wSt} (a : RW h g) (b : RW g f) : RW h f := ⟨fr_tr a.1 b.1, b.2.trans a.2⟩
theorem RW_s1 {h g : wSt} (f : fr s1 h g) : RW h g := ⟨fr_mono f (fun c q => Or.inl q), by rw [fr_at f (by unfold s1; omega)]⟩
theorem ST_s1 {h g : wSt} (f : fr s1 h g) {cs : List Int32} (a : gST h cs) : gST g cs := by
  unfold gST
  rw [fr_at f (by unfold s1; omega), fr_at f (by unfold s1; omega)]
  exact a
theorem ST0_s1 {h g : wSt} (f : fr s1 h g) (a : gST0 h) : gST0 g := by
  unfold gST0
  rw [fr_at f (by unfold s1; omega)]
  exact a
theorem gd_l {l m : List Int32} {i : Nat} (h : i < l.length) : (l ++ m).getD i 0 = l.getD i 0 := by
  rw [List.getD_eq_getElem?_getD, List.getD_eq_getElem?_getD, List.getElem?_append_left h]
theorem gd_r {l m : List Int32} {i : Nat} : (l ++ m).getD (l.length + i) 0 = m.getD i 0 := by
  rw [List.getD_eq_getElem?_getD, List.getD_eq_getElem?_getD, List.getElem?_append_right (by omega), Nat.add_sub_cancel_left]
theorem gd_e {l : List Int32} {x : Int32} : (l ++ [x]).getD l.length 0 = x := by
  rw [List.getD_eq_getElem?_getD, List.getElem?_append_right (Nat.le_refl _), Nat.sub_self]
  rfl
section G79
variable {h : wSt} {T : gTp} {b f : Nat} {s : Nat × Nat} {cs : List Int32}
theorem c_addL (h0 : gST0 h) (x : Int32) : ∃ g, fX2_add h 26 x = some g ∧ fr (fun c => c = 26 ∨ c = 27) h g ∧ gST0 g ∧ g.1 26 2 = h.1 26 2 ∧ ∀ cs, gST h cs → cs.length < 1000 → gST g (cs ++ [x]) := by
  obtain ⟨m, hm, e⟩ := h0
  by_cases q : m = 1000
  · subst q
    refine ⟨h, ?_, fr_rf, ⟨1000, hm, e⟩, rfl, fun cs c1 c2 => ?_⟩
    · simp (disch := omega) only [↓reduceIte, wlet, Option.bind_some, true_and, and_true, not_true_eq_false, not_false_eq_true, reduceCtorEq, n0_, n1_, n2_, n3_, n4_, n5_, n6_, n7_, n8_, n9_, n10_, n12_, n16_, n18_, n20_, n21_, n22_, n24_, n25_, n26_, n27_, n28_, n29_, n30_, n31_, n32_, n40_, n41_, n42_, n43_, n45_, n48_, n54_, n57_, n58_, n59_, n60_, n61_, n63_, n96_, n97_, n99_, n100_, n122_, n126_, n200_, n255_, n375_, n400_, n1000_, n2000_, n9999_, n5764801_, n1000000_, n3000_, m1, m2, le_t, le_f, lt_t, lt_f, eq_t, eq_f, no_lt, no_le, le_no, lt_no, eq_no, no_eq, add_no, wib_t, clamp, nI_add, pk_mul, pk_sub, nor_, nand_, ndif_, shl_, sh1_, shr_, tbn, tb0, tb1, les_t, les_f, pk_div, rem_, remv, and31, wu1, wuc, wui, wu2, ws1, wsc, ws2, wv1, n11_, n13_, n14_, n15_, n17_, n19_, n23_, n56_, n64_, fX2_add, e]
    · have := c1.1
      rw [e] at this
      have := (nI_eq (by omega) (by omega)).mp this
      omega
  · refine ⟨wuI (wuI h 27 m x) 26 1 (nI (m + 1)), ?_, fr_tr (fr_wuI (Or.inr rfl)) (fr_wuI (Or.inl rfl)), ⟨m + 1, by omega, wu1⟩, ?_, fun cs c1 c2 => ?_⟩
    · simp (disch := omega) only [↓reduceIte, wlet, Option.bind_some, true_and, and_true, not_true_eq_false, not_false_eq_true, reduceCtorEq, n0_, n1_, n2_, n3_, n4_, n5_, n6_, n7_, n8_, n9_, n10_, n12_, n16_, n18_, n20_, n21_, n22_, n24_, n25_, n26_, n27_, n28_, n29_, n30_, n31_, n32_, n40_, n41_, n42_, n43_, n45_, n48_, n54_, n57_, n58_, n59_, n60_, n61_, n63_, n96_, n97_, n99_, n100_, n122_, n126_, n200_, n255_, n375_, n400_, n1000_, n2000_, n9999_, n5764801_, n1000000_, n3000_, m1, m2, le_t, le_f, lt_t, lt_f, eq_t, eq_f, no_lt, no_le, le_no, lt_no, eq_no, no_eq, add_no, wib_t, clamp, nI_add, pk_mul, pk_sub, nor_, nand_, ndif_, shl_, sh1_, shr_, tbn, tb0, tb1, les_t, les_f, pk_div, rem_, remv, and31, wu1, wuc, wui, wu2, ws1, wsc, ws2, wv1, n11_, n13_, n14_, n15_, n17_, n19_, n23_, n56_, n64_, fX2_add, e, Nat.reduceAdd]
    · rw [wui (by omega), wuc (by omega)]
    · have c3 := c1.1
      rw [e] at c3
      have c3 := (nI_eq (by omega) (by omega)).mp c3
      refine ⟨?_, fun i hi => ?_⟩
      · rw [List.length_append, List.length_cons, List.length_nil, wu1, c3]
      · rw [List.length_append, List.length_cons, List.length_nil] at hi
        rw [wuc (by omega), wuS]
        by_cases q2 : i = m
        · rw [if_pos q2, q2, c3]
          exact gd_e.symm
        · rw [if_neg q2, gd_l (by omega)]
          exact c1.2 i (by omega)
theorem CR_next (a : CR h T s cs) : ∃ g, fX7_next h = some g ∧ RW h g ∧ CR g T (nx T s) cs := by
  obtain ⟨g, e, s2, f2⟩ := c_nxt a.1
  refine ⟨g, e, RW_s1 f2, s2, ST0_s1 f2 a.2.1, fun q => ?_⟩
  rw [nx_2] at q
  obtain ⟨c1, c2⟩ := a.2.2 q
  refine ⟨ST_s1 f2 c1, ?_⟩
  rw [nx_0 q]
  have := gPl_b a.1.2.2.1
  have := (gTe_b a.1.2.2.1).1
  show cs.length ≤ gTe T s.1
  omega
theorem CR_fl (a : CR h T s cs) {k : Nat} (hk : 1 ≤ k) (hk2 : k < 16) : ∃ g, fX7_fail h (nI k) = some g ∧ RW h g ∧ CR g T (fl T k s) cs := by
  obtain ⟨g, e, s2, f2⟩ := c_fl a.1 hk hk2
  exact ⟨g, e, RW_s1 f2, s2, ST0_s1 f2 a.2.1, fun q => absurd q (fl_ne hk)⟩
theorem CR_sign (a : CR h T s cs) {x : Nat} (hx : x < 128) : ∃ g, fX7_takeSign h (nI x) = some g ∧ RW h g ∧ CR g T (gTs T x s) cs := by
  obtain ⟨g, e, s2, f2⟩ := c_takeSign a.1 hx
  refine ⟨g, e, RW_s1 f2, s2, ST0_s1 f2 a.2.1, fun q => ?_⟩
  obtain ⟨q1, q2, q3⟩ := gTs_3 q
  obtain ⟨c1, c2⟩ := a.2.2 q1
  refine ⟨ST_s1 f2 c1, ?_⟩
  rw [q3]
  have := gPl_b a.1.2.2.1
  have := (gTe_b a.1.2.2.1).1
  show cs.length ≤ gTe T s.1
  omega
theorem CR_add (a : CR h T s cs) (x : Int32) (hl : s.2 = 0 → cs.length < s.1) : ∃ g, fX2_add h 26 x = some g ∧ RW h g ∧ CR g T s (cs ++ [x]) := by
  obtain ⟨g, e, f2, z2, t2, k2⟩ := c_addL a.2.1 x
  have w := a.1.2.1.1
  have hb := a.1.2.2.1
  refine ⟨g, e, ⟨fr_mono f2 (fun c q => Or.inr q), t2⟩, SC_fr a.1 f2 (by omega) (by omega), z2, fun q => ?_⟩
  obtain ⟨c1, c2⟩ := a.2.2 q
  have := hl q
  refine ⟨k2 cs c1 (by omega), ?_⟩
  rw [List.length_append, List.length_cons, List.length_nil]
  omega
theorem c_fact (hs : SC h T b f) : fX2_factAt h = some (-nI (gFa T b)) := by
  unfold fX2_factAt gFa
  rw [c_isWord hs (i := 21) (by omega) (by omega), c_isWord hs (i := 22) (by omega) (by omega), c_isWord hs (i := 23) (by omega) (by omega), c_isWord hs (i := 24) (by omega) (by omega)]
  simp only [Option.bind_some]
  cases gIs T b 21 <;> cases gIs T b 22 <;> cases gIs T b 23 <;> cases gIs T b 24 <;> rfl
theorem c_joint (hs : SC h T b f) {l : Nat} (hl : l ≤ 3) : fX2_jointAt h (nI l) = some (cJ (gJo T l b)) := by
  have h0 : l = 0 ∨ l = 1 ∨ l = 2 ∨ l = 3 := by omega
  unfold fX2_jointAt
  rw [show (60 : Int32) = nI 60 from rfl, show (61 : Int32) = nI 61 from rfl, show (43 : Int32) = nI 43 from rfl, show (45 : Int32) = nI 45 from rfl, show (42 : Int32) = nI 42 from rfl]
  rw [c_isSign hs (s := 60) (by omega), c_isSign hs (s := 61) (by omega), c_isSign hs (s := 43) (by omega), c_isSign hs (s := 45) (by omega), c_isSign hs (s := 42) (by omega), c_isWord hs (i := 19) (by omega) (by omega), c_isWord hs (i := 20) (by omega) (by omega)]
  simp only [Option.bind_some]
  rcases h0 with rfl | rfl | rfl | rfl
  · unfold gJo
    cases gIs T b 19 <;> cases gIs T b 20 <;> rfl
  · unfold gJo
    cases gIg T b 60 <;> cases gIg T b 61 <;> rfl
  · unfold gJo
    cases gIg T b 43 <;> cases gIg T b 45 <;> rfl
  · unfold gJo
    cases gIg T b 42 <;> rfl
theorem gJ_v {l : Nat} (hl : l ≤ 3) (h : gJo T l b ≠ 0) : (l = 0 ∧ (gJo T l b = 26 ∧ gIs T b 19 = true ∨ gJo T l b = 27 ∧ gIs T b 20 = true)) ∨ (l = 1 ∧ (gJo T l b = 24 ∧ gIg T b 60 = true ∨ gJo T l b = 25 ∧ gIg T b 61 = true)) ∨ (l = 2 ∧ (gJo T l b = 20 ∧ gIg T b 43 = true ∨ gJo T l b = 21 ∧ gIg T b 45 = true)) ∨ (l = 3 ∧ gJo T l b = 22 ∧ gIg T b 42 = true) := by
  have h0 : l = 0 ∨ l = 1 ∨ l = 2 ∨ l = 3 := by omega
  rcases h0 with rfl | rfl | rfl | rfl
  · left
    refine ⟨rfl, ?_⟩
    unfold gJo at h ⊢
    revert h
    cases h1 : gIs T b 19 <;> cases h2 : gIs T b 20 <;> simp
  · right; left
    refine ⟨rfl, ?_⟩
    unfold gJo at h ⊢
    revert h
    cases h1 : gIg T b 60 <;> cases h2 : gIg T b 61 <;> simp
  · right; right; left
    refine ⟨rfl, ?_⟩
    unfold gJo at h ⊢
    revert h
    cases h1 : gIg T b 43 <;> cases h2 : gIg T b 45 <;> simp
  · right; right; right
    refine ⟨rfl, ?_⟩
    unfold gJo at h ⊢
    revert h
    cases h1 : gIg T b 42 <;> simp
theorem cJ_0 {l : Nat} (hl : l ≤ 3) (h : gJo T l b ≠ 0) : ¬ cJ (gJo T l b) = nI 0 := by
  rcases gJ_v hl h with ⟨-, ⟨e, -⟩ | ⟨e, -⟩⟩ | ⟨-, ⟨e, -⟩ | ⟨e, -⟩⟩ | ⟨-, ⟨e, -⟩ | ⟨e, -⟩⟩ | ⟨-, e, -⟩ <;> rw [e] <;> decide
theorem c_lev {rec0 : wSt → Nat → Int32 → Int32 → Option wSt} {rec1 : wSt → Nat → Int32 → Option wSt} {r : Nat × Nat → gPc} {l d : Nat} (hl : l ≤ 3)
    (hr : ∀ s h cs, CR h T s cs → ∃ g, rec0 h 26 (nI (l + 1)) (nI d) = some g ∧ RW h g ∧ CR g T (r s).1 (cs ++ (r s).2.1)) (hn : ∀ s, s.1 ≤ T.1 → gLg s T (r s)) (a : CR h T s cs) :
    ∃ g, fX2_readLevel_b0 rec0 rec1 h 26 (nI l) (nI d) = some g ∧ RW h g ∧ CR g T (gLp r T l (gMo l) (r s)).1 (cs ++ (gLp r T l (gMo l) (r s)).2.1) := by
  obtain ⟨g1, e1, w1, c1⟩ := hr s h cs a
  have hm : gMo l ≤ 1000 ∧ 1 ≤ gMo l := by unfold gMo; split <;> omega
  obtain ⟨e, he, P⟩ := wit_or (b := fun v : (Int32 × wSt) => fX2_readLevel_l38 rec0 rec1 v.2 26 (nI l) (nI d) (nI (gMo l)) v.1) (gMo l)
    (fun i v => v.1 = nI i ∧ ∃ a : gPc, gLp r T l (gMo l - i) a = gLp r T l (gMo l) (r s) ∧ RW h v.2 ∧ CR v.2 T a.1 (cs ++ a.2.1))
    (fun g => RW h g ∧ CR g T (gLp r T l (gMo l) (r s)).1 (cs ++ (gLp r T l (gMo l) (r s)).2.1))
    (by
      rintro i ⟨v, g⟩ hi ⟨hv, x, gx, wx, cx⟩
      have hv : v = nI i := hv
      subst hv
      have sx : SC g T x.1.1 x.1.2 := cx.1
      have es := c_isSound sx
      by_cases hf : x.1.2 = 0
      · have es : fX7_isSound g = some true := by rw [es, hf]; rfl
        have ej := c_joint sx hl
        by_cases hj : gJo T l x.1.1 = 0
        · right
          rw [gLp_0 (Or.inr hj)] at gx
          rw [← gx]
          refine ⟨g, ?_, wx, cx⟩
          have ej : fX2_jointAt g (nI l) = some (nI 0) := by rw [ej, hj]; rfl
          simp (disch := omega) only [↓reduceIte, wlet, Option.bind_some, true_and, and_true, not_true_eq_false, not_false_eq_true, reduceCtorEq, n0_, n1_, n2_, n3_, n4_, n5_, n6_, n7_, n8_, n9_, n10_, n12_, n16_, n18_, n20_, n21_, n22_, n24_, n25_, n26_, n27_, n28_, n29_, n30_, n31_, n32_, n40_, n41_, n42_, n43_, n45_, n48_, n54_, n57_, n58_, n59_, n60_, n61_, n63_, n96_, n97_, n99_, n100_, n122_, n126_, n200_, n255_, n375_, n400_, n1000_, n2000_, n9999_, n5764801_, n1000000_, n3000_, m1, m2, le_t, le_f, lt_t, lt_f, eq_t, eq_f, no_lt, no_le, le_no, lt_no, eq_no, no_eq, add_no, wib_t, clamp, nI_add, pk_mul, pk_sub, nor_, nand_, ndif_, shl_, sh1_, shr_, tbn, tb0, tb1, les_t, les_f, pk_div, rem_, remv, and31, wu1, wuc, wui, wu2, ws1, wsc, ws2, wv1, n11_, n13_, n14_, n15_, n17_, n19_, n23_, n56_, n64_, fX2_readLevel_l38, es, ej]
        · left
          have hc : ¬ (x.1.2 ≠ 0 ∨ gJo T l x.1.1 = 0) := by
            intro z; rcases z with z | z
            · exact z hf
            · exact hj z
          have j0 := cJ_0 hl hj
          obtain ⟨g2, e2, w2, c2⟩ := CR_next cx
          obtain ⟨g3, e3, w3, c3⟩ := hr _ g2 _ c2
          have n3 := hn (nx T x.1) (nx_le sx.2.2.1)
          obtain ⟨t1, t2⟩ := gTe_s sx.2.2.1 (gJ_k hj)
          obtain ⟨g4, e4, w4, c4⟩ := CR_add c3 (cJ (gJo T l x.1.1)) (fun q => by
            have y1 := (n3.2 q).1
            have y2 := (cx.2.2 hf).2
            rw [nx_0 hf] at y1 ⊢
            have y1 : gTe T x.1.1 + (r (gTe T x.1.1, 0)).2.1.length ≤ (r (gTe T x.1.1, 0)).1.1 := y1
            rw [List.length_append]
            omega)
          refine ⟨(nI (i + 1), g4), ?_, rfl, gJn T l x (r (nx T x.1)), ?_, RW_tr wx (RW_tr w2 (RW_tr w3 w4)), ?_⟩
          · simp (disch := omega) only [↓reduceIte, wlet, Option.bind_some, true_and, and_true, not_true_eq_false, not_false_eq_true, reduceCtorEq, n0_, n1_, n2_, n3_, n4_, n5_, n6_, n7_, n8_, n9_, n10_, n12_, n16_, n18_, n20_, n21_, n22_, n24_, n25_, n26_, n27_, n28_, n29_, n30_, n31_, n32_, n40_, n41_, n42_, n43_, n45_, n48_, n54_, n57_, n58_, n59_, n60_, n61_, n63_, n96_, n97_, n99_, n100_, n122_, n126_, n200_, n255_, n375_, n400_, n1000_, n2000_, n9999_, n5764801_, n1000000_, n3000_, m1, m2, le_t, le_f, lt_t, lt_f, eq_t, eq_f, no_lt, no_le, le_no, lt_no, eq_no, no_eq, add_no, wib_t, clamp, nI_add, pk_mul, pk_sub, nor_, nand_, ndif_, shl_, sh1_, shr_, tbn, tb0, tb1, les_t, les_f, pk_div, rem_, remv, and31, wu1, wuc, wui, wu2, ws1, wsc, ws2, wv1, n11_, n13_, n14_, n15_, n17_, n19_, n23_, n56_, n64_, fX2_readLevel_l38, es, ej, j0, e2, e3, e4]
          · rw [← gx, show gMo l - i = (gMo l - (i + 1)) + 1 by omega, gLp_s hc]
          · rw [List.append_assoc, List.append_assoc] at c4
            exact c4
      · have es : fX7_isSound g = some false := by rw [es, decide_eq_false hf]
        right
        rw [gLp_0 (Or.inl hf)] at gx
        rw [← gx]
        refine ⟨g, ?_, wx, cx⟩
        simp (disch := omega) only [↓reduceIte, wlet, Option.bind_some, true_and, and_true, not_true_eq_false, not_false_eq_true, reduceCtorEq, n0_, n1_, n2_, n3_, n4_, n5_, n6_, n7_, n8_, n9_, n10_, n12_, n16_, n18_, n20_, n21_, n22_, n24_, n25_, n26_, n27_, n28_, n29_, n30_, n31_, n32_, n40_, n41_, n42_, n43_, n45_, n48_, n54_, n57_, n58_, n59_, n60_, n61_, n63_, n96_, n97_, n99_, n100_, n122_, n126_, n200_, n255_, n375_, n400_, n1000_, n2000_, n9999_, n5764801_, n1000000_, n3000_, m1, m2, le_t, le_f, lt_t, lt_f, eq_t, eq_f, no_lt, no_le, le_no, lt_no, eq_no, no_eq, add_no, wib_t, clamp, nI_add, pk_mul, pk_sub, nor_, nand_, ndif_, shl_, sh1_, shr_, tbn, tb0, tb1, les_t, les_f, pk_div, rem_, remv, and31, wu1, wuc, wui, wu2, ws1, wsc, ws2, wv1, n11_, n13_, n14_, n15_, n17_, n19_, n23_, n56_, n64_, fX2_readLevel_l38, es, Option.isSome_none, Option.isSome_some, Bool.false_eq_true])
    (by
      rintro ⟨v, g⟩ ⟨hv, x, gx, wx, cx⟩
      have hv : v = nI (gMo l) := hv
      subst hv
      rw [Nat.sub_self] at gx
      have gx : x = _ := gx
      rw [← gx]
      refine ⟨g, ?_, wx, cx⟩
      simp (disch := omega) only [↓reduceIte, wlet, Option.bind_some, true_and, and_true, not_true_eq_false, not_false_eq_true, reduceCtorEq, n0_, n1_, n2_, n3_, n4_, n5_, n6_, n7_, n8_, n9_, n10_, n12_, n16_, n18_, n20_, n21_, n22_, n24_, n25_, n26_, n27_, n28_, n29_, n30_, n31_, n32_, n40_, n41_, n42_, n43_, n45_, n48_, n54_, n57_, n58_, n59_, n60_, n61_, n63_, n96_, n97_, n99_, n100_, n122_, n126_, n200_, n255_, n375_, n400_, n1000_, n2000_, n9999_, n5764801_, n1000000_, n3000_, m1, m2, le_t, le_f, lt_t, lt_f, eq_t, eq_f, no_lt, no_le, le_no, lt_no, eq_no, no_eq, add_no, wib_t, clamp, nI_add, pk_mul, pk_sub, nor_, nand_, ndif_, shl_, sh1_, shr_, tbn, tb0, tb1, les_t, les_f, pk_div, rem_, remv, and31, wu1, wuc, wui, wu2, ws1, wsc, ws2, wv1, n11_, n13_, n14_, n15_, n17_, n19_, n23_, n56_, n64_, fX2_readLevel_l38])
    (N := 3000) (by omega) (v := (nI 0, g1)) ⟨rfl, r s, by rw [Nat.sub_zero], w1, c1⟩
  refine ⟨e, ?_, P.1, P.2⟩
  unfold gMo at he
  by_cases q : l = 1
  · subst q
    rw [if_pos rfl] at he
    simp (disch := omega) only [↓reduceIte, wlet, Option.bind_some, true_and, and_true, not_true_eq_false, not_false_eq_true, reduceCtorEq, n0_, n1_, n2_, n3_, n4_, n5_, n6_, n7_, n8_, n9_, n10_, n12_, n16_, n18_, n20_, n21_, n22_, n24_, n25_, n26_, n27_, n28_, n29_, n30_, n31_, n32_, n40_, n41_, n42_, n43_, n45_, n48_, n54_, n57_, n58_, n59_, n60_, n61_, n63_, n96_, n97_, n99_, n100_, n122_, n126_, n200_, n255_, n375_, n400_, n1000_, n2000_, n9999_, n5764801_, n1000000_, n3000_, m1, m2, le_t, le_f, lt_t, lt_f, eq_t, eq_f, no_lt, no_le, le_no, lt_no, eq_no, no_eq, add_no, wib_t, clamp, nI_add, pk_mul, pk_sub, nor_, nand_, ndif_, shl_, sh1_, shr_, tbn, tb0, tb1, les_t, les_f, pk_div, rem_, remv, and31, wu1, wuc, wui, wu2, ws1, wsc, ws2, wv1, n11_, n13_, n14_, n15_, n17_, n19_, n23_, n56_, n64_, fX2_readLevel_b0, fX2_readLevel_b33, e1, he, Nat.reduceAdd]
  · rw [if_neg q] at he
    simp (disch := omega) only [↓reduceIte, wlet, Option.bind_some, true_and, and_true, not_true_eq_false, not_false_eq_true, reduceCtorEq, n0_, n1_, n2_, n3_, n4_, n5_, n6_, n7_, n8_, n9_, n10_, n12_, n16_, n18_, n20_, n21_, n22_, n24_, n25_, n26_, n27_, n28_, n29_, n30_, n31_, n32_, n40_, n41_, n42_, n43_, n45_, n48_, n54_, n57_, n58_, n59_, n60_, n61_, n63_, n96_, n97_, n99_, n100_, n122_, n126_, n200_, n255_, n375_, n400_, n1000_, n2000_, n9999_, n5764801_, n1000000_, n3000_, m1, m2, le_t, le_f, lt_t, lt_f, eq_t, eq_f, no_lt, no_le, le_no, lt_no, eq_no, no_eq, add_no, wib_t, clamp, nI_add, pk_mul, pk_sub, nor_, nand_, ndif_, shl_, sh1_, shr_, tbn, tb0, tb1, les_t, les_f, pk_div, rem_, remv, and31, wu1, wuc, wui, wu2, ws1, wsc, ws2, wv1, n11_, n13_, n14_, n15_, n17_, n19_, n23_, n56_, n64_, fX2_readLevel_b0, fX2_readLevel_b33, e1, he]
theorem ng0 : -nI 0 = nI 0 := rfl
theorem ngf {f : Nat} (h : f ≠ 0) (h4 : f ≤ 4) : ¬ -nI f = nI 0 := by
  have : f = 1 ∨ f = 2 ∨ f = 3 ∨ f = 4 := by omega
  rcases this with rfl | rfl | rfl | rfl <;> decide
theorem c_b54 {rec0 : wSt → Nat → Int32 → Int32 → Option wSt} {rec1 : wSt → Nat → Int32 → Option wSt} {x : Int32} (hs : SC h T b 0) (hq : gStt T b = true) : fX2_readPart_b0 rec0 rec1 h 26 x = fX2_readPart_b54 rec0 rec1 h 26 x (-nI (gFa T b)) (wb (gIs T b 18)) := by
  have es : fX7_isSound h = some true := by rw [c_isSound hs]; rfl
  have ef := c_fact hs
  have en := c_isWord hs (i := 18) (by omega) (by omega)
  have eu := c_isNumber hs
  have eo := c_isSign hs (s := 40) (by omega)
  unfold gStt at hq
  by_cases hf : gFa T b = 0
  · rw [hf] at ef hq ⊢
    rw [ng0] at ef ⊢
    cases h18 : gIs T b 18 with
    | true =>
      rw [h18] at en
      simp (disch := omega) only [↓reduceIte, wlet, Option.bind_some, true_and, and_true, not_true_eq_false, not_false_eq_true, reduceCtorEq, n0_, n1_, n2_, n3_, n4_, n5_, n6_, n7_, n8_, n9_, n10_, n12_, n16_, n18_, n20_, n21_, n22_, n24_, n25_, n26_, n27_, n28_, n29_, n30_, n31_, n32_, n40_, n41_, n42_, n43_, n45_, n48_, n54_, n57_, n58_, n59_, n60_, n61_, n63_, n96_, n97_, n99_, n100_, n122_, n126_, n200_, n255_, n375_, n400_, n1000_, n2000_, n9999_, n5764801_, n1000000_, n3000_, m1, m2, le_t, le_f, lt_t, lt_f, eq_t, eq_f, no_lt, no_le, le_no, lt_no, eq_no, no_eq, add_no, wib_t, clamp, nI_add, pk_mul, pk_sub, nor_, nand_, ndif_, shl_, sh1_, shr_, tbn, tb0, tb1, les_t, les_f, pk_div, rem_, remv, and31, wu1, wuc, wui, wu2, ws1, wsc, ws2, wv1, n11_, n13_, n14_, n15_, n17_, n19_, n23_, n56_, n64_, fX2_readPart_b0, es, ef, en]
    | false =>
      rw [h18] at en hq
      by_cases hk : gTk T b = 2
      · rw [decide_eq_true hk] at eu
        simp (disch := omega) only [↓reduceIte, wlet, Option.bind_some, true_and, and_true, not_true_eq_false, not_false_eq_true, reduceCtorEq, n0_, n1_, n2_, n3_, n4_, n5_, n6_, n7_, n8_, n9_, n10_, n12_, n16_, n18_, n20_, n21_, n22_, n24_, n25_, n26_, n27_, n28_, n29_, n30_, n31_, n32_, n40_, n41_, n42_, n43_, n45_, n48_, n54_, n57_, n58_, n59_, n60_, n61_, n63_, n96_, n97_, n99_, n100_, n122_, n126_, n200_, n255_, n375_, n400_, n1000_, n2000_, n9999_, n5764801_, n1000000_, n3000_, m1, m2, le_t, le_f, lt_t, lt_f, eq_t, eq_f, no_lt, no_le, le_no, lt_no, eq_no, no_eq, add_no, wib_t, clamp, nI_add, pk_mul, pk_sub, nor_, nand_, ndif_, shl_, sh1_, shr_, tbn, tb0, tb1, les_t, les_f, pk_div, rem_, remv, and31, wu1, wuc, wui, wu2, ws1, wsc, ws2, wv1, n11_, n13_, n14_, n15_, n17_, n19_, n23_, n56_, n64_, fX2_readPart_b0, es, ef, en, eu, Option.isSome_none, Option.isSome_some, Bool.false_eq_true]
      · rw [decide_eq_false hk] at eu
        cases h40 : gIg T b 40 with
        | true =>
          rw [h40] at eo
          simp (disch := omega) only [↓reduceIte, wlet, Option.bind_some, true_and, and_true, not_true_eq_false, not_false_eq_true, reduceCtorEq, n0_, n1_, n2_, n3_, n4_, n5_, n6_, n7_, n8_, n9_, n10_, n12_, n16_, n18_, n20_, n21_, n22_, n24_, n25_, n26_, n27_, n28_, n29_, n30_, n31_, n32_, n40_, n41_, n42_, n43_, n45_, n48_, n54_, n57_, n58_, n59_, n60_, n61_, n63_, n96_, n97_, n99_, n100_, n122_, n126_, n200_, n255_, n375_, n400_, n1000_, n2000_, n9999_, n5764801_, n1000000_, n3000_, m1, m2, le_t, le_f, lt_t, lt_f, eq_t, eq_f, no_lt, no_le, le_no, lt_no, eq_no, no_eq, add_no, wib_t, clamp, nI_add, pk_mul, pk_sub, nor_, nand_, ndif_, shl_, sh1_, shr_, tbn, tb0, tb1, les_t, les_f, pk_div, rem_, remv, and31, wu1, wuc, wui, wu2, ws1, wsc, ws2, wv1, n11_, n13_, n14_, n15_, n17_, n19_, n23_, n56_, n64_, fX2_readPart_b0, es, ef, en, eu, eo, Option.isSome_none, Option.isSome_some, Bool.false_eq_true]
        | false =>
          rw [h40, decide_eq_false hk] at hq
          simp at hq
  · have := ngf hf gFa_le
    unfold fX2_readPart_b0
    rw [es, ef, en]
    simp only [Option.bind_some, if_true]
    rw [if_neg (show ¬ -nI (gFa T b) = 0 from this)]
theorem c_part {rec0 : wSt → Nat → Int32 → Int32 → Option wSt} {rec1 : wSt → Nat → Int32 → Option wSt} {r0 r1 : Nat → Nat × Nat → gPc} {d : Nat} (hd5 : d ≤ 5)
    (h0 : d ≤ 4 → ∀ s h cs, CR h T s cs → ∃ g, rec0 h 26 (nI 0) (nI (d + 1)) = some g ∧ RW h g ∧ CR g T (r0 (d + 1) s).1 (cs ++ (r0 (d + 1) s).2.1))
    (h1 : d ≤ 4 → ∀ s h cs, CR h T s cs → ∃ g, rec1 h 26 (nI (d + 1)) = some g ∧ RW h g ∧ CR g T (r1 (d + 1) s).1 (cs ++ (r1 (d + 1) s).2.1)) (hn : ∀ s, s.1 ≤ T.1 → gLg s T (r1 (d + 1) s)) (a : CR h T s cs) :
    ∃ g, fX2_readPart_b0 rec0 rec1 h 26 (nI d) = some g ∧ RW h g ∧ CR g T (gPart r0 r1 T d s).1 (cs ++ (gPart r0 r1 T d s).2.1) := by
  have hs := a.1
  have hb := hs.2.2.1
  have hw := hs.2.1.1
  have a0 : s.2 = 0 → SC h T s.1 0 := fun q => by have := a.1; unfold SCs at this; rw [q] at this; exact this
  refine gP_c (fun x => ∃ g, fX2_readPart_b0 rec0 rec1 h 26 (nI d) = some g ∧ RW h g ∧ CR g T x.1 (cs ++ x.2.1)) (fun q => ?_) (fun q hq => ?_) (fun q hq hd => ?_) (fun q hq hd hn18 => ?_) (fun q hq hd hn18 ho => ?_) (fun q hq hd hn18 ho => ?_)
  · refine ⟨h, ?_, RW_rf, ?_⟩
    · have es : fX7_isSound h = some false := by rw [c_isSound (show SC h T s.1 s.2 from hs), decide_eq_false q]
      simp (disch := omega) only [↓reduceIte, wlet, Option.bind_some, true_and, and_true, not_true_eq_false, not_false_eq_true, reduceCtorEq, n0_, n1_, n2_, n3_, n4_, n5_, n6_, n7_, n8_, n9_, n10_, n12_, n16_, n18_, n20_, n21_, n22_, n24_, n25_, n26_, n27_, n28_, n29_, n30_, n31_, n32_, n40_, n41_, n42_, n43_, n45_, n48_, n54_, n57_, n58_, n59_, n60_, n61_, n63_, n96_, n97_, n99_, n100_, n122_, n126_, n200_, n255_, n375_, n400_, n1000_, n2000_, n9999_, n5764801_, n1000000_, n3000_, m1, m2, le_t, le_f, lt_t, lt_f, eq_t, eq_f, no_lt, no_le, le_no, lt_no, eq_no, no_eq, add_no, wib_t, clamp, nI_add, pk_mul, pk_sub, nor_, nand_, ndif_, shl_, sh1_, shr_, tbn, tb0, tb1, les_t, les_f, pk_div, rem_, remv, and31, wu1, wuc, wui, wu2, ws1, wsc, ws2, wv1, n11_, n13_, n14_, n15_, n17_, n19_, n23_, n56_, n64_, fX2_readPart_b0, es, Option.isSome_none, Option.isSome_some, Bool.false_eq_true]
    · show CR h T s (cs ++ [])
      rw [List.append_nil]; exact a
  · obtain ⟨g, e, w, c⟩ := CR_fl a (k := 1) (by omega) (by omega)
    refine ⟨g, ?_, w, ?_⟩
    · have s0 := a0 q
      have es : fX7_isSound h = some true := by rw [c_isSound s0]; rfl
      have ef := c_fact s0
      have en := c_isWord s0 (i := 18) (by omega) (by omega)
      have eu := c_isNumber s0
      have eo := c_isSign s0 (s := 40) (by omega)
      unfold gStt at hq
      simp only [Bool.or_eq_false_iff, decide_eq_false_iff_not, ne_eq, Decidable.not_not] at hq
      obtain ⟨z1, z2, z3, z4⟩ := hq
      rw [z1, ng0] at ef
      rw [z2] at en
      rw [decide_eq_false z3] at eu
      rw [z4] at eo
      simp (disch := omega) only [↓reduceIte, wlet, Option.bind_some, true_and, and_true, not_true_eq_false, not_false_eq_true, reduceCtorEq, n0_, n1_, n2_, n3_, n4_, n5_, n6_, n7_, n8_, n9_, n10_, n12_, n16_, n18_, n20_, n21_, n22_, n24_, n25_, n26_, n27_, n28_, n29_, n30_, n31_, n32_, n40_, n41_, n42_, n43_, n45_, n48_, n54_, n57_, n58_, n59_, n60_, n61_, n63_, n96_, n97_, n99_, n100_, n122_, n126_, n200_, n255_, n375_, n400_, n1000_, n2000_, n9999_, n5764801_, n1000000_, n3000_, m1, m2, le_t, le_f, lt_t, lt_f, eq_t, eq_f, no_lt, no_le, le_no, lt_no, eq_no, no_eq, add_no, wib_t, clamp, nI_add, pk_mul, pk_sub, nor_, nand_, ndif_, shl_, sh1_, shr_, tbn, tb0, tb1, les_t, les_f, pk_div, rem_, remv, and31, wu1, wuc, wui, wu2, ws1, wsc, ws2, wv1, n11_, n13_, n14_, n15_, n17_, n19_, n23_, n56_, n64_, fX2_readPart_b0, es, ef, en, eu, eo, e, Option.isSome_none, Option.isSome_some, Bool.false_eq_true]
    · show CR g T (fl T 1 s) (cs ++ [])
      rw [List.append_nil]; exact c
  · obtain ⟨g, e, w, c⟩ := CR_fl a (k := 5) (by omega) (by omega)
    refine ⟨g, ?_, w, ?_⟩
    · rw [c_b54 (a0 q) hq]
      simp (disch := omega) only [↓reduceIte, wlet, Option.bind_some, true_and, and_true, not_true_eq_false, not_false_eq_true, reduceCtorEq, n0_, n1_, n2_, n3_, n4_, n5_, n6_, n7_, n8_, n9_, n10_, n12_, n16_, n18_, n20_, n21_, n22_, n24_, n25_, n26_, n27_, n28_, n29_, n30_, n31_, n32_, n40_, n41_, n42_, n43_, n45_, n48_, n54_, n57_, n58_, n59_, n60_, n61_, n63_, n96_, n97_, n99_, n100_, n122_, n126_, n200_, n255_, n375_, n400_, n1000_, n2000_, n9999_, n5764801_, n1000000_, n3000_, m1, m2, le_t, le_f, lt_t, lt_f, eq_t, eq_f, no_lt, no_le, le_no, lt_no, eq_no, no_eq, add_no, wib_t, clamp, nI_add, pk_mul, pk_sub, nor_, nand_, ndif_, shl_, sh1_, shr_, tbn, tb0, tb1, les_t, les_f, pk_div, rem_, remv, and31, wu1, wuc, wui, wu2, ws1, wsc, ws2, wv1, n11_, n13_, n14_, n15_, n17_, n19_, n23_, n56_, n64_, fX2_readPart_b54, e]
    · show CR g T (fl T 5 s) (cs ++ [])
      rw [List.append_nil]; exact c
  · obtain ⟨g1, e1, w1, c1⟩ := CR_next a
    obtain ⟨g2, e2, w2, c2⟩ := h1 hd _ g1 _ c1
    have n2 := hn (nx T s) (nx_le hb)
    obtain ⟨t1, t2⟩ := gTe_s hb (gSt_k hq)
    obtain ⟨g3, e3, w3, c3⟩ := CR_add c2 (-5) (fun z => by
      have y1 := (n2.2 z).1
      have y2 := (a.2.2 q).2
      rw [nx_0 q] at y1 ⊢
      have y1 : gTe T s.1 + (r1 (d + 1) (gTe T s.1, 0)).2.1.length ≤ (r1 (d + 1) (gTe T s.1, 0)).1.1 := y1
      rw [List.length_append]
      omega)
    refine ⟨g3, ?_, RW_tr w1 (RW_tr w2 w3), ?_⟩
    · rw [c_b54 (a0 q) hq, hn18]
      have b1 : wb true = nI 1 := rfl
      have n5 : -nI 5 = (-5 : Int32) := rfl
      simp (disch := omega) only [↓reduceIte, wlet, Option.bind_some, true_and, and_true, not_true_eq_false, not_false_eq_true, reduceCtorEq, n0_, n1_, n2_, n3_, n4_, n5_, n6_, n7_, n8_, n9_, n10_, n12_, n16_, n18_, n20_, n21_, n22_, n24_, n25_, n26_, n27_, n28_, n29_, n30_, n31_, n32_, n40_, n41_, n42_, n43_, n45_, n48_, n54_, n57_, n58_, n59_, n60_, n61_, n63_, n96_, n97_, n99_, n100_, n122_, n126_, n200_, n255_, n375_, n400_, n1000_, n2000_, n9999_, n5764801_, n1000000_, n3000_, m1, m2, le_t, le_f, lt_t, lt_f, eq_t, eq_f, no_lt, no_le, le_no, lt_no, eq_no, no_eq, add_no, wib_t, clamp, nI_add, pk_mul, pk_sub, nor_, nand_, ndif_, shl_, sh1_, shr_, tbn, tb0, tb1, les_t, les_f, pk_div, rem_, remv, and31, wu1, wuc, wui, wu2, ws1, wsc, ws2, wv1, n11_, n13_, n14_, n15_, n17_, n19_, n23_, n56_, n64_, fX2_readPart_b54, b1, e1, e2, n5, e3]
    · rw [List.append_assoc] at c3
      exact c3
  · obtain ⟨g1, e1, w1, c1⟩ := CR_next a
    obtain ⟨g2, e2, w2, c2⟩ := h0 hd _ g1 _ c1
    obtain ⟨g3, e3, w3, c3⟩ := CR_sign c2 (x := 41) (by omega)
    refine ⟨g3, ?_, RW_tr w1 (RW_tr w2 w3), c3⟩
    rw [c_b54 (a0 q) hq, hn18]
    have b0 : wb false = nI 0 := rfl
    have eo := c_isSign (a0 q) (s := 40) (by omega)
    rw [ho] at eo
    simp (disch := omega) only [↓reduceIte, wlet, Option.bind_some, true_and, and_true, not_true_eq_false, not_false_eq_true, reduceCtorEq, n0_, n1_, n2_, n3_, n4_, n5_, n6_, n7_, n8_, n9_, n10_, n12_, n16_, n18_, n20_, n21_, n22_, n24_, n25_, n26_, n27_, n28_, n29_, n30_, n31_, n32_, n40_, n41_, n42_, n43_, n45_, n48_, n54_, n57_, n58_, n59_, n60_, n61_, n63_, n96_, n97_, n99_, n100_, n122_, n126_, n200_, n255_, n375_, n400_, n1000_, n2000_, n9999_, n5764801_, n1000000_, n3000_, m1, m2, le_t, le_f, lt_t, lt_f, eq_t, eq_f, no_lt, no_le, le_no, lt_no, eq_no, no_eq, add_no, wib_t, clamp, nI_add, pk_mul, pk_sub, nor_, nand_, ndif_, shl_, sh1_, shr_, tbn, tb0, tb1, les_t, les_f, pk_div, rem_, remv, and31, wu1, wuc, wui, wu2, ws1, wsc, ws2, wv1, n11_, n13_, n14_, n15_, n17_, n19_, n23_, n56_, n64_, fX2_readPart_b54, b0, eo, e1, e2, e3]
  · obtain ⟨t1, t2⟩ := gTe_s hb (gSt_k hq)
    obtain ⟨c1, c2⟩ := a.2.2 q
    obtain ⟨g, e, f2, z2, y2, k2⟩ := c_addL a.2.1 (gAs T s.1)
    have s2 : SCs g T s := SC_fr a.1 f2 (by omega) (by omega)
    obtain ⟨g3, e3, s3, f3⟩ := c_nxt s2
    refine ⟨g3, ?_, RW_tr ⟨fr_mono f2 (fun c q => Or.inr q), y2⟩ (RW_s1 f3), s3, ST0_s1 f3 z2, fun _ => ⟨ST_s1 f3 (k2 cs c1 (by omega)), ?_⟩⟩
    · rw [c_b54 (a0 q) hq, hn18]
      have b0 : wb false = nI 0 := rfl
      have eo := c_isSign (a0 q) (s := 40) (by omega)
      rw [ho] at eo
      unfold gAs at e
      by_cases hf : gFa T s.1 = 0
      · rw [if_pos hf] at e
        rw [hf, ng0]
        have hk : gTk T s.1 = 2 := by
          unfold gStt at hq
          rw [hf, hn18, ho] at hq
          simpa using hq
        have v5 : h.1 1 5 = nI (gTn T s.1) := (a0 q).2.2.2.2.2.2.2.2.1 hk
        simp (disch := omega) only [↓reduceIte, wlet, Option.bind_some, true_and, and_true, not_true_eq_false, not_false_eq_true, reduceCtorEq, n0_, n1_, n2_, n3_, n4_, n5_, n6_, n7_, n8_, n9_, n10_, n12_, n16_, n18_, n20_, n21_, n22_, n24_, n25_, n26_, n27_, n28_, n29_, n30_, n31_, n32_, n40_, n41_, n42_, n43_, n45_, n48_, n54_, n57_, n58_, n59_, n60_, n61_, n63_, n96_, n97_, n99_, n100_, n122_, n126_, n200_, n255_, n375_, n400_, n1000_, n2000_, n9999_, n5764801_, n1000000_, n3000_, m1, m2, le_t, le_f, lt_t, lt_f, eq_t, eq_f, no_lt, no_le, le_no, lt_no, eq_no, no_eq, add_no, wib_t, clamp, nI_add, pk_mul, pk_sub, nor_, nand_, ndif_, shl_, sh1_, shr_, tbn, tb0, tb1, les_t, les_f, pk_div, rem_, remv, and31, wu1, wuc, wui, wu2, ws1, wsc, ws2, wv1, n11_, n13_, n14_, n15_, n17_, n19_, n23_, n56_, n64_, fX2_readPart_b54, fX2_readPart_b137, b0, eo, v5, e, e3, Option.isSome_none, Option.isSome_some, Bool.false_eq_true]
      · rw [if_neg hf] at e
        have := ngf hf gFa_le
        unfold fX2_readPart_b54
        rw [show (4 : Int32) = nI 4 from rfl, if_pos (nI_le hd (by omega)), b0, if_pos (show nI 0 = 0 from rfl), show (40 : Int32) = nI 40 from rfl, eo]
        simp only [Option.bind_some]
        rw [if_neg (by decide), if_neg (show ¬ -nI (gFa T s.1) = 0 from this)]
        unfold fX2_readPart_b137
        rw [e]
        simp only [Option.bind_some]
        rw [e3]
        rfl
    · rw [List.length_append]
      show cs.length + 1 ≤ (nx T s).1
      rw [nx_0 q]
      show cs.length + 1 ≤ gTe T s.1
      omega
theorem c_rr : ∀ (n : Nat), (∀ d s h cs, d ≤ 5 → gFp d ≤ n → CR h T s cs → ∃ g, fX2_readLevel_rr n false h 26 (nI d) 0 = some g ∧ RW h g ∧ CR g T (gX T n false 0 d s).1 (cs ++ (gX T n false 0 d s).2.1))
    ∧ ∀ l d s h cs, l ≤ 4 → d ≤ 5 → gFl l d ≤ n → CR h T s cs → ∃ g, fX2_readLevel_rr n true h 26 (nI l) (nI d) = some g ∧ RW h g ∧ CR g T (gX T n true l d s).1 (cs ++ (gX T n true l d s).2.1)
  | 0 => ⟨fun d s h cs _ q => by unfold gFp at q; omega, fun l d s h cs _ _ q => by unfold gFl gFp at q; omega⟩
  | n + 1 => by
    obtain ⟨i1, i2⟩ := c_rr n
    refine ⟨fun d s h cs hd hf a => ?_, fun l d s h cs hl hd hf a => ?_⟩
    · rw [gX_p]
      exact c_part (rec0 := fun h k x1 x2 => fX2_readLevel_rr n true h k x1 x2) (rec1 := fun h k x1 => fX2_readLevel_rr n false h k x1 0) hd (fun hd4 s h cs a => i2 0 (d + 1) s h cs (by omega) (by omega) (by unfold gFl; unfold gFp at hf ⊢; omega) a) (fun hd4 s h cs a => i1 (d + 1) s h cs (by omega) (by unfold gFp at hf ⊢; omega) a) (fun s hs => (gX_n n).1 (d + 1) s hs) a
    · by_cases c : 3 < l
      · have : l = 4 := by omega
        subst this
        rw [gX_4 c]
        obtain ⟨g, e, w, c2⟩ := i1 d s h cs hd (by unfold gFl at hf; omega) a
        refine ⟨g, ?_, w, c2⟩
        show fX2_readLevel_b0 (fun h k x1 x2 => fX2_readLevel_rr n true h k x1 x2) (fun h k x1 => fX2_readLevel_rr n false h k x1 0) h 26 (nI 4) (nI d) = some g
        have e : fX2_readLevel_rr n false h 26 (nI d) (nI 0) = some g := e
        simp (disch := omega) only [↓reduceIte, wlet, Option.bind_some, true_and, and_true, not_true_eq_false, not_false_eq_true, reduceCtorEq, n0_, n1_, n2_, n3_, n4_, n5_, n6_, n7_, n8_, n9_, n10_, n12_, n16_, n18_, n20_, n21_, n22_, n24_, n25_, n26_, n27_, n28_, n29_, n30_, n31_, n32_, n40_, n41_, n42_, n43_, n45_, n48_, n54_, n57_, n58_, n59_, n60_, n61_, n63_, n96_, n97_, n99_, n100_, n122_, n126_, n200_, n255_, n375_, n400_, n1000_, n2000_, n9999_, n5764801_, n1000000_, n3000_, m1, m2, le_t, le_f, lt_t, lt_f, eq_t, eq_f, no_lt, no_le, le_no, lt_no, eq_no, no_eq, add_no, wib_t, clamp, nI_add, pk_mul, pk_sub, nor_, nand_, ndif_, shl_, sh1_, shr_, tbn, tb0, tb1, les_t, les_f, pk_div, rem_, remv, and31, wu1, wuc, wui, wu2, ws1, wsc, ws2, wv1, n11_, n13_, n14_, n15_, n17_, n19_, n23_, n56_, n64_, fX2_readLevel_b0, e]
      · rw [gX_l (by omega)]
        exact c_lev (rec0 := fun h k x1 x2 => fX2_readLevel_rr n true h k x1 x2) (rec1 := fun h k x1 => fX2_readLevel_rr n false h k x1 0) (by omega) (fun s h cs a => i2 (l + 1) d s h cs (by omega) hd (by unfold gFl at hf ⊢; omega) a) (fun s hs => (gX_n n).2 (l + 1) d s hs) a
end G79

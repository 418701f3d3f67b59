/-! THE DAMP'S LINE -/
def dDp (D : gLib) (v : Nat) : gLib := (fun y j => if y = 0 ∧ j = 2 then gnd D + 1 else if y = 7 ∧ j = gnd D then v else D.1 y j, D.2.1, D.2.2)
def gDl (T : gTp) : Nat → (Nat × Nat) × gLib → (Nat × Nat) × gLib
  | 0, x => x
  | n + 1, x => if x.1.2 ≠ 0 ∨ (gnd x.2 ≠ 0 ∧ gTk T x.1.1 ≠ 2) then x else gDl T n (nx T (gNw T 0 9 x.1), dDp x.2 (gTn T x.1.1))
def gDz (T : gTp) (s : Nat × Nat) : Nat × Nat := gTs T 59 (if gTk T s.1 = 2 then fl T 5 (gNw T 0 9 s) else s)
def gDp (D : gLib) (T : gTp) (s : Nat × Nat) : (Nat × Nat) × gLib := if gnd D = 0 then (gDz T (gDl T 12 (nx T s, D)).1, (gDl T 12 (nx T s, D)).2) else (fl T 3 s, D)
section G76
variable {h : wSt} {T : gTp} {b : Nat} {D : gLib}
theorem gDp_s {s : Nat × Nat} (q : gnd D = 0) : gDp D T s = (gDz T (gDl T 12 (nx T s, D)).1, (gDl T 12 (nx T s, D)).2) := if_pos q
theorem gDp_f {s : Nat × Nat} (q : ¬ gnd D = 0) : gDp D T s = (fl T 3 s, D) := if_neg q
theorem gDl_0 {x : (Nat × Nat) × gLib} (q : x.1.2 ≠ 0 ∨ (gnd x.2 ≠ 0 ∧ gTk T x.1.1 ≠ 2)) : ∀ {n : Nat}, gDl T n x = x
  | 0 => rfl
  | n + 1 => if_pos q
theorem gDl_s {x : (Nat × Nat) × gLib} {n : Nat} (q : ¬ (x.1.2 ≠ 0 ∨ (gnd x.2 ≠ 0 ∧ gTk T x.1.1 ≠ 2))) : gDl T (n + 1) x = gDl T n (nx T (gNw T 0 9 x.1), dDp x.2 (gTn T x.1.1)) := if_neg q
theorem gDz_f {s : Nat × Nat} (q : s.2 ≠ 0) : gDz T s = s := by
  unfold gDz
  rw [gNw_f q, fl_f q, ite_self, gTs_f q]
theorem WL_dp (hW : WL D) (hn : gnd D < 12) {v : Nat} (hv : v ≤ 9) : WL (dDp D v) := by
  obtain ⟨w1, w2, w3, w4, w5, w6⟩ := hW
  refine ⟨w1, w2, by show gnd D + 1 ≤ 12; omega, w4, w5, fun i hi => ?_⟩
  have hi : i < gnd D + 1 := hi
  unfold gdm dDp
  simp only [Nat.reduceEqDiff, false_and, if_false, true_and]
  by_cases e : i = gnd D
  · rw [if_pos e]; exact hv
  · rw [if_neg e]; exact w6 i (by omega)
theorem gDl_W : ∀ (n : Nat) (x : (Nat × Nat) × gLib), WL x.2 → gnd x.2 + n ≤ 12 → (gDl T n x).1.2 = 0 → WL (gDl T n x).2
  | 0, x, hW, _, _ => hW
  | n + 1, x, hW, hn, q => by
    by_cases c : x.1.2 ≠ 0 ∨ (gnd x.2 ≠ 0 ∧ gTk T x.1.1 ≠ 2)
    · rw [gDl_0 c]; exact hW
    · rw [gDl_s c] at q ⊢
      have q2 : (nx T (gNw T 0 9 x.1)).2 = 0 := by
        by_cases z : (nx T (gNw T 0 9 x.1)).2 = 0
        · exact z
        · rw [gDl_0 (Or.inl z)] at q; exact q
      rw [nx_2] at q2
      obtain ⟨-, -, -, h9, -⟩ := gNw_2 q2
      exact gDl_W n _ (WL_dp hW (by omega) h9) (by show gnd x.2 + 1 + n ≤ 12; omega) q
theorem gDp_W (hW : WL D) (q : (gDp D T (b, 0)).1.2 = 0) : WL (gDp D T (b, 0)).2 := by
  by_cases hn : gnd D = 0
  · rw [gDp_s hn] at q ⊢
    dsimp only at q ⊢
    refine gDl_W 12 _ hW (by show gnd D + 12 ≤ 12; omega) ?_
    by_cases z : (gDl T 12 (nx T (b, 0), D)).1.2 = 0
    · exact z
    · rw [gDz_f z] at q; exact q
  · rw [gDp_f hn] at q
    exact absurd q (fl_ne (by omega))
theorem DC_dp {g : wSt} (hD : DC h D) {v : Nat} (g0 : g.1 16 10 = nI (gnd D + 1)) (gi : ∀ i, i ≠ 10 → g.1 16 i = h.1 16 i) (g25 : ∀ i, g.1 25 i = if i = gnd D then nI v else h.1 25 i) (go : ∀ c, 17 ≤ c → c ≤ 24 → g.1 c = h.1 c ∧ g.2 c = h.2 c) : DC g (dDp D v) := by
  obtain ⟨d1, d2, d3, d4, d5, d6⟩ := hD
  have o := fun c h1 h2 => (go c h1 h2).1
  refine ⟨by rw [gi 0 (by omega)]; exact d1, by rw [gi 5 (by omega)]; exact d2, g0, fun j hj => ?_, fun t ht => ?_, fun i hi => ?_⟩
  · have := d4 j hj
    rw [o 18 (by omega) (by omega), o 19 (by omega) (by omega), o 20 (by omega) (by omega), (go 17 (by omega) (by omega)).2]
    exact this
  · have := d5 t ht
    rw [o 22 (by omega) (by omega), o 23 (by omega) (by omega), o 24 (by omega) (by omega), (go 21 (by omega) (by omega)).2]
    exact this
  · have hi : i < gnd D + 1 := hi
    rw [g25]
    unfold gdm dDp
    simp only [Nat.reduceEqDiff, false_and, if_false, true_and]
    by_cases e : i = gnd D
    · rw [if_pos e, if_pos e]
    · rw [if_neg e, if_neg e]; exact d6 i (by omega)
theorem DM_dp {g : wSt} (hD : DM h D) {v : Nat} (g0 : g.1 190 5 = nI (gnd D + 1)) (gi : ∀ i, i ≠ 5 → g.1 190 i = h.1 190 i) (g25 : ∀ i, g.1 199 i = if i = 12 + gnd D then nI v else h.1 199 i) (go : ∀ c, 191 ≤ c → c ≤ 198 → g.1 c = h.1 c ∧ g.2 c = h.2 c) : DM g (dDp D v) := by
  obtain ⟨d1, d2, d3, d4, d5, d6⟩ := hD
  have o := fun c h1 h2 => (go c h1 h2).1
  refine ⟨by rw [gi 3 (by omega)]; exact d1, by rw [gi 4 (by omega)]; exact d2, g0, fun j hj => ?_, fun t ht => ?_, fun i hi => ?_⟩
  · have := d4 j hj
    rw [o 193 (by omega) (by omega), o 194 (by omega) (by omega), o 195 (by omega) (by omega), (go 191 (by omega) (by omega)).2]
    exact this
  · have := d5 t ht
    rw [o 196 (by omega) (by omega), o 197 (by omega) (by omega), o 198 (by omega) (by omega), (go 192 (by omega) (by omega)).2]
    exact this
  · have hi : i < gnd D + 1 := hi
    rw [g25]
    unfold gdm dDp
    simp only [Nat.reduceEqDiff, false_and, if_false, true_and]
    by_cases e : i = gnd D
    · rw [if_pos (by omega), if_pos e]
    · rw [if_neg (by omega), if_neg e]; exact d6 i (by omega)
theorem c_damps (X : (Nat × Nat) × gLib) {g1 : wSt} {s : Nat × Nat} (hX : X = gDl T 12 (s, D)) (hD : DC g1 D) (hn : gnd D = 0) (hs : SCs g1 T s) : ∃ e, wit (fun v : (Int32 × wSt) => fX4_readDamp_l19 v.2 16 v.1) 3000 (nI 0, g1) = some e ∧ fr sl g1 e ∧ SCs e T X.1 ∧ (X.1.2 = 0 → DC e X.2) := by
  exact wit_or (b := fun v : (Int32 × wSt) => fX4_readDamp_l19 v.2 16 v.1) 12
    (fun i v => v.1 = nI i ∧ ∃ x : (Nat × Nat) × gLib, SCs v.2 T x.1 ∧ fr sl g1 v.2 ∧ gDl T (12 - i) x = X ∧ (x.1.2 = 0 → DC v.2 x.2 ∧ gnd x.2 = i))
    (fun g => fr sl g1 g ∧ SCs g T X.1 ∧ (X.1.2 = 0 → DC g X.2))
    (by
      rintro i ⟨v, g⟩ hi ⟨hv, x, sx, fx, gx, px⟩
      have hv : v = nI i := hv
      subst hv
      have sx' : SC g T x.1.1 x.1.2 := sx
      have es := c_isSound sx'
      have en := c_isNumber sx'
      by_cases hf : x.1.2 = 0
      · have es : fX7_isSound g = some true := by rw [es, hf]; rfl
        obtain ⟨p1, p2⟩ := px hf
        by_cases hc : i ≠ 0 ∧ gTk T x.1.1 ≠ 2
        · right
          rw [gDl_0 (Or.inr ⟨by rw [p2]; exact hc.1, hc.2⟩)] at gx
          rw [← gx]
          rw [decide_eq_false hc.2] at en
          refine ⟨g, ?_, fx, sx, fun _ => p1⟩
          have hi0 := hc.1
          simp (disch := omega) only [↓reduceIte, wlet, Option.bind_some, true_and, and_true, not_true_eq_false, not_false_eq_true, reduceCtorEq, n0_, n1_, n2_, n3_, n4_, n5_, n6_, n7_, n8_, n9_, n10_, n12_, n16_, n18_, n20_, n21_, n22_, n24_, n25_, n26_, n27_, n28_, n29_, n30_, n31_, n32_, n40_, n41_, n42_, n43_, n45_, n48_, n54_, n57_, n58_, n59_, n60_, n61_, n63_, n96_, n97_, n99_, n100_, n122_, n126_, n200_, n255_, n375_, n400_, n1000_, n2000_, n9999_, n5764801_, n1000000_, n3000_, m1, m2, le_t, le_f, lt_t, lt_f, eq_t, eq_f, no_lt, no_le, le_no, lt_no, eq_no, no_eq, add_no, wib_t, clamp, nI_add, pk_mul, pk_sub, nor_, nand_, ndif_, shl_, sh1_, shr_, tbn, tb0, tb1, les_t, les_f, pk_div, rem_, remv, and31, wu1, wuc, wui, wu2, ws1, wsc, ws2, wv1, n11_, n13_, n14_, n15_, n17_, n19_, n23_, n56_, n64_, fX4_readDamp_l19, es, en, Option.isSome_none, Option.isSome_some, Bool.false_eq_true]
        · left
          obtain ⟨g2, e2, s2, f2⟩ := c_takeNumber sx (lo := 0) (hi := 9) (by omega) (by omega)
          have f3 : fr (fun c => c = 16 ∨ c = 25) g2 (wuI (wuI g2 25 i (g.1 1 5)) 16 10 (nI (i + 1))) := fr_tr (fr_wuI (Or.inr rfl)) (fr_wuI (Or.inl rfl))
          refine ⟨(nI (i + 1), wuI (wuI g2 25 i (g.1 1 5)) 16 10 (nI (i + 1))), ?_, rfl, (nx T (gNw T 0 9 x.1), dDp x.2 (gTn T x.1.1)), SC_fr s2 f3 (by omega) (by omega), fr_tr fx (fr_tr (fr_mono f2 (fun c q => Or.inl q)) (fr_mono f3 (fun c q => by unfold sl; omega))), ?_, fun q => ?_⟩
          · by_cases hi0 : i = 0
            · subst hi0
              simp (disch := omega) only [↓reduceIte, wlet, Option.bind_some, true_and, and_true, not_true_eq_false, not_false_eq_true, reduceCtorEq, n0_, n1_, n2_, n3_, n4_, n5_, n6_, n7_, n8_, n9_, n10_, n12_, n16_, n18_, n20_, n21_, n22_, n24_, n25_, n26_, n27_, n28_, n29_, n30_, n31_, n32_, n40_, n41_, n42_, n43_, n45_, n48_, n54_, n57_, n58_, n59_, n60_, n61_, n63_, n96_, n97_, n99_, n100_, n122_, n126_, n200_, n255_, n375_, n400_, n1000_, n2000_, n9999_, n5764801_, n1000000_, n3000_, m1, m2, le_t, le_f, lt_t, lt_f, eq_t, eq_f, no_lt, no_le, le_no, lt_no, eq_no, no_eq, add_no, wib_t, clamp, nI_add, pk_mul, pk_sub, nor_, nand_, ndif_, shl_, sh1_, shr_, tbn, tb0, tb1, les_t, les_f, pk_div, rem_, remv, and31, wu1, wuc, wui, wu2, ws1, wsc, ws2, wv1, n11_, n13_, n14_, n15_, n17_, n19_, n23_, n56_, n64_, fX4_readDamp_l19, fX4_readDamp_b43_19, es, e2, Nat.reduceAdd]
            · have hk : gTk T x.1.1 = 2 := by
                by_cases z : gTk T x.1.1 = 2
                · exact z
                · exact absurd ⟨hi0, z⟩ hc
              rw [decide_eq_true hk] at en
              simp (disch := omega) only [↓reduceIte, wlet, Option.bind_some, true_and, and_true, not_true_eq_false, not_false_eq_true, reduceCtorEq, n0_, n1_, n2_, n3_, n4_, n5_, n6_, n7_, n8_, n9_, n10_, n12_, n16_, n18_, n20_, n21_, n22_, n24_, n25_, n26_, n27_, n28_, n29_, n30_, n31_, n32_, n40_, n41_, n42_, n43_, n45_, n48_, n54_, n57_, n58_, n59_, n60_, n61_, n63_, n96_, n97_, n99_, n100_, n122_, n126_, n200_, n255_, n375_, n400_, n1000_, n2000_, n9999_, n5764801_, n1000000_, n3000_, m1, m2, le_t, le_f, lt_t, lt_f, eq_t, eq_f, no_lt, no_le, le_no, lt_no, eq_no, no_eq, add_no, wib_t, clamp, nI_add, pk_mul, pk_sub, nor_, nand_, ndif_, shl_, sh1_, shr_, tbn, tb0, tb1, les_t, les_f, pk_div, rem_, remv, and31, wu1, wuc, wui, wu2, ws1, wsc, ws2, wv1, n11_, n13_, n14_, n15_, n17_, n19_, n23_, n56_, n64_, fX4_readDamp_l19, fX4_readDamp_b43_19, es, en, e2, Nat.reduceAdd]
          · rw [← gx, show 12 - i = (12 - (i + 1)) + 1 by omega, gDl_s (by rw [p2]; exact fun z => z.elim (fun z => z hf) (fun z => hc z))]
          · have q : (nx T (gNw T 0 9 x.1)).2 = 0 := q
            rw [nx_2] at q
            obtain ⟨-, hk, -, h9, -⟩ := gNw_2 q
            have v5 : g.1 1 5 = nI (gTn T x.1.1) := sx.2.2.2.2.2.2.2.2.1 hk
            refine ⟨DC_dp (DC_fr p1 f2 (fun c _ _ => by unfold s1; omega)) (by rw [p2]; exact wu1) (fun j hj => by rw [wui hj, wuc (by omega)]) (fun j => by rw [wuc (by omega), wuS, v5, p2]) (fun c h1 h2 => ⟨by rw [wuc (by omega), wuc (by omega)], rfl⟩), ?_⟩
            show gnd x.2 + 1 = i + 1
            rw [p2]
      · have es : fX7_isSound g = some false := by rw [es, decide_eq_false hf]
        right
        rw [gDl_0 (Or.inl hf)] at gx
        rw [← gx]
        refine ⟨g, ?_, fx, sx, fun q => absurd q hf⟩
        simp (disch := omega) only [↓reduceIte, wlet, Option.bind_some, true_and, and_true, not_true_eq_false, not_false_eq_true, reduceCtorEq, n0_, n1_, n2_, n3_, n4_, n5_, n6_, n7_, n8_, n9_, n10_, n12_, n16_, n18_, n20_, n21_, n22_, n24_, n25_, n26_, n27_, n28_, n29_, n30_, n31_, n32_, n40_, n41_, n42_, n43_, n45_, n48_, n54_, n57_, n58_, n59_, n60_, n61_, n63_, n96_, n97_, n99_, n100_, n122_, n126_, n200_, n255_, n375_, n400_, n1000_, n2000_, n9999_, n5764801_, n1000000_, n3000_, m1, m2, le_t, le_f, lt_t, lt_f, eq_t, eq_f, no_lt, no_le, le_no, lt_no, eq_no, no_eq, add_no, wib_t, clamp, nI_add, pk_mul, pk_sub, nor_, nand_, ndif_, shl_, sh1_, shr_, tbn, tb0, tb1, les_t, les_f, pk_div, rem_, remv, and31, wu1, wuc, wui, wu2, ws1, wsc, ws2, wv1, n11_, n13_, n14_, n15_, n17_, n19_, n23_, n56_, n64_, fX4_readDamp_l19, es, Option.isSome_none, Option.isSome_some, Bool.false_eq_true])
    (by
      rintro ⟨v, g⟩ ⟨hv, x, sx, fx, gx, px⟩
      have hv : v = nI 12 := hv
      subst hv
      have gx : x = X := gx
      rw [← gx]
      refine ⟨g, ?_, fx, sx, fun q => (px q).1⟩
      simp (disch := omega) only [↓reduceIte, wlet, Option.bind_some, true_and, and_true, not_true_eq_false, not_false_eq_true, reduceCtorEq, n0_, n1_, n2_, n3_, n4_, n5_, n6_, n7_, n8_, n9_, n10_, n12_, n16_, n18_, n20_, n21_, n22_, n24_, n25_, n26_, n27_, n28_, n29_, n30_, n31_, n32_, n40_, n41_, n42_, n43_, n45_, n48_, n54_, n57_, n58_, n59_, n60_, n61_, n63_, n96_, n97_, n99_, n100_, n122_, n126_, n200_, n255_, n375_, n400_, n1000_, n2000_, n9999_, n5764801_, n1000000_, n3000_, m1, m2, le_t, le_f, lt_t, lt_f, eq_t, eq_f, no_lt, no_le, le_no, lt_no, eq_no, no_eq, add_no, wib_t, clamp, nI_add, pk_mul, pk_sub, nor_, nand_, ndif_, shl_, sh1_, shr_, tbn, tb0, tb1, les_t, les_f, pk_div, rem_, remv, and31, wu1, wuc, wui, wu2, ws1, wsc, ws2, wv1, n11_, n13_, n14_, n15_, n17_, n19_, n23_, n56_, n64_, fX4_readDamp_l19])
    (N := 3000) (by omega) (v := (nI 0, g1)) ⟨rfl, (s, D), hs, fr_rf, hX.symm, fun _ => ⟨hD, hn⟩⟩
theorem c_readDamp (hW : WL D) (hD : DC h D) (hs : SC h T b 0) : ∃ g, fX4_readDamp h 16 = some g ∧ SCs g T (gDp D T (b, 0)).1 ∧ fr sl h g ∧ ((gDp D T (b, 0)).1.2 = 0 → DC g (gDp D T (b, 0)).2) := by
  have d0 := hD.2.2.1
  have hss : SCs h T (b, 0) := hs
  have n12 := hW.2.2.1
  by_cases hn : gnd D = 0
  · rw [gDp_s hn]; dsimp only
    obtain ⟨g1, e1, s1', f1⟩ := c_nxt hss
    obtain ⟨e, he, fe, se, de⟩ := c_damps _ rfl (DC_fr hD f1 (fun c _ _ => by unfold s1; omega)) hn s1'
    revert se de
    generalize gDl T 12 (nx T (b, 0), D) = X
    intro se de
    rw [hn] at d0
    have en := c_isNumber (show SC e T X.1.1 X.1.2 from se)
    have f1e : fr sl h e := fr_tr (fr_mono f1 (fun c q => Or.inl q)) fe
    unfold gDz
    by_cases hk : gTk T X.1.1 = 2
    · rw [if_pos hk]
      rw [decide_eq_true hk] at en
      obtain ⟨g3, e3, s3, f3⟩ := c_within se (lo := 0) (hi := 9) (by omega) (by omega)
      by_cases q : (gNw T 0 9 X.1).2 = 0
      · rw [decide_eq_true q] at e3
        obtain ⟨g4, e4, s4, f4⟩ := c_fl s3 (k := 5) (by omega) (by omega)
        obtain ⟨g5, e5, s5, f5⟩ := c_takeSign s4 (x := 59) (by omega)
        refine ⟨g5, ?_, s5, fr_tr f1e (fr_mono (fr_tr f3 (fr_tr f4 f5)) (fun c q => Or.inl q)), fun z => absurd (gTs_2 z) (fl_ne (by omega))⟩
        simp (disch := omega) only [↓reduceIte, wlet, Option.bind_some, true_and, and_true, not_true_eq_false, not_false_eq_true, reduceCtorEq, n0_, n1_, n2_, n3_, n4_, n5_, n6_, n7_, n8_, n9_, n10_, n12_, n16_, n18_, n20_, n21_, n22_, n24_, n25_, n26_, n27_, n28_, n29_, n30_, n31_, n32_, n40_, n41_, n42_, n43_, n45_, n48_, n54_, n57_, n58_, n59_, n60_, n61_, n63_, n96_, n97_, n99_, n100_, n122_, n126_, n200_, n255_, n375_, n400_, n1000_, n2000_, n9999_, n5764801_, n1000000_, n3000_, m1, m2, le_t, le_f, lt_t, lt_f, eq_t, eq_f, no_lt, no_le, le_no, lt_no, eq_no, no_eq, add_no, wib_t, clamp, nI_add, pk_mul, pk_sub, nor_, nand_, ndif_, shl_, sh1_, shr_, tbn, tb0, tb1, les_t, les_f, pk_div, rem_, remv, and31, wu1, wuc, wui, wu2, ws1, wsc, ws2, wv1, n11_, n13_, n14_, n15_, n17_, n19_, n23_, n56_, n64_, fX4_readDamp, fX4_readDamp_b91, d0, e1, he, en, e3, e4, e5]
      · rw [decide_eq_false q] at e3
        rw [fl_f q]
        obtain ⟨g5, e5, s5, f5⟩ := c_takeSign s3 (x := 59) (by omega)
        refine ⟨g5, ?_, s5, fr_tr f1e (fr_mono (fr_tr f3 f5) (fun c q => Or.inl q)), fun z => absurd (gTs_2 z) q⟩
        simp (disch := omega) only [↓reduceIte, wlet, Option.bind_some, true_and, and_true, not_true_eq_false, not_false_eq_true, reduceCtorEq, n0_, n1_, n2_, n3_, n4_, n5_, n6_, n7_, n8_, n9_, n10_, n12_, n16_, n18_, n20_, n21_, n22_, n24_, n25_, n26_, n27_, n28_, n29_, n30_, n31_, n32_, n40_, n41_, n42_, n43_, n45_, n48_, n54_, n57_, n58_, n59_, n60_, n61_, n63_, n96_, n97_, n99_, n100_, n122_, n126_, n200_, n255_, n375_, n400_, n1000_, n2000_, n9999_, n5764801_, n1000000_, n3000_, m1, m2, le_t, le_f, lt_t, lt_f, eq_t, eq_f, no_lt, no_le, le_no, lt_no, eq_no, no_eq, add_no, wib_t, clamp, nI_add, pk_mul, pk_sub, nor_, nand_, ndif_, shl_, sh1_, shr_, tbn, tb0, tb1, les_t, les_f, pk_div, rem_, remv, and31, wu1, wuc, wui, wu2, ws1, wsc, ws2, wv1, n11_, n13_, n14_, n15_, n17_, n19_, n23_, n56_, n64_, fX4_readDamp, fX4_readDamp_b91, d0, e1, he, en, e3, e5, Option.isSome_none, Option.isSome_some, Bool.false_eq_true]
    · rw [if_neg hk]
      rw [decide_eq_false hk] at en
      obtain ⟨g5, e5, s5, f5⟩ := c_takeSign se (x := 59) (by omega)
      refine ⟨g5, ?_, s5, fr_tr f1e (fr_mono f5 (fun c q => Or.inl q)), fun z => DC_fr (de (gTs_2 z)) f5 (fun c _ _ => by unfold s1; omega)⟩
      simp (disch := omega) only [↓reduceIte, wlet, Option.bind_some, true_and, and_true, not_true_eq_false, not_false_eq_true, reduceCtorEq, n0_, n1_, n2_, n3_, n4_, n5_, n6_, n7_, n8_, n9_, n10_, n12_, n16_, n18_, n20_, n21_, n22_, n24_, n25_, n26_, n27_, n28_, n29_, n30_, n31_, n32_, n40_, n41_, n42_, n43_, n45_, n48_, n54_, n57_, n58_, n59_, n60_, n61_, n63_, n96_, n97_, n99_, n100_, n122_, n126_, n200_, n255_, n375_, n400_, n1000_, n2000_, n9999_, n5764801_, n1000000_, n3000_, m1, m2, le_t, le_f, lt_t, lt_f, eq_t, eq_f, no_lt, no_le, le_no, lt_no, eq_no, no_eq, add_no, wib_t, clamp, nI_add, pk_mul, pk_sub, nor_, nand_, ndif_, shl_, sh1_, shr_, tbn, tb0, tb1, les_t, les_f, pk_div, rem_, remv, and31, wu1, wuc, wui, wu2, ws1, wsc, ws2, wv1, n11_, n13_, n14_, n15_, n17_, n19_, n23_, n56_, n64_, fX4_readDamp, fX4_readDamp_b91, d0, e1, he, en, e5, Option.isSome_none, Option.isSome_some, Bool.false_eq_true]
  · rw [gDp_f hn]; dsimp only
    obtain ⟨g, e1, s1', f1⟩ := c_fl hss (k := 3) (by omega) (by omega)
    refine ⟨g, ?_, s1', fr_mono f1 (fun c q => Or.inl q), fun q => absurd q (fl_ne (by omega))⟩
    simp (disch := omega) only [↓reduceIte, wlet, Option.bind_some, true_and, and_true, not_true_eq_false, not_false_eq_true, reduceCtorEq, n0_, n1_, n2_, n3_, n4_, n5_, n6_, n7_, n8_, n9_, n10_, n12_, n16_, n18_, n20_, n21_, n22_, n24_, n25_, n26_, n27_, n28_, n29_, n30_, n31_, n32_, n40_, n41_, n42_, n43_, n45_, n48_, n54_, n57_, n58_, n59_, n60_, n61_, n63_, n96_, n97_, n99_, n100_, n122_, n126_, n200_, n255_, n375_, n400_, n1000_, n2000_, n9999_, n5764801_, n1000000_, n3000_, m1, m2, le_t, le_f, lt_t, lt_f, eq_t, eq_f, no_lt, no_le, le_no, lt_no, eq_no, no_eq, add_no, wib_t, clamp, nI_add, pk_mul, pk_sub, nor_, nand_, ndif_, shl_, sh1_, shr_, tbn, tb0, tb1, les_t, les_f, pk_div, rem_, remv, and31, wu1, wuc, wui, wu2, ws1, wsc, ws2, wv1, n11_, n13_, n14_, n15_, n17_, n19_, n23_, n56_, n64_, fX4_readDamp, d0, e1]
end G76

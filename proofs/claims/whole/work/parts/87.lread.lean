/-! A LIBRARY READ, both sides -/
def gD0 : gLib := (fun _ _ => 0, fun _ _ => [], fun _ _ _ _ => false)
def gLz (T : gTp) : (Nat × Nat) × gLib × Option gPc := gLl T 1000 ((0, 0), gD0, none)
section G87
variable {h g : wSt} {T : gTp}
theorem WL_0 : WL gD0 := ⟨Nat.zero_le _, Nat.zero_le _, Nat.zero_le _, fun i hi => absurd hi (Nat.not_lt_zero i), fun i hi => absurd hi (Nat.not_lt_zero i), fun i hi => absurd hi (Nat.not_lt_zero i)⟩
theorem c_untold (h : wSt) : ∃ g, fX2_setUntold h 26 = some g ∧ fr (fun c => c = 26 ∨ c = 27) h g ∧ DCw g none := by
  have f0 : fr (fun c => c = 26 ∨ c = 27) h (wuI (wuI h 26 2 (nI 0)) 26 1 (nI 0)) := fr_tr (fr_wuI (Or.inl rfl)) (fr_wuI (Or.inl rfl))
  have z0 : gST (wuI (wuI h 26 2 (nI 0)) 26 1 (nI 0)) [] := ⟨wu1, fun i hi => absurd hi (Nat.not_lt_zero i)⟩
  obtain ⟨g1, e1, f1, t1, u1, k1⟩ := c_addL (h := wuI (wuI h 26 2 (nI 0)) 26 1 (nI 0)) ⟨0, by omega, wu1⟩ wno2
  obtain ⟨g2, e2, f2, t2, u2, k2⟩ := c_addL t1 (nI 2)
  obtain ⟨g3, e3, f3, t3, u3, k3⟩ := c_addL t2 (-nI 12)
  obtain ⟨g4, e4, f4, t4, u4, k4⟩ := c_addL t3 (-nI 3)
  obtain ⟨g5, e5, f5, t5, u5, k5⟩ := c_addL t4 (-nI 11)
  obtain ⟨g6, e6, f6, t6, u6, k6⟩ := c_addL t5 wno
  obtain ⟨g7, e7, f7, t7, u7, k7⟩ := c_addL t6 (-nI 8)
  refine ⟨g7, ?_, fr_tr f0 (fr_tr f1 (fr_tr f2 (fr_tr f3 (fr_tr f4 (fr_tr f5 (fr_tr f6 f7)))))), ?_, ?_⟩
  · simp (disch := omega) only [↓reduceIte, wlet, Option.bind_some, true_and, and_true, not_true_eq_false, not_false_eq_true, reduceCtorEq, n0_, n1_, n2_, n3_, n4_, n5_, n6_, n7_, n8_, n9_, n10_, n12_, n16_, n18_, n20_, n21_, n22_, n24_, n25_, n26_, n27_, n28_, n29_, n30_, n31_, n32_, n40_, n41_, n42_, n43_, n45_, n48_, n54_, n57_, n58_, n59_, n60_, n61_, n63_, n96_, n97_, n99_, n100_, n122_, n126_, n200_, n255_, n375_, n400_, n1000_, n2000_, n9999_, n5764801_, n1000000_, n3000_, m1, m2, le_t, le_f, lt_t, lt_f, eq_t, eq_f, no_lt, no_le, le_no, lt_no, eq_no, no_eq, add_no, wib_t, clamp, nI_add, pk_mul, pk_sub, nor_, nand_, ndif_, shl_, sh1_, shr_, tbn, tb0, tb1, les_t, les_f, pk_div, rem_, remv, and31, wu1, wuc, wui, wu2, ws1, wsc, ws2, wv1, n11_, n13_, n14_, n15_, n17_, n19_, n23_, n56_, n64_, fX2_setUntold, e1, e2, e3, e4, e5, e6, e7]
  · rw [u7, u6, u5, u4, u3, u2, u1, wui (by omega), wu1]
  · exact k7 _ (k6 _ (k5 _ (k4 _ (k3 _ (k2 _ (k1 _ z0 (by decide)) (by decide)) (by decide)) (by decide)) (by decide)) (by decide)) (by decide)
theorem c_readAll (hT : TC h T) (hWT : WT T) : ∃ g, fX4_readFrom h 16 = some (nI (gLz T).1.2, g) ∧ fr sn h g ∧ SCs g T (gLz T).1 ∧ ((gLz T).1.2 = 0 → DC g (gLz T).2.1 ∧ DCw g (gLz T).2.2 ∧ WL (gLz T).2.1 ∧ gWv (gLz T).2.2) := by
  have f1 : fr (fun c => c = 16) h (wuI (wuI (wuI h 16 0 (nI 0)) 16 5 (nI 0)) 16 10 (nI 0)) := fr_tr (fr_tr (fr_wuI rfl) (fr_wuI rfl)) (fr_wuI rfl)
  obtain ⟨g1, e1, f2, d1⟩ := c_untold (wuI (wuI (wuI h 16 0 (nI 0)) 16 5 (nI 0)) 16 10 (nI 0))
  have f3 : fr (fun c => c = 1) g1 (wuI (wuI g1 1 4 (nI 0)) 1 7 (nI 0)) := fr_tr (fr_wuI rfl) (fr_wuI rfl)
  have t1 : TC (wuI (wuI g1 1 4 (nI 0)) 1 7 (nI 0)) T := by
    refine ⟨?_, fun i hi => ?_⟩
    · rw [wui (by omega), wui (by omega), fr_at f2 (by omega), fr_at f1 (by omega)]; exact hT.1
    · rw [fr_at f3 (by omega), fr_at f2 (by omega), fr_at f1 (by omega)]; exact hT.2 i hi
  obtain ⟨g2, e2, s2, f4⟩ := c_nextAt (b := 0) t1 hWT (by omega) (by rw [wui (by omega)]; exact wu1) wu1
  have f12 : fr sn h g2 := fr_tr (fr_mono f1 (fun c q => by unfold sn; omega)) (fr_tr (fr_mono f2 (fun c q => by unfold sn; omega)) (fr_tr (fr_mono f3 (fun c q => Or.inl q)) (fr_mono f4 (fun c q => Or.inl q))))
  have dw : DCw g2 none := DCw_fr (DCw_fr d1 f3 (by omega) (by omega)) f4 (by unfold s1; omega) (by unfold s1; omega)
  have k16 : g2.1 16 = (wuI (wuI (wuI h 16 0 (nI 0)) 16 5 (nI 0)) 16 10 (nI 0)).1 16 := by
    rw [fr_at f4 (by unfold s1; omega), fr_at f3 (by omega), fr_at f2 (by omega)]
  have dc : DC g2 gD0 := by
    refine ⟨?_, ?_, ?_, fun i hi => absurd hi (Nat.not_lt_zero i), fun i hi => absurd hi (Nat.not_lt_zero i), fun i hi => absurd hi (Nat.not_lt_zero i)⟩
    · rw [k16, wui (by omega), wui (by omega), wu1]; rfl
    · rw [k16, wui (by omega), wu1]; rfl
    · rw [k16, wu1]; rfl
  have key : ∀ X, gLl T 1000 ((0, 0), gD0, none) = X → ∃ e, wit (fun v : (Int32 × wSt) => fX4_readFrom_l28 v.2 16 v.1) 3000 (nI 0, g2) = some e ∧ fr sn h e ∧ SCs e T X.1 ∧ (X.1.2 = 0 → DC e X.2.1 ∧ DCw e X.2.2 ∧ WL X.2.1 ∧ gWv X.2.2) := by
    intro X hX
    exact wit_or (b := fun v : (Int32 × wSt) => fX4_readFrom_l28 v.2 16 v.1) 1000
      (fun i v => v.1 = nI i ∧ ∃ x : (Nat × Nat) × gLib × Option gPc, SCs v.2 T x.1 ∧ fr sn h v.2 ∧ gLl T (1000 - i) x = X ∧ (x.1.2 = 0 → DC v.2 x.2.1 ∧ DCw v.2 x.2.2 ∧ WL x.2.1 ∧ gWv x.2.2))
      (fun g => fr sn h g ∧ SCs g T X.1 ∧ (X.1.2 = 0 → DC g X.2.1 ∧ DCw g X.2.2 ∧ WL X.2.1 ∧ gWv X.2.2))
      (by
        rintro i ⟨v, g⟩ hi ⟨hv, x, sx, fx, gx, px⟩
        have hv : v = nI i := hv
        subst hv
        have sx' : SC g T x.1.1 x.1.2 := sx
        have es := c_isSound sx'
        have ee := c_isEnd sx'
        by_cases hf : x.1.2 = 0
        · have es : fX7_isSound g = some true := by rw [es, hf]; rfl
          by_cases hk : gTk T x.1.1 = 0
          · have ee : fX7_isAtEnd g = some true := by rw [ee, hk]; rfl
            right
            rw [gLl_0 (Or.inr hk)] at gx
            rw [← gx]
            refine ⟨g, ?_, fx, sx, px⟩
            simp (disch := omega) only [↓reduceIte, wlet, Option.bind_some, true_and, and_true, not_true_eq_false, not_false_eq_true, reduceCtorEq, n0_, n1_, n2_, n3_, n4_, n5_, n6_, n7_, n8_, n9_, n10_, n12_, n16_, n18_, n20_, n21_, n22_, n24_, n25_, n26_, n27_, n28_, n29_, n30_, n31_, n32_, n40_, n41_, n42_, n43_, n45_, n48_, n54_, n57_, n58_, n59_, n60_, n61_, n63_, n96_, n97_, n99_, n100_, n122_, n126_, n200_, n255_, n375_, n400_, n1000_, n2000_, n9999_, n5764801_, n1000000_, n3000_, m1, m2, le_t, le_f, lt_t, lt_f, eq_t, eq_f, no_lt, no_le, le_no, lt_no, eq_no, no_eq, add_no, wib_t, clamp, nI_add, pk_mul, pk_sub, nor_, nand_, ndif_, shl_, sh1_, shr_, tbn, tb0, tb1, les_t, les_f, pk_div, rem_, remv, and31, wu1, wuc, wui, wu2, ws1, wsc, ws2, wv1, n11_, n13_, n14_, n15_, n17_, n19_, n23_, n56_, n64_, fX4_readFrom_l28, es, ee]
          · left
            obtain ⟨p1, p2, p3, p4⟩ := px hf
            obtain ⟨⟨b, f⟩, D, W⟩ := x
            have hf : f = 0 := hf
            subst hf
            obtain ⟨g3, e3, s3, f3, d3⟩ := c_ol p3 p1 p2 sx' hk hi
            have w3 := gOl_W (T := T) (b := b) p3 p4 sx'.2.2.1
            rw [show 1000 - i = (1000 - (i + 1)) + 1 by omega, gLl_s (by exact fun z => z.elim (fun z => z rfl) (fun z => hk z))] at gx
            revert s3 d3 w3 gx
            generalize gOl T ((b, 0), D, W) = y
            intro gx s3 d3 w3
            exact ⟨(nI (i + 1), g3), e3, rfl, y, s3, fr_tr fx f3, gx, fun q => ⟨(d3 q).1, (d3 q).2, (w3 q).1, (w3 q).2⟩⟩
        · have es : fX7_isSound g = some false := by rw [es, decide_eq_false hf]
          right
          rw [gLl_0 (Or.inl hf)] at gx
          rw [← gx]
          refine ⟨g, ?_, fx, sx, fun q => absurd q hf⟩
          simp (disch := omega) only [↓reduceIte, wlet, Option.bind_some, true_and, and_true, not_true_eq_false, not_false_eq_true, reduceCtorEq, n0_, n1_, n2_, n3_, n4_, n5_, n6_, n7_, n8_, n9_, n10_, n12_, n16_, n18_, n20_, n21_, n22_, n24_, n25_, n26_, n27_, n28_, n29_, n30_, n31_, n32_, n40_, n41_, n42_, n43_, n45_, n48_, n54_, n57_, n58_, n59_, n60_, n61_, n63_, n96_, n97_, n99_, n100_, n122_, n126_, n200_, n255_, n375_, n400_, n1000_, n2000_, n9999_, n5764801_, n1000000_, n3000_, m1, m2, le_t, le_f, lt_t, lt_f, eq_t, eq_f, no_lt, no_le, le_no, lt_no, eq_no, no_eq, add_no, wib_t, clamp, nI_add, pk_mul, pk_sub, nor_, nand_, ndif_, shl_, sh1_, shr_, tbn, tb0, tb1, les_t, les_f, pk_div, rem_, remv, and31, wu1, wuc, wui, wu2, ws1, wsc, ws2, wv1, n11_, n13_, n14_, n15_, n17_, n19_, n23_, n56_, n64_, fX4_readFrom_l28, es, Option.isSome_none, Option.isSome_some, Bool.false_eq_true])
      (by
        rintro ⟨v, g⟩ ⟨hv, x, sx, fx, gx, px⟩
        have hv : v = nI 1000 := hv
        subst hv
        have gx : x = X := gx
        rw [← gx]
        refine ⟨g, ?_, fx, sx, px⟩
        simp (disch := omega) only [↓reduceIte, wlet, Option.bind_some, true_and, and_true, not_true_eq_false, not_false_eq_true, reduceCtorEq, n0_, n1_, n2_, n3_, n4_, n5_, n6_, n7_, n8_, n9_, n10_, n12_, n16_, n18_, n20_, n21_, n22_, n24_, n25_, n26_, n27_, n28_, n29_, n30_, n31_, n32_, n40_, n41_, n42_, n43_, n45_, n48_, n54_, n57_, n58_, n59_, n60_, n61_, n63_, n96_, n97_, n99_, n100_, n122_, n126_, n200_, n255_, n375_, n400_, n1000_, n2000_, n9999_, n5764801_, n1000000_, n3000_, m1, m2, le_t, le_f, lt_t, lt_f, eq_t, eq_f, no_lt, no_le, le_no, lt_no, eq_no, no_eq, add_no, wib_t, clamp, nI_add, pk_mul, pk_sub, nor_, nand_, ndif_, shl_, sh1_, shr_, tbn, tb0, tb1, les_t, les_f, pk_div, rem_, remv, and31, wu1, wuc, wui, wu2, ws1, wsc, ws2, wv1, n11_, n13_, n14_, n15_, n17_, n19_, n23_, n56_, n64_, fX4_readFrom_l28])
      (N := 3000) (by omega) (v := (nI 0, g2)) ⟨rfl, ((0, 0), gD0, none), s2, f12, hX, fun _ => ⟨dc, dw, WL_0, fun x hx => by cases hx⟩⟩
  have hX : gLl T 1000 ((0, 0), gD0, none) = gLz T := rfl
  revert hX
  generalize gLz T = X
  intro hX
  obtain ⟨e, he, p1, p2, p3⟩ := key X hX
  refine ⟨e, ?_, p1, p2, p3⟩
  have e7 : e.1 1 7 = nI X.1.2 := p2.2.2.2.2.2.2.1
  simp (disch := omega) only [↓reduceIte, wlet, Option.bind_some, true_and, and_true, not_true_eq_false, not_false_eq_true, reduceCtorEq, n0_, n1_, n2_, n3_, n4_, n5_, n6_, n7_, n8_, n9_, n10_, n12_, n16_, n18_, n20_, n21_, n22_, n24_, n25_, n26_, n27_, n28_, n29_, n30_, n31_, n32_, n40_, n41_, n42_, n43_, n45_, n48_, n54_, n57_, n58_, n59_, n60_, n61_, n63_, n96_, n97_, n99_, n100_, n122_, n126_, n200_, n255_, n375_, n400_, n1000_, n2000_, n9999_, n5764801_, n1000000_, n3000_, m1, m2, le_t, le_f, lt_t, lt_f, eq_t, eq_f, no_lt, no_le, le_no, lt_no, eq_no, no_eq, add_no, wib_t, clamp, nI_add, pk_mul, pk_sub, nor_, nand_, ndif_, shl_, sh1_, shr_, tbn, tb0, tb1, les_t, les_f, pk_div, rem_, remv, and31, wu1, wuc, wui, wu2, ws1, wsc, ws2, wv1, n11_, n13_, n14_, n15_, n17_, n19_, n23_, n56_, n64_, fX4_readFrom, fX7_rewind, e1, e2, he, e7, Nat.reduceAdd]
theorem r_readAll (hT : TM h T) (hWT : WT T) : ∃ r g, fX11_readsAll h = some (r, g) ∧ ((gLz T).1.2 = 0 → r = true ∧ DM g (gLz T).2.1 ∧ DMw g (gLz T).2.2 ∧ WL (gLz T).2.1 ∧ gWv (gLz T).2.2) ∧ ((gLz T).1.2 ≠ 0 → r = false ∧ g.1 188 9 = nI (gLz T).1.2) ∧ g.1 188 1 = nI 0 ∧ g.1 188 54 = h.1 188 54 ∧ fr (fun c => c = 188 ∨ (190 ≤ c ∧ c ≤ 204)) h g ∧ (∀ c, 190 ≤ c → c ≤ 202 → ∀ j, j < dlo c → g.1 c j = h.1 c j) ∧ ∀ c, 190 ≤ c → c ≤ 199 → ∀ j, j < dlo c → g.2 c j = h.2 c j := by
  have l2 : wit (fun v : (Int32 × wSt) => fX11_readsAll_l2 v.2 v.1) 3000 (nI 0, h) = some (wuI (wuI (wuI h 190 3 (nI 0)) 190 4 (nI 0)) 190 5 (nI 0)) := by
    have a0 : (fun v : (Int32 × wSt) => fX11_readsAll_l2 v.2 v.1) (nI 0, h) = some (.inl (nI 1, wuI h 190 3 (nI 0))) := by
      show fX11_readsAll_l2 h (nI 0) = _
      simp (disch := omega) only [↓reduceIte, wlet, Option.bind_some, true_and, and_true, not_true_eq_false, not_false_eq_true, reduceCtorEq, n0_, n1_, n2_, n3_, n4_, n5_, n6_, n7_, n8_, n9_, n10_, n12_, n16_, n18_, n20_, n21_, n22_, n24_, n25_, n26_, n27_, n28_, n29_, n30_, n31_, n32_, n40_, n41_, n42_, n43_, n45_, n48_, n54_, n57_, n58_, n59_, n60_, n61_, n63_, n96_, n97_, n99_, n100_, n122_, n126_, n200_, n255_, n375_, n400_, n1000_, n2000_, n9999_, n5764801_, n1000000_, n3000_, m1, m2, le_t, le_f, lt_t, lt_f, eq_t, eq_f, no_lt, no_le, le_no, lt_no, eq_no, no_eq, add_no, wib_t, clamp, nI_add, pk_mul, pk_sub, nor_, nand_, ndif_, shl_, sh1_, shr_, tbn, tb0, tb1, les_t, les_f, pk_div, rem_, remv, and31, wu1, wuc, wui, wu2, ws1, wsc, ws2, wv1, n11_, n13_, n14_, n15_, n17_, n19_, n23_, n56_, n64_, fX11_readsAll_l2, Nat.reduceAdd]
    have a1 : (fun v : (Int32 × wSt) => fX11_readsAll_l2 v.2 v.1) (nI 1, wuI h 190 3 (nI 0)) = some (.inl (nI 2, wuI (wuI h 190 3 (nI 0)) 190 4 (nI 0))) := by
      show fX11_readsAll_l2 (wuI h 190 3 (nI 0)) (nI 1) = _
      simp (disch := omega) only [↓reduceIte, wlet, Option.bind_some, true_and, and_true, not_true_eq_false, not_false_eq_true, reduceCtorEq, n0_, n1_, n2_, n3_, n4_, n5_, n6_, n7_, n8_, n9_, n10_, n12_, n16_, n18_, n20_, n21_, n22_, n24_, n25_, n26_, n27_, n28_, n29_, n30_, n31_, n32_, n40_, n41_, n42_, n43_, n45_, n48_, n54_, n57_, n58_, n59_, n60_, n61_, n63_, n96_, n97_, n99_, n100_, n122_, n126_, n200_, n255_, n375_, n400_, n1000_, n2000_, n9999_, n5764801_, n1000000_, n3000_, m1, m2, le_t, le_f, lt_t, lt_f, eq_t, eq_f, no_lt, no_le, le_no, lt_no, eq_no, no_eq, add_no, wib_t, clamp, nI_add, pk_mul, pk_sub, nor_, nand_, ndif_, shl_, sh1_, shr_, tbn, tb0, tb1, les_t, les_f, pk_div, rem_, remv, and31, wu1, wuc, wui, wu2, ws1, wsc, ws2, wv1, n11_, n13_, n14_, n15_, n17_, n19_, n23_, n56_, n64_, fX11_readsAll_l2, Nat.reduceAdd]
    have a2 : (fun v : (Int32 × wSt) => fX11_readsAll_l2 v.2 v.1) (nI 2, wuI (wuI h 190 3 (nI 0)) 190 4 (nI 0)) = some (.inl (nI 3, wuI (wuI (wuI h 190 3 (nI 0)) 190 4 (nI 0)) 190 5 (nI 0))) := by
      show fX11_readsAll_l2 (wuI (wuI h 190 3 (nI 0)) 190 4 (nI 0)) (nI 2) = _
      simp (disch := omega) only [↓reduceIte, wlet, Option.bind_some, true_and, and_true, not_true_eq_false, not_false_eq_true, reduceCtorEq, n0_, n1_, n2_, n3_, n4_, n5_, n6_, n7_, n8_, n9_, n10_, n12_, n16_, n18_, n20_, n21_, n22_, n24_, n25_, n26_, n27_, n28_, n29_, n30_, n31_, n32_, n40_, n41_, n42_, n43_, n45_, n48_, n54_, n57_, n58_, n59_, n60_, n61_, n63_, n96_, n97_, n99_, n100_, n122_, n126_, n200_, n255_, n375_, n400_, n1000_, n2000_, n9999_, n5764801_, n1000000_, n3000_, m1, m2, le_t, le_f, lt_t, lt_f, eq_t, eq_f, no_lt, no_le, le_no, lt_no, eq_no, no_eq, add_no, wib_t, clamp, nI_add, pk_mul, pk_sub, nor_, nand_, ndif_, shl_, sh1_, shr_, tbn, tb0, tb1, les_t, les_f, pk_div, rem_, remv, and31, wu1, wuc, wui, wu2, ws1, wsc, ws2, wv1, n11_, n13_, n14_, n15_, n17_, n19_, n23_, n56_, n64_, fX11_readsAll_l2, Nat.reduceAdd]
    have a3 : (fun v : (Int32 × wSt) => fX11_readsAll_l2 v.2 v.1) (nI 3, wuI (wuI (wuI h 190 3 (nI 0)) 190 4 (nI 0)) 190 5 (nI 0)) = some (.inr (wuI (wuI (wuI h 190 3 (nI 0)) 190 4 (nI 0)) 190 5 (nI 0))) := by
      show fX11_readsAll_l2 (wuI (wuI (wuI h 190 3 (nI 0)) 190 4 (nI 0)) 190 5 (nI 0)) (nI 3) = _
      simp (disch := omega) only [↓reduceIte, wlet, Option.bind_some, true_and, and_true, not_true_eq_false, not_false_eq_true, reduceCtorEq, n0_, n1_, n2_, n3_, n4_, n5_, n6_, n7_, n8_, n9_, n10_, n12_, n16_, n18_, n20_, n21_, n22_, n24_, n25_, n26_, n27_, n28_, n29_, n30_, n31_, n32_, n40_, n41_, n42_, n43_, n45_, n48_, n54_, n57_, n58_, n59_, n60_, n61_, n63_, n96_, n97_, n99_, n100_, n122_, n126_, n200_, n255_, n375_, n400_, n1000_, n2000_, n9999_, n5764801_, n1000000_, n3000_, m1, m2, le_t, le_f, lt_t, lt_f, eq_t, eq_f, no_lt, no_le, le_no, lt_no, eq_no, no_eq, add_no, wib_t, clamp, nI_add, pk_mul, pk_sub, nor_, nand_, ndif_, shl_, sh1_, shr_, tbn, tb0, tb1, les_t, les_f, pk_div, rem_, remv, and31, wu1, wuc, wui, wu2, ws1, wsc, ws2, wv1, n11_, n13_, n14_, n15_, n17_, n19_, n23_, n56_, n64_, fX11_readsAll_l2]
    rw [show (3000 : Nat) = 2996 + 1 + 1 + 1 + 1 from rfl, wt1 a0, wt1 a1, wt1 a2, wt2 a3]
  have t1 := hT.1
  have hW := hWT.1
  have fA : fr (fun c => c = 188 ∨ (190 ≤ c ∧ c ≤ 204)) h (wuI (wuI (wuI (wuI (wuI (wuI h 190 3 (nI 0)) 190 4 (nI 0)) 190 5 (nI 0)) 200 1 (nI 1000)) 201 1 (nI 1000)) 188 23 (nI 1000)) := fr_tr (fr_tr (fr_tr (fr_tr (fr_tr (fr_wuI (by omega)) (fr_wuI (by omega))) (fr_wuI (by omega))) (fr_wuI (by omega))) (fr_wuI (by omega))) (fr_wuI (by omega))
  have cA1 : (wuI (wuI (wuI (wuI (wuI (wuI h 190 3 (nI 0)) 190 4 (nI 0)) 190 5 (nI 0)) 200 1 (nI 1000)) 201 1 (nI 1000)) 188 23 (nI 1000)).1 188 1 = nI T.1 := by
    rw [wui (by omega), wuc (by omega), wuc (by omega), wuc (by omega), wuc (by omega), wuc (by omega)]; exact t1
  have cA54 : (wuI (wuI (wuI (wuI (wuI (wuI h 190 3 (nI 0)) 190 4 (nI 0)) 190 5 (nI 0)) 200 1 (nI 1000)) 201 1 (nI 1000)) 188 23 (nI 1000)).1 188 54 = h.1 188 54 := by
    rw [wui (by omega), wuc (by omega), wuc (by omega), wuc (by omega), wuc (by omega), wuc (by omega)]
  have cA23 : (wuI (wuI (wuI (wuI (wuI (wuI h 190 3 (nI 0)) 190 4 (nI 0)) 190 5 (nI 0)) 200 1 (nI 1000)) 201 1 (nI 1000)) 188 23 (nI 1000)).1 188 23 = nI 1000 := wu1
  have cA : ∀ j, (wuI (wuI (wuI (wuI (wuI (wuI h 190 3 (nI 0)) 190 4 (nI 0)) 190 5 (nI 0)) 200 1 (nI 1000)) 201 1 (nI 1000)) 188 23 (nI 1000)).1 190 j = if j = 5 then nI 0 else if j = 4 then nI 0 else if j = 3 then nI 0 else h.1 190 j := fun j => by
    rw [wuc (by omega), wuc (by omega), wuc (by omega), wuS, wuS, wuS]
  have cB0 : ∀ j, (wuI (wuI (wuI (wuI (wuI (wuI h 190 3 (nI 0)) 190 4 (nI 0)) 190 5 (nI 0)) 200 1 (nI 1000)) 201 1 (nI 1000)) 188 23 (nI 1000)).1 200 j = if j = 1 then nI 1000 else h.1 200 j := fun j => by
    rw [wuc (by omega), wuc (by omega), wuS, wuc (by omega), wuc (by omega), wuc (by omega)]
  have cC0 : ∀ j, (wuI (wuI (wuI (wuI (wuI (wuI h 190 3 (nI 0)) 190 4 (nI 0)) 190 5 (nI 0)) 200 1 (nI 1000)) 201 1 (nI 1000)) 188 23 (nI 1000)).1 201 j = if j = 1 then nI 1000 else h.1 201 j := fun j => by
    rw [wuc (by omega), wuS, wuc (by omega), wuc (by omega), wuc (by omega), wuc (by omega)]
  have cD : ∀ c, c ≠ 188 → c ≠ 190 → c ≠ 200 → c ≠ 201 → (wuI (wuI (wuI (wuI (wuI (wuI h 190 3 (nI 0)) 190 4 (nI 0)) 190 5 (nI 0)) 200 1 (nI 1000)) 201 1 (nI 1000)) 188 23 (nI 1000)).1 c = h.1 c := fun c h1 h2 h3 h4 => by
    rw [wuc h1, wuc h4, wuc h3, wuc h2, wuc h2, wuc h2]
  have cE : (wuI (wuI (wuI (wuI (wuI (wuI h 190 3 (nI 0)) 190 4 (nI 0)) 190 5 (nI 0)) 200 1 (nI 1000)) 201 1 (nI 1000)) 188 23 (nI 1000)).2 = h.2 := rfl
  have ev : ∀ {kA : wSt}, wuI (wuI (wuI (wuI (wuI (wuI h 190 3 (nI 0)) 190 4 (nI 0)) 190 5 (nI 0)) 200 1 (nI 1000)) 201 1 (nI 1000)) 188 23 (nI 1000) = kA → fX11_readsAll h = (fX11_begins kA).bind (fun yr28 => (wit (fun v : (wSt) => fX11_readsAll_l51 v) 3000 yr28).bind (fun ye40 => match ye40 with
      | .inl ye40v => some (true, ye40v)
      | .inr ye40r => some ye40r)) := by
    intro kA hk
    unfold fX11_readsAll
    rw [show ((0 : Int32), h) = (nI 0, h) from rfl, l2]
    rw [← hk]
    rfl
  revert fA cA1 cA54 cA23 cA cB0 cC0 cD cE ev
  generalize wuI (wuI (wuI (wuI (wuI (wuI h 190 3 (nI 0)) 190 4 (nI 0)) 190 5 (nI 0)) 200 1 (nI 1000)) 201 1 (nI 1000)) 188 23 (nI 1000) = kA
  intro fA cA1 cA54 cA23 cA cB0 cC0 cD cE ev
  have ev := ev rfl
  have f0 : fr s188 kA (wuI (wuI (wuI kA 188 3 (nI T.1)) 188 1 (nI 0)) 188 4 (nI 0)) := fr_tr (fr_tr (fr_wuI rfl) (fr_wuI rfl)) (fr_wuI rfl)
  have z1 : SZm (wuI (wuI (wuI kA 188 3 (nI T.1)) 188 1 (nI 0)) 188 4 (nI 0)) T := by
    refine ⟨?_, fun i hi => ?_⟩
    · rw [wui (by omega), wui (by omega)]; exact wu1
    · rw [fr_at f0 (by unfold s188; omega), fr_at fA (by omega)]; exact hT.2 i hi
  obtain ⟨g1, e1, s1', j1⟩ := r_nextAt (b := 0) z1 hWT (by omega) wu1
  have k1 := RK_J j1
  have eb : fX11_begins kA = some g1 := by
    simp (disch := omega) only [↓reduceIte, wlet, Option.bind_some, true_and, and_true, not_true_eq_false, not_false_eq_true, reduceCtorEq, n0_, n1_, n2_, n3_, n4_, n5_, n6_, n7_, n8_, n9_, n10_, n12_, n16_, n18_, n20_, n21_, n22_, n24_, n25_, n26_, n27_, n28_, n29_, n30_, n31_, n32_, n40_, n41_, n42_, n43_, n45_, n48_, n54_, n57_, n58_, n59_, n60_, n61_, n63_, n96_, n97_, n99_, n100_, n122_, n126_, n200_, n255_, n375_, n400_, n1000_, n2000_, n9999_, n5764801_, n1000000_, n3000_, m1, m2, le_t, le_f, lt_t, lt_f, eq_t, eq_f, no_lt, no_le, le_no, lt_no, eq_no, no_eq, add_no, wib_t, clamp, nI_add, pk_mul, pk_sub, nor_, nand_, ndif_, shl_, sh1_, shr_, tbn, tb0, tb1, les_t, les_f, pk_div, rem_, remv, and31, wu1, wuc, wui, wu2, ws1, wsc, ws2, wv1, n11_, n13_, n14_, n15_, n17_, n19_, n23_, n56_, n64_, fX11_begins, cA1, e1]
  have q1 : ∀ c, c ≠ 188 → g1.1 c = kA.1 c ∧ g1.2 c = kA.2 c := fun c hc => ⟨by rw [fr_at k1.1 (by unfold s188; exact hc), fr_at f0 (by unfold s188; exact hc)], by rw [(k1.1 c (by unfold s188; exact hc)).2, (f0 c (by unfold s188; exact hc)).2]⟩
  have d1 : DM g1 gD0 := by
    refine ⟨?_, ?_, ?_, fun i hi => absurd hi (Nat.not_lt_zero i), fun i hi => absurd hi (Nat.not_lt_zero i), fun i hi => absurd hi (Nat.not_lt_zero i)⟩
    · rw [(q1 190 (by omega)).1, cA, if_neg (by omega), if_neg (by omega), if_pos rfl]; rfl
    · rw [(q1 190 (by omega)).1, cA, if_neg (by omega), if_pos rfl]; rfl
    · rw [(q1 190 (by omega)).1, cA, if_pos rfl]; rfl
  have w1 : DMw g1 none := by
    refine ⟨?_, ?_, ?_⟩
    · rw [(q1 200 (by omega)).1, cB0, if_pos rfl]
    · rw [(q1 201 (by omega)).1, cC0, if_pos rfl]
    · rw [k1.2.1 23 (by omega) (by omega) (by omega) (by omega) (by omega) (by omega), wui (by omega), wui (by omega), wui (by omega)]; exact cA23
  have g11 : g1.1 188 1 = nI 0 := by rw [k1.2.1 1 (by omega) (by omega) (by omega) (by omega) (by omega) (by omega), wui (by omega), wu1]
  have g154 : g1.1 188 54 = h.1 188 54 := by rw [k1.2.1 54 (by omega) (by omega) (by omega) (by omega) (by omega) (by omega), wui (by omega), wui (by omega), wui (by omega)]; exact cA54
  have fr1 : fr (fun c => c = 188 ∨ (190 ≤ c ∧ c ≤ 204)) h g1 := fr_tr fA (fr_tr (fr_mono f0 (fun c q => Or.inl q)) (fr_mono k1.1 (fun c q => Or.inl q)))
  have lo1 : ∀ c, 190 ≤ c → c ≤ 202 → ∀ j, j < dlo c → g1.1 c j = h.1 c j := fun c h1 h2 j hj => by
    rw [(q1 c (by omega)).1]
    by_cases e0 : c = 190
    · subst e0
      have : dlo 190 = 3 := by decide
      rw [cA, if_neg (by omega), if_neg (by omega), if_neg (by omega)]
    · by_cases e2 : c = 200
      · subst e2
        have : dlo 200 = 1 := by decide
        rw [cB0, if_neg (by omega)]
      · by_cases e3 : c = 201
        · subst e3
          have : dlo 201 = 1 := by decide
          rw [cC0, if_neg (by omega)]
        · rw [cD c (by omega) e0 e2 e3]
  have lo2 : ∀ c, 190 ≤ c → c ≤ 199 → ∀ j, j < dlo c → g1.2 c j = h.2 c j := fun c h1 h2 j hj => by rw [(q1 c (by omega)).2, cE]
  have key : ∀ X, gLl T 1000 ((0, 0), gD0, none) = X → ∃ e, wit (fun v : wSt => fX11_readsAll_l51 v) 3000 g1 = some e ∧
      match e with
      | .inl g => X.1.2 = 0 ∧ DM g X.2.1 ∧ DMw g X.2.2 ∧ WL X.2.1 ∧ gWv X.2.2 ∧ RZf g1 g
      | .inr z => z.1 = false ∧ X.1.2 ≠ 0 ∧ z.2.1 188 9 = nI X.1.2 ∧ RZf g1 z.2 := by
    intro X hX
    exact wit_or (b := fun v : wSt => fX11_readsAll_l51 v) 1000
      (fun i v => ∃ b D W, SM v T b ∧ RZf g1 v ∧ DM v D ∧ DMw v W ∧ WL D ∧ gWv W ∧ i ≤ b ∧ gLl T (1000 - i) ((b, 0), D, W) = X)
      (fun e => match e with
      | .inl g => X.1.2 = 0 ∧ DM g X.2.1 ∧ DMw g X.2.2 ∧ WL X.2.1 ∧ gWv X.2.2 ∧ RZf g1 g
      | .inr z => z.1 = false ∧ X.1.2 ≠ 0 ∧ z.2.1 188 9 = nI X.1.2 ∧ RZf g1 z.2)
      (by
        rintro i v hi ⟨b, D, W, sb, rv, dv, wv, hD, hV, ib, gx⟩
        have s6 : v.1 188 6 = nI (gTk T b) := sb.2.2.2.1
        by_cases hk : gTk T b = 0
        · right
          rw [gLl_0 (Or.inr hk)] at gx
          rw [← gx]
          refine ⟨.inl v, ?_, rfl, dv, wv, hD, hV, rv⟩
          rw [hk] at s6
          simp (disch := omega) only [↓reduceIte, wlet, Option.bind_some, true_and, and_true, not_true_eq_false, not_false_eq_true, reduceCtorEq, n0_, n1_, n2_, n3_, n4_, n5_, n6_, n7_, n8_, n9_, n10_, n12_, n16_, n18_, n20_, n21_, n22_, n24_, n25_, n26_, n27_, n28_, n29_, n30_, n31_, n32_, n40_, n41_, n42_, n43_, n45_, n48_, n54_, n57_, n58_, n59_, n60_, n61_, n63_, n96_, n97_, n99_, n100_, n122_, n126_, n200_, n255_, n375_, n400_, n1000_, n2000_, n9999_, n5764801_, n1000000_, n3000_, m1, m2, le_t, le_f, lt_t, lt_f, eq_t, eq_f, no_lt, no_le, le_no, lt_no, eq_no, no_eq, add_no, wib_t, clamp, nI_add, pk_mul, pk_sub, nor_, nand_, ndif_, shl_, sh1_, shr_, tbn, tb0, tb1, les_t, les_f, pk_div, rem_, remv, and31, wu1, wuc, wui, wu2, ws1, wsc, ws2, wv1, n11_, n13_, n14_, n15_, n17_, n19_, n23_, n56_, n64_, fX11_readsAll_l51, s6]
        · obtain ⟨r, g, e3, o3, r3, d3⟩ := r_ol hD dv wv sb hk
          have w3 := gOl_W (T := T) (b := b) hD hV sb.2.2.1
          have m3 := gOl_m (T := T) (b := b) (D := D) (W := W) sb.2.2.1 hk
          rw [show 1000 - i = (1000 - (i + 1)) + 1 by omega, gLl_s (by exact fun z => z.elim (fun z => z rfl) (fun z => hk z))] at gx
          revert o3 d3 w3 m3 gx
          generalize gOl T ((b, 0), D, W) = y
          intro gx o3 d3 w3 m3
          by_cases q : y.1.2 = 0
          · left
            obtain ⟨hr, s3⟩ := o3.1 q
            subst hr
            obtain ⟨⟨b2, f2⟩, D2, W2⟩ := y
            have q : f2 = 0 := q
            subst q
            refine ⟨g, ?_, b2, D2, W2, s3, RZf_tr rv r3, (d3 rfl).1, (d3 rfl).2, (w3 rfl).1, (w3 rfl).2, ?_, gx⟩
            · rw [e3]
              rfl
            · have m3 : b + 1 ≤ b2 := m3 rfl
              omega
          · right
            obtain ⟨hr, s9⟩ := o3.2 q
            subst hr
            rw [gLl_0 (Or.inl q)] at gx
            subst gx
            refine ⟨.inr (false, g), ?_, rfl, q, s9, RZf_tr rv r3⟩
            rw [e3]
            rfl)
      (by
        rintro v ⟨b, D, W, sb, rv, dv, wv, hD, hV, ib, gx⟩
        have gx : ((b, 0), D, W) = X := gx
        have s6 : v.1 188 6 = nI (gTk T b) := sb.2.2.2.1
        have hk : gTk T b = 0 := by
          by_cases z : gTk T b = 0
          · exact z
          · have := gTe_s sb.2.2.1 z
            omega
        rw [← gx]
        refine ⟨.inl v, ?_, rfl, dv, wv, hD, hV, rv⟩
        rw [hk] at s6
        simp (disch := omega) only [↓reduceIte, wlet, Option.bind_some, true_and, and_true, not_true_eq_false, not_false_eq_true, reduceCtorEq, n0_, n1_, n2_, n3_, n4_, n5_, n6_, n7_, n8_, n9_, n10_, n12_, n16_, n18_, n20_, n21_, n22_, n24_, n25_, n26_, n27_, n28_, n29_, n30_, n31_, n32_, n40_, n41_, n42_, n43_, n45_, n48_, n54_, n57_, n58_, n59_, n60_, n61_, n63_, n96_, n97_, n99_, n100_, n122_, n126_, n200_, n255_, n375_, n400_, n1000_, n2000_, n9999_, n5764801_, n1000000_, n3000_, m1, m2, le_t, le_f, lt_t, lt_f, eq_t, eq_f, no_lt, no_le, le_no, lt_no, eq_no, no_eq, add_no, wib_t, clamp, nI_add, pk_mul, pk_sub, nor_, nand_, ndif_, shl_, sh1_, shr_, tbn, tb0, tb1, les_t, les_f, pk_div, rem_, remv, and31, wu1, wuc, wui, wu2, ws1, wsc, ws2, wv1, n11_, n13_, n14_, n15_, n17_, n19_, n23_, n56_, n64_, fX11_readsAll_l51, s6])
      (N := 3000) (by omega) (v := g1) ⟨0, gD0, none, s1', RZf_rf, d1, w1, WL_0, fun x hx => (by cases hx), by omega, hX⟩
  have hX : gLl T 1000 ((0, 0), gD0, none) = gLz T := rfl
  revert hX
  generalize gLz T = X
  intro hX
  obtain ⟨e, he, P⟩ := key X hX
  rw [ev, eb, Option.bind_some, he, Option.bind_some]
  cases e with
  | inl g =>
    obtain ⟨p1, p2, p3, p4, p5, p6⟩ : X.1.2 = 0 ∧ DM g X.2.1 ∧ DMw g X.2.2 ∧ WL X.2.1 ∧ gWv X.2.2 ∧ RZf g1 g := P
    exact ⟨true, g, rfl, fun _ => ⟨rfl, p2, p3, p4, p5⟩, fun z => absurd p1 z, by rw [p6.2.1 1 (by omega) (by omega) (by omega) (by omega) (by omega) (by omega) (by omega)]; exact g11, by rw [p6.2.1 54 (by omega) (by omega) (by omega) (by omega) (by omega) (by omega) (by omega)]; exact g154, fr_tr fr1 p6.1, fun c h1 h2 j hj => (p6.2.2.1 c h1 h2 j hj).trans (lo1 c h1 h2 j hj), fun c h1 h2 j hj => (p6.2.2.2 c h1 h2 j hj).trans (lo2 c h1 h2 j hj)⟩
  | inr z =>
    obtain ⟨r, g⟩ := z
    obtain ⟨p1, p2, p3, p6⟩ : r = false ∧ X.1.2 ≠ 0 ∧ g.1 188 9 = nI X.1.2 ∧ RZf g1 g := P
    exact ⟨r, g, rfl, fun z => absurd z p2, fun _ => ⟨p1, p3⟩, by rw [p6.2.1 1 (by omega) (by omega) (by omega) (by omega) (by omega) (by omega) (by omega)]; exact g11, by rw [p6.2.1 54 (by omega) (by omega) (by omega) (by omega) (by omega) (by omega) (by omega)]; exact g154, fr_tr fr1 p6.1, fun c h1 h2 j hj => (p6.2.2.1 c h1 h2 j hj).trans (lo1 c h1 h2 j hj), fun c h1 h2 j hj => (p6.2.2.2 c h1 h2 j hj).trans (lo2 c h1 h2 j hj)⟩
end G87

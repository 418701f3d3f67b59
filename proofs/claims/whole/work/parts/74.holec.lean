/-! A HOLE'S LINE, this side -/
section G74
variable {h : wSt} {T : gTp} {b : Nat} {D : gLib}
theorem gHo_2 {s : Nat × Nat} (q : (gH2 D T s).2 ≠ 0) : gHo D T s = (gH2 D T s, D) := if_pos q
theorem gHo_3 {s : Nat × Nat} (q : (gH2 D T s).2 = 0) (t : (gho D (gHi D T s)).testBit (gTn T (gH1 D T s).1) = true) : gHo D T s = (fl T 3 (gH1 D T s), D) := by
  unfold gHo; rw [if_neg (fun z => z q), if_pos t]
theorem gHo_4 {s : Nat × Nat} (q : (gH2 D T s).2 = 0) (t : (gho D (gHi D T s)).testBit (gTn T (gH1 D T s).1) = false) : gHo D T s = (gTs T 59 (nx T (gH1 D T s)), dHo D (gHi D T s) (gho D (gHi D T s) ||| 2 ^ gTn T (gH1 D T s).1)) := by
  unfold gHo; rw [if_neg (fun z => z q), if_neg (by rw [t]; decide)]
theorem c_readHole (hW : WL D) (hD : DC h D) (hs : SC h T b 0) : ∃ g, fX4_readHole h 16 = some g ∧ SCs g T (gHo D T (b, 0)).1 ∧ fr sl h g ∧ ((gHo D T (b, 0)).1.2 = 0 → DC g (gHo D T (b, 0)).2) := by
  have hss : SCs h T (b, 0) := hs
  obtain ⟨g1, e1, s1', f1⟩ := c_nxt hss
  have D1 := DC_fr hD f1 (fun c _ _ => by unfold s1; omega)
  have d1 := D1.1
  obtain ⟨g2, e2, s2, f2⟩ := c_takeTold s1' (nm := gnm D 0) (a := 17) (n := gns D) (g := 3) (fun i hi => ⟨(hW.2.2.2.1 i hi).2.2.2.2.2, (D1.2.2.2.1 i hi).2.2.2⟩) hW.1 (by omega)
  have s2 : SCs g2 T (gH1 D T (b, 0)) := s2
  have D2 := DC_fr D1 f2 (fun c _ _ => by unfold s1; omega)
  have f12 : fr sl h g2 := fr_mono (fr_tr f1 f2) (fun c q => Or.inl q)
  by_cases q1 : (gH1 D T (b, 0)).2 = 0
  · obtain ⟨-, i, hi, hi2⟩ := gTo_2 q1
    have ei : gHi D T (b, 0) = i := by unfold gHi; rw [hi]; rfl
    have ev : rI (gTv T (gnm D 0) (gns D) (nx T (b, 0))) = nI i := by unfold gTv; rw [if_pos (show (gTo T (gnm D 0) (gns D) (nx T (b, 0))).2 = 0 from q1), hi]; rfl
    rw [ev] at e2
    obtain ⟨w1, w2, w3, w4, w5, w6⟩ := hW.2.2.2.1 i hi2
    obtain ⟨x1, x2, x3, x4⟩ := D2.2.2.2.1 i hi2
    have n3 := hW.1
    obtain ⟨g3, e3, s3, f3⟩ := c_within s2 (lo := 0) (hi := gln D i - 1) (by omega) (by omega)
    have eH2 : gH2 D T (b, 0) = gNw T 0 (gln D i - 1) (gH1 D T (b, 0)) := by unfold gH2; rw [ei]
    rw [← eH2] at e3 s3
    have sb : nI (gln D i) - nI 1 = nI (gln D i - 1) := pk_sub (by omega)
    by_cases q2 : (gH2 D T (b, 0)).2 = 0
    · have q2' := q2
      rw [eH2] at q2'
      obtain ⟨-, hk, -, hu, eN'⟩ := gNw_2 q2'
      have e12 : gH2 D T (b, 0) = gH1 D T (b, 0) := by rw [eH2]; exact eN'
      rw [decide_eq_true q2] at e3
      rw [e12] at s3
      have v5 : g3.1 1 5 = nI (gTn T (gH1 D T (b, 0)).1) := s3.2.2.2.2.2.2.2.2.1 hk
      have D3 := DC_fr D2 f3 (fun c _ _ => by unfold s1; omega)
      have x3 := (D3.2.2.2.1 i hi2).2.2.1
      have f13 : fr sl h g3 := fr_tr f12 (fr_mono f3 (fun c q => Or.inl q))
      have hln : gTn T (gH1 D T (b, 0)).1 < 6 := by omega
      have hho : gho D i < 64 := Nat.lt_of_lt_of_le w5 (Nat.pow_le_pow_right (by omega) w2)
      have m31 : nI (gTn T (gH1 D T (b, 0)).1) &&& nI 31 = nI (gTn T (gH1 D T (b, 0)).1) := by
        generalize gTn T (gH1 D T (b, 0)).1 = n at hln
        rcases n with _ | _ | _ | _ | _ | _ | n <;> first | rfl | omega
      cases ht : (gho D (gHi D T (b, 0))).testBit (gTn T (gH1 D T (b, 0)).1) with
      | true =>
        rw [gHo_3 q2 ht]; dsimp only
        obtain ⟨g4, e4, s4, f4⟩ := c_fl s3 (k := 3) (by omega) (by omega)
        refine ⟨g4, ?_, s4, fr_tr f13 (fr_mono f4 (fun c q => Or.inl q)), fun q => absurd q (fl_ne (by omega))⟩
        have hb : ¬ nI (gho D i &&& 2 ^ gTn T (gH1 D T (b, 0)).1) = nI 0 := by
          intro q
          have hlt : gho D i &&& 2 ^ gTn T (gH1 D T (b, 0)).1 < 64 := Nat.lt_of_le_of_lt Nat.and_le_left hho
          have q := (nI_eq (by omega) (by omega)).mp q
          rw [ei] at ht
          have := and_bit.mp q
          rw [ht] at this; cases this
        simp (disch := omega) only [↓reduceIte, wlet, Option.bind_some, true_and, and_true, not_true_eq_false, not_false_eq_true, reduceCtorEq, n0_, n1_, n2_, n3_, n4_, n5_, n6_, n7_, n8_, n9_, n10_, n12_, n16_, n18_, n20_, n21_, n22_, n24_, n25_, n26_, n27_, n28_, n29_, n30_, n31_, n32_, n40_, n41_, n42_, n43_, n45_, n48_, n54_, n57_, n58_, n59_, n60_, n61_, n63_, n96_, n97_, n99_, n100_, n122_, n126_, n200_, n255_, n375_, n400_, n1000_, n2000_, n9999_, n5764801_, n1000000_, n3000_, m1, m2, le_t, le_f, lt_t, lt_f, eq_t, eq_f, no_lt, no_le, le_no, lt_no, eq_no, no_eq, add_no, wib_t, clamp, nI_add, pk_mul, pk_sub, nor_, nand_, ndif_, shl_, sh1_, shr_, tbn, tb0, tb1, les_t, les_f, pk_div, rem_, remv, and31, wu1, wuc, wui, wu2, ws1, wsc, ws2, wv1, n11_, n13_, n14_, n15_, n17_, n19_, n23_, n56_, n64_, fX4_readHole, fX4_takeSkin, e1, d1, e2, x1, sb, e3, v5, m31, x3, hb, e4, Nat.reduceAdd]
      | false =>
        have hb : gho D i &&& 2 ^ gTn T (gH1 D T (b, 0)).1 = 0 := and_bit.mpr (by rw [ei] at ht; exact ht)
        rw [gHo_4 q2 ht, ei]; dsimp only
        have f4 : fr (fun c => c = 20) g3 (wuI g3 20 i (nI (gho D i ||| 2 ^ gTn T (gH1 D T (b, 0)).1))) := fr_wuI rfl
        obtain ⟨g5, e5, s5, f5⟩ := c_nxt (SC_fr s3 f4 (by omega) (by omega) : SCs _ T _)
        obtain ⟨g6, e6, s6, f6⟩ := c_takeSign s5 (x := 59) (by omega)
        refine ⟨g6, ?_, s6, fr_tr f13 (fr_tr (fr_mono f4 (fun c q => by unfold sl; omega)) (fr_mono (fr_tr f5 f6) (fun c q => Or.inl q))), fun q => ?_⟩
        · simp (disch := omega) only [↓reduceIte, wlet, Option.bind_some, true_and, and_true, not_true_eq_false, not_false_eq_true, reduceCtorEq, n0_, n1_, n2_, n3_, n4_, n5_, n6_, n7_, n8_, n9_, n10_, n12_, n16_, n18_, n20_, n21_, n22_, n24_, n25_, n26_, n27_, n28_, n29_, n30_, n31_, n32_, n40_, n41_, n42_, n43_, n45_, n48_, n54_, n57_, n58_, n59_, n60_, n61_, n63_, n96_, n97_, n99_, n100_, n122_, n126_, n200_, n255_, n375_, n400_, n1000_, n2000_, n9999_, n5764801_, n1000000_, n3000_, m1, m2, le_t, le_f, lt_t, lt_f, eq_t, eq_f, no_lt, no_le, le_no, lt_no, eq_no, no_eq, add_no, wib_t, clamp, nI_add, pk_mul, pk_sub, nor_, nand_, ndif_, shl_, sh1_, shr_, tbn, tb0, tb1, les_t, les_f, pk_div, rem_, remv, and31, wu1, wuc, wui, wu2, ws1, wsc, ws2, wv1, n11_, n13_, n14_, n15_, n17_, n19_, n23_, n56_, n64_, fX4_readHole, fX4_takeSkin, e1, d1, e2, x1, sb, e3, v5, x3, hb, e5, e6, Nat.reduceAdd]
        · have k6 : ∀ c, c ≠ 1 → g6.1 c = (wuI g3 20 i (nI (gho D i ||| 2 ^ gTn T (gH1 D T (b, 0)).1))).1 c ∧ g6.2 c = g3.2 c := fun c hc => ⟨by rw [fr_at f6 (by unfold s1; omega), fr_at f5 (by unfold s1; omega)], by rw [(f6 c (by unfold s1; omega)).2, (f5 c (by unfold s1; omega)).2]; rfl⟩
          refine DC_ho D3 (fun j => ?_) (fun c h1 h2 h3 => ⟨?_, ?_⟩)
          · rw [(k6 20 (by omega)).1, wuS]
          · rw [(k6 c (by omega)).1, wuc h3]
          · exact (k6 c (by omega)).2
    · rw [gHo_2 q2]; dsimp only
      rw [decide_eq_false q2] at e3
      refine ⟨g3, ?_, s3, fr_tr f12 (fr_mono f3 (fun c q => Or.inl q)), fun q => absurd q q2⟩
      simp (disch := omega) only [↓reduceIte, wlet, Option.bind_some, true_and, and_true, not_true_eq_false, not_false_eq_true, reduceCtorEq, n0_, n1_, n2_, n3_, n4_, n5_, n6_, n7_, n8_, n9_, n10_, n12_, n16_, n18_, n20_, n21_, n22_, n24_, n25_, n26_, n27_, n28_, n29_, n30_, n31_, n32_, n40_, n41_, n42_, n43_, n45_, n48_, n54_, n57_, n58_, n59_, n60_, n61_, n63_, n96_, n97_, n99_, n100_, n122_, n126_, n200_, n255_, n375_, n400_, n1000_, n2000_, n9999_, n5764801_, n1000000_, n3000_, m1, m2, le_t, le_f, lt_t, lt_f, eq_t, eq_f, no_lt, no_le, le_no, lt_no, eq_no, no_eq, add_no, wib_t, clamp, nI_add, pk_mul, pk_sub, nor_, nand_, ndif_, shl_, sh1_, shr_, tbn, tb0, tb1, les_t, les_f, pk_div, rem_, remv, and31, wu1, wuc, wui, wu2, ws1, wsc, ws2, wv1, n11_, n13_, n14_, n15_, n17_, n19_, n23_, n56_, n64_, fX4_readHole, fX4_takeSkin, e1, d1, e2, x1, sb, e3, Nat.reduceAdd, Option.isSome_none, Option.isSome_some, Bool.false_eq_true]
  · have ev : rI (gTv T (gnm D 0) (gns D) (nx T (b, 0))) = wno := by unfold gTv; rw [if_neg (show ¬ (gTo T (gnm D 0) (gns D) (nx T (b, 0))).2 = 0 from q1)]; rfl
    rw [ev] at e2
    have eH2 : gH2 D T (b, 0) = gH1 D T (b, 0) := gNw_f q1
    rw [gHo_2 (by rw [eH2]; exact q1), eH2]; dsimp only
    refine ⟨g2, ?_, s2, f12, fun q => absurd q q1⟩
    simp (disch := omega) only [↓reduceIte, wlet, Option.bind_some, true_and, and_true, not_true_eq_false, not_false_eq_true, reduceCtorEq, n0_, n1_, n2_, n3_, n4_, n5_, n6_, n7_, n8_, n9_, n10_, n12_, n16_, n18_, n20_, n21_, n22_, n24_, n25_, n26_, n27_, n28_, n29_, n30_, n31_, n32_, n40_, n41_, n42_, n43_, n45_, n48_, n54_, n57_, n58_, n59_, n60_, n61_, n63_, n96_, n97_, n99_, n100_, n122_, n126_, n200_, n255_, n375_, n400_, n1000_, n2000_, n9999_, n5764801_, n1000000_, n3000_, m1, m2, le_t, le_f, lt_t, lt_f, eq_t, eq_f, no_lt, no_le, le_no, lt_no, eq_no, no_eq, add_no, wib_t, clamp, nI_add, pk_mul, pk_sub, nor_, nand_, ndif_, shl_, sh1_, shr_, tbn, tb0, tb1, les_t, les_f, pk_div, rem_, remv, and31, wu1, wuc, wui, wu2, ws1, wsc, ws2, wv1, n11_, n13_, n14_, n15_, n17_, n19_, n23_, n56_, n64_, fX4_readHole, fX4_takeSkin, e1, d1, e2, Nat.reduceAdd]
end G74

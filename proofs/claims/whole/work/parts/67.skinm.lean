/-! A SKIN'S LINE ON THE OTHER SIDE -/
/-- where the draft begins in each cell -/
def dlo (c : Nat) : Nat := if c = 190 ∨ c = 191 ∨ (193 ≤ c ∧ c ≤ 195) then 3 else if c = 192 ∨ (196 ≤ c ∧ c ≤ 198) then 6 else if c = 199 then 12 else if c = 202 then 1000 else 1
def RZd (h g : wSt) : Prop := fr (fun c => c = 188 ∨ (190 ≤ c ∧ c ≤ 202)) h g ∧ (∀ j, j ≠ 4 → j ≠ 5 → j ≠ 6 → j ≠ 8 → j ≠ 9 → j ≠ 23 → j ≠ 36 → g.1 188 j = h.1 188 j) ∧ ∀ c, 190 ≤ c → c ≤ 202 → ∀ j, j < dlo c → g.1 c j = h.1 c j ∧ g.2 c j = h.2 c j
/-- and the draft of the law rests -/
def RTd (h g : wSt) : Prop := RZd h g ∧ (∀ c, 200 ≤ c → c ≤ 202 → g.1 c = h.1 c) ∧ g.1 188 23 = h.1 188 23
theorem RZd_tr {h g f : wSt} (a : RZd h g) (b : RZd g f) : RZd h f := ⟨fr_tr a.1 b.1, fun j h1 h2 h3 h4 h5 h6 h7 => (b.2.1 j h1 h2 h3 h4 h5 h6 h7).trans (a.2.1 j h1 h2 h3 h4 h5 h6 h7), fun c h1 h2 j hj => ⟨(b.2.2 c h1 h2 j hj).1.trans (a.2.2 c h1 h2 j hj).1, (b.2.2 c h1 h2 j hj).2.trans (a.2.2 c h1 h2 j hj).2⟩⟩
theorem RTd_tr {h g f : wSt} (a : RTd h g) (b : RTd g f) : RTd h f := ⟨RZd_tr a.1 b.1, fun c h1 h2 => (b.2.1 c h1 h2).trans (a.2.1 c h1 h2), b.2.2.trans a.2.2⟩
theorem RTd_K {h g : wSt} (a : RK h g) : RTd h g := ⟨⟨fr_mono a.1 (fun c q => Or.inl q), fun j h1 h2 h3 h4 h5 _ h7 => a.2.1 j h1 h2 h3 h4 h5 h7, fun c h1 h2 j _ => by rw [(a.1 c (by unfold s188; omega)).1, (a.1 c (by unfold s188; omega)).2]; exact ⟨rfl, rfl⟩⟩, fun c h1 h2 => fr_at a.1 (by unfold s188; omega), a.2.1 23 (by omega) (by omega) (by omega) (by omega) (by omega) (by omega)⟩
theorem RTd_I {h : wSt} {x : Int32} {c i : Nat} (h1 : 190 ≤ c) (h2 : c ≤ 199) (hi : dlo c ≤ i) : RTd h (wuI h c i x) := ⟨⟨fr_wuI (Or.inr (by omega)), fun j _ _ _ _ _ _ _ => by rw [wuc (by omega)], fun d _ _ j hj => ⟨by
  by_cases e : d = c
  · subst e; exact wui (by omega)
  · rw [wuc e], rfl⟩⟩, fun d _ _ => wuc (by omega), by rw [wuc (by omega)]⟩
theorem RTd_J {h : wSt} {x : Int64} {c i : Nat} (h1 : 190 ≤ c) (h2 : c ≤ 199) (hi : dlo c ≤ i) : RTd h (wuJ h c i x) := ⟨⟨fr_wuJ (Or.inr (by omega)), fun j _ _ _ _ _ _ _ => rfl, fun d _ _ j hj => ⟨rfl, by
  by_cases e : d = c
  · subst e; exact wvi (by omega)
  · rw [wvc e]⟩⟩, fun d _ _ => rfl, rfl⟩
section G67
variable {h : wSt} {T : gTp} {b : Nat} {D : gLib}
theorem DM_sk {g : wSt} (hD : DM h D) (hn : gns D < 3) {a c : Nat} {w : List Nat} (g0 : g.1 190 3 = nI (gns D + 1)) (gi : ∀ i, i ≠ 3 → g.1 190 i = h.1 190 i) (g18 : ∀ i, g.1 193 i = if i = 3 + gns D then nI a else h.1 193 i) (g19 : ∀ i, g.1 194 i = if i = 3 + gns D then nI c else h.1 194 i) (g20 : ∀ i, g.1 195 i = if i = 3 + gns D then nI 0 else h.1 195 i) (g17 : ∀ i, g.2 191 i = if i = 3 + gns D then lN (eN 27 w) else h.2 191 i) (go : ∀ c, 196 ≤ c → c ≤ 199 → g.1 c = h.1 c) (g2 : g.2 192 = h.2 192) : DM g (dSk D a c w) := by
  obtain ⟨d1, d2, d3, d4, d5, d6⟩ := hD
  refine ⟨g0, by rw [gi 4 (by omega)]; exact d2, by rw [gi 5 (by omega)]; exact d3, fun i hi => ?_, fun t ht => ?_, fun i hi => ?_⟩
  · have hi : i < gns D + 1 := hi
    rw [g18, g19, g20, g17]
    by_cases e : i = gns D
    · have e3 : 3 + i = 3 + gns D := by omega
      rw [if_pos e3, if_pos e3, if_pos e3, if_pos e3]
      unfold gln gtk gho gnm dSk
      simp only [e, if_true, and_self, if_false, Nat.reduceEqDiff, and_true]
    · have e3 : ¬ 3 + i = 3 + gns D := by omega
      rw [if_neg e3, if_neg e3, if_neg e3, if_neg e3]
      have := d4 i (by omega)
      unfold gln gtk gho gnm dSk
      simp only [e, if_false, and_false, Nat.reduceEqDiff]
      exact this
  · have ht : t < gnt D := ht
    rw [go 196 (by omega) (by omega), go 197 (by omega) (by omega), go 198 (by omega) (by omega), g2]
    have := d5 t ht
    unfold gkd gga gtl gnm dSk
    simp only [if_false, false_and, Nat.reduceEqDiff, ite_self]
    exact this
  · have hi : i < gnd D := hi
    rw [go 199 (by omega) (by omega)]
    have := d6 i hi
    unfold gdm dSk
    simp only [if_false, Nat.reduceEqDiff, ite_self]
    exact this
theorem r_readsSkin0 (hW : WL D) (hD : DM h D) (hs : SM h T b) (hn : gns D < 3) : ∃ r g, fX11_readsSkin h = some (r, g) ∧ OK g T (gTs T 59 (gS5 D T (b, 0))) r ∧ RTd h g ∧ (r = true → DM g (dSk D (gTn T (gS2 D T (b, 0)).1) (gTn T (gS4 D T (b, 0)).1) (gTw T (nx T (b, 0)).1))) := by
  have d0 := hD.1
  obtain ⟨g1, e1, s1', j1⟩ := r_next hs
  have k1 := RK_J j1
  have en : nx T (b, 0) = (gTe T b, 0) := by unfold nx; rfl
  have D1 := DM_fr hD k1.1 (fun c _ _ => by unfold s188; omega)
  obtain ⟨r2, g2, e2, o2, v2, k2⟩ := r_needsNew s1' (nm := gnm D 0) (nt := gnm D 1) D1.1 (fun i hi => ⟨(hW.2.2.2.1 i hi).2.2.2.2.2, (D1.2.2.2.1 i hi).2.2.2⟩) hW.1 D1.2.1 (fun i hi => ⟨(hW.2.2.2.2.1 i hi).2.2.2.2, (D1.2.2.2.2.1 i hi).2.2.2⟩) hW.2.1
  have eS1 : gNew T (gnm D 0) (gns D) (gnm D 1) (gnt D) (gTe T b, 0) = gS1 D T (b, 0) := by unfold gS1; rw [en]
  rw [eS1] at o2
  have c2 : ∀ c, c ≠ 188 → g2.1 c = h.1 c ∧ g2.2 c = h.2 c := fun c hc => ⟨by rw [(k2.1 c (by unfold s188; exact hc)).1, (k1.1 c (by unfold s188; exact hc)).1], by rw [(k2.1 c (by unfold s188; exact hc)).2, (k1.1 c (by unfold s188; exact hc)).2]⟩
  have dead : ∀ s : Nat × Nat, s.2 ≠ 0 → gTd T 2 s = s ∧ nx T (gNw T 1 6 s) = s ∧ gTd T 3 s = s ∧ nx T (gNw T 1 30 s) = s ∧ gTs T 59 s = s := fun s q => ⟨gTd_f q, by rw [gNw_f q, nx_f q], gTd_f q, by rw [gNw_f q, nx_f q], gTs_f q⟩
  by_cases q1 : (gS1 D T (b, 0)).2 = 0
  · obtain ⟨hr2, s2⟩ := o2.1 q1
    subst hr2
    obtain ⟨v2, w2⟩ := v2 rfl
    obtain ⟨r3, g3, e3, o3, v3, k3⟩ := r_needsBoth s2 (x := 6564799) (i := 2) (lo := 1) (hi := 6) (r_w2 s2) (by omega) (by omega)
    rw [← eta0 q1] at o3 v3
    have o3 : OK g3 T (gS3 D T (b, 0)) r3 := o3
    have v3 : r3 = true → g3.1 188 36 = nI (gTn T (gS2 D T (b, 0)).1) ∧ g3.2 188 37 = g2.2 188 37 := v3
    by_cases q3 : (gS3 D T (b, 0)).2 = 0
    · obtain ⟨hr3, s3⟩ := o3.1 q3
      subst hr3
      obtain ⟨v3, x3⟩ := v3 rfl
      have f4 : fr (fun c => c = 193) g3 (wuI g3 193 (3 + gns D) (nI (gTn T (gS2 D T (b, 0)).1))) := fr_wuI rfl
      have s4 := SM_fr s3 f4 (by omega) (by omega)
      obtain ⟨r5, g5, e5, o5, v5, k5⟩ := r_needsBoth s4 (x := 10792937) (i := 3) (lo := 1) (hi := 30) (r_w3 s4) (by omega) (by omega)
      rw [← eta0 q3] at o5 v5
      have o5 : OK g5 T (gS5 D T (b, 0)) r5 := o5
      have v5 : r5 = true → g5.1 188 36 = nI (gTn T (gS4 D T (b, 0)).1) ∧ g5.2 188 37 = g3.2 188 37 := v5
      have r4 : RTd h (wuI g3 193 (3 + gns D) (nI (gTn T (gS2 D T (b, 0)).1))) := RTd_tr (RTd_K (RK_tr k1 (RK_tr k2 k3))) (RTd_I (by omega) (by omega) (by unfold dlo; rw [if_pos (by omega)]; omega))
      by_cases q5 : (gS5 D T (b, 0)).2 = 0
      · obtain ⟨hr5, s5⟩ := o5.1 q5
        subst hr5
        obtain ⟨v5, x5⟩ := v5 rfl
        have x37 : g5.2 188 37 = lN (eN 27 (gTw T (gTe T b))) := by rw [x5, x3]; exact v2
        have c3 : ∀ c, c ≠ 188 → g3.1 c = h.1 c ∧ g3.2 c = h.2 c := fun c hc => ⟨by rw [(k3.1 c (by unfold s188; exact hc)).1, (c2 c hc).1], by rw [(k3.1 c (by unfold s188; exact hc)).2, (c2 c hc).2]⟩
        have c5 : ∀ c, c ≠ 188 → g5.1 c = (wuI g3 193 (3 + gns D) (nI (gTn T (gS2 D T (b, 0)).1))).1 c ∧ g5.2 c = h.2 c := fun c hc => ⟨(k5.1 c (by unfold s188; exact hc)).1, by rw [(k5.1 c (by unfold s188; exact hc)).2]; exact (c3 c hc).2⟩
        let g6 := wuI (wuJ (wuI (wuI g5 194 (3 + gns D) (nI (gTn T (gS4 D T (b, 0)).1))) 195 (3 + gns D) (nI 0)) 191 (3 + gns D) (lN (eN 27 (gTw T (gTe T b))))) 190 3 (nI (gns D + 1))
        have f6 : fr (fun c => 190 ≤ c ∧ c ≤ 195) g5 g6 := fr_tr (fr_tr (fr_tr (fr_wuI (by omega)) (fr_wuI (by omega))) (fr_wuJ (by omega))) (fr_wuI (by omega))
        obtain ⟨r, g, e7, o7, k7⟩ := r_closes (SM_fr s5 f6 (by omega) (by omega))
        rw [← eta0 q5] at o7
        have d5 : g5.1 190 3 = nI (gns D) := by rw [(c5 190 (by omega)).1, wuc (by omega), (c3 190 (by omega)).1]; exact d0
        have r6 : RTd g5 g6 := RTd_tr (RTd_tr (RTd_tr (RTd_I (by omega) (by omega) (by unfold dlo; rw [if_pos (by omega)]; omega)) (RTd_I (by omega) (by omega) (by unfold dlo; rw [if_pos (by omega)]; omega))) (RTd_J (by omega) (by omega) (by unfold dlo; rw [if_pos (by omega)]; omega))) (RTd_I (by omega) (by omega) (by unfold dlo; rw [if_pos (by omega)]; omega))
        refine ⟨r, g, ?_, o7, RTd_tr r4 (RTd_tr (RTd_K k5) (RTd_tr r6 (RTd_K k7))), fun _ => ?_⟩
        · have e7 : fX11_closes (wuI (wuJ (wuI (wuI g5 194 (3 + gns D) (nI (gTn T (gS4 D T (b, 0)).1))) 195 (3 + gns D) (nI 0)) 191 (3 + gns D) (lN (eN 27 (gTw T (gTe T b))))) 190 3 (nI (gns D + 1))) = some (r, g) := e7
          simp (disch := omega) only [↓reduceIte, wlet, Option.bind_some, true_and, and_true, not_true_eq_false, not_false_eq_true, reduceCtorEq, n0_, n1_, n2_, n3_, n4_, n5_, n6_, n7_, n8_, n9_, n10_, n12_, n16_, n18_, n20_, n21_, n22_, n24_, n25_, n26_, n27_, n28_, n29_, n30_, n31_, n32_, n40_, n41_, n42_, n43_, n45_, n48_, n54_, n57_, n58_, n59_, n60_, n61_, n63_, n96_, n97_, n99_, n100_, n122_, n126_, n200_, n255_, n375_, n400_, n1000_, n2000_, n9999_, n5764801_, n1000000_, n3000_, m1, m2, le_t, le_f, lt_t, lt_f, eq_t, eq_f, no_lt, no_le, le_no, lt_no, eq_no, no_eq, add_no, wib_t, clamp, nI_add, pk_mul, pk_sub, nor_, nand_, ndif_, shl_, sh1_, shr_, tbn, tb0, tb1, les_t, les_f, pk_div, rem_, remv, and31, wu1, wuc, wui, wu2, ws1, wsc, ws2, wv1, n11_, n13_, n14_, n15_, n17_, n19_, n23_, n56_, n64_, fX11_readsSkin, d0, e1, e2, e3, v3, e5, v5, x37, d5, e7]
        · have c7 : ∀ c, c ≠ 188 → g.1 c = g6.1 c ∧ g.2 c = g6.2 c := fun c hc => ⟨(k7.1 c (by unfold s188; exact hc)).1, (k7.1 c (by unfold s188; exact hc)).2⟩
          have u6 : ∀ c, 192 ≤ c → g6.2 c = g5.2 c := fun c hc => by
            show (wuJ (wuI (wuI g5 194 (3 + gns D) (nI (gTn T (gS4 D T (b, 0)).1))) 195 (3 + gns D) (nI 0)) 191 (3 + gns D) (lN (eN 27 (gTw T (gTe T b))))).2 c = _
            rw [wvc (by omega)]; rfl
          rw [en]
          refine DM_sk hD hn ?_ (fun i hi => ?_) (fun i => ?_) (fun i => ?_) (fun i => ?_) (fun i => ?_) (fun c h1 h2 => ?_) ?_
          · rw [(c7 190 (by omega)).1]; exact wu1
          · rw [(c7 190 (by omega)).1]
            show (wuI _ 190 3 _).1 190 i = _
            rw [wui hi, wv1, wuc (by omega), wuc (by omega), (c5 190 (by omega)).1, wuc (by omega), (c3 190 (by omega)).1]
          · rw [(c7 193 (by omega)).1]
            show (wuI _ 190 3 _).1 193 i = _
            rw [wuc (by omega), wv1, wuc (by omega), wuc (by omega), (c5 193 (by omega)).1, wuS, (c3 193 (by omega)).1]
          · rw [(c7 194 (by omega)).1]
            show (wuI _ 190 3 _).1 194 i = _
            rw [wuc (by omega), wv1, wuc (by omega), wuS, (c5 194 (by omega)).1, wuc (by omega), (c3 194 (by omega)).1]
          · rw [(c7 195 (by omega)).1]
            show (wuI _ 190 3 _).1 195 i = _
            rw [wuc (by omega), wv1, wuS, wuc (by omega), (c5 195 (by omega)).1, wuc (by omega), (c3 195 (by omega)).1]
          · rw [(c7 191 (by omega)).2]
            show (wuJ (wuI (wuI g5 194 (3 + gns D) (nI (gTn T (gS4 D T (b, 0)).1))) 195 (3 + gns D) (nI 0)) 191 (3 + gns D) (lN (eN 27 (gTw T (gTe T b))))).2 191 i = _
            by_cases e : i = 3 + gns D
            · rw [if_pos e, e, wv2]
            · rw [if_neg e, wvi e]
              show g5.2 191 i = _
              rw [(c5 191 (by omega)).2]
          · rw [(c7 c (by omega)).1]
            show (wuI _ 190 3 _).1 c = _
            rw [wuc (by omega), wv1, wuc (by omega), wuc (by omega), (c5 c (by omega)).1, wuc (by omega), (c3 c (by omega)).1]
          · rw [(c7 192 (by omega)).2, u6 192 (by omega), (c5 192 (by omega)).2]
      · obtain ⟨hr5, s9⟩ := o5.2 q5
        subst hr5
        rw [(dead _ q5).2.2.2.2]
        refine ⟨false, g5, ?_, o5, RTd_tr r4 (RTd_K k5), (by intro q; cases q)⟩
        simp (disch := omega) only [↓reduceIte, wlet, Option.bind_some, true_and, and_true, not_true_eq_false, not_false_eq_true, reduceCtorEq, n0_, n1_, n2_, n3_, n4_, n5_, n6_, n7_, n8_, n9_, n10_, n12_, n16_, n18_, n20_, n21_, n22_, n24_, n25_, n26_, n27_, n28_, n29_, n30_, n31_, n32_, n40_, n41_, n42_, n43_, n45_, n48_, n54_, n57_, n58_, n59_, n60_, n61_, n63_, n96_, n97_, n99_, n100_, n122_, n126_, n200_, n255_, n375_, n400_, n1000_, n2000_, n9999_, n5764801_, n1000000_, n3000_, m1, m2, le_t, le_f, lt_t, lt_f, eq_t, eq_f, no_lt, no_le, le_no, lt_no, eq_no, no_eq, add_no, wib_t, clamp, nI_add, pk_mul, pk_sub, nor_, nand_, ndif_, shl_, sh1_, shr_, tbn, tb0, tb1, les_t, les_f, pk_div, rem_, remv, and31, wu1, wuc, wui, wu2, ws1, wsc, ws2, wv1, n11_, n13_, n14_, n15_, n17_, n19_, n23_, n56_, n64_, fX11_readsSkin, d0, e1, e2, e3, v3, e5, Option.isSome_none, Option.isSome_some, Bool.false_eq_true]
    · obtain ⟨hr3, s9⟩ := o3.2 q3
      subst hr3
      have e5' : gS5 D T (b, 0) = gS3 D T (b, 0) := by unfold gS5 gS4; rw [(dead _ q3).2.2.1, (dead _ q3).2.2.2.1]
      rw [e5', (dead _ q3).2.2.2.2]
      refine ⟨false, g3, ?_, o3, RTd_K (RK_tr k1 (RK_tr k2 k3)), (by intro q; cases q)⟩
      simp (disch := omega) only [↓reduceIte, wlet, Option.bind_some, true_and, and_true, not_true_eq_false, not_false_eq_true, reduceCtorEq, n0_, n1_, n2_, n3_, n4_, n5_, n6_, n7_, n8_, n9_, n10_, n12_, n16_, n18_, n20_, n21_, n22_, n24_, n25_, n26_, n27_, n28_, n29_, n30_, n31_, n32_, n40_, n41_, n42_, n43_, n45_, n48_, n54_, n57_, n58_, n59_, n60_, n61_, n63_, n96_, n97_, n99_, n100_, n122_, n126_, n200_, n255_, n375_, n400_, n1000_, n2000_, n9999_, n5764801_, n1000000_, n3000_, m1, m2, le_t, le_f, lt_t, lt_f, eq_t, eq_f, no_lt, no_le, le_no, lt_no, eq_no, no_eq, add_no, wib_t, clamp, nI_add, pk_mul, pk_sub, nor_, nand_, ndif_, shl_, sh1_, shr_, tbn, tb0, tb1, les_t, les_f, pk_div, rem_, remv, and31, wu1, wuc, wui, wu2, ws1, wsc, ws2, wv1, n11_, n13_, n14_, n15_, n17_, n19_, n23_, n56_, n64_, fX11_readsSkin, d0, e1, e2, e3, Option.isSome_none, Option.isSome_some, Bool.false_eq_true]
  · obtain ⟨hr2, s9⟩ := o2.2 q1
    subst hr2
    have e3' : gS3 D T (b, 0) = gS1 D T (b, 0) := by unfold gS3 gS2; rw [(dead _ q1).1, (dead _ q1).2.1]
    have e5' : gS5 D T (b, 0) = gS1 D T (b, 0) := by unfold gS5 gS4; rw [e3', (dead _ q1).2.2.1, (dead _ q1).2.2.2.1]
    rw [e5', (dead _ q1).2.2.2.2]
    refine ⟨false, g2, ?_, o2, RTd_K (RK_tr k1 k2), (by intro q; cases q)⟩
    simp (disch := omega) only [↓reduceIte, wlet, Option.bind_some, true_and, and_true, not_true_eq_false, not_false_eq_true, reduceCtorEq, n0_, n1_, n2_, n3_, n4_, n5_, n6_, n7_, n8_, n9_, n10_, n12_, n16_, n18_, n20_, n21_, n22_, n24_, n25_, n26_, n27_, n28_, n29_, n30_, n31_, n32_, n40_, n41_, n42_, n43_, n45_, n48_, n54_, n57_, n58_, n59_, n60_, n61_, n63_, n96_, n97_, n99_, n100_, n122_, n126_, n200_, n255_, n375_, n400_, n1000_, n2000_, n9999_, n5764801_, n1000000_, n3000_, m1, m2, le_t, le_f, lt_t, lt_f, eq_t, eq_f, no_lt, no_le, le_no, lt_no, eq_no, no_eq, add_no, wib_t, clamp, nI_add, pk_mul, pk_sub, nor_, nand_, ndif_, shl_, sh1_, shr_, tbn, tb0, tb1, les_t, les_f, pk_div, rem_, remv, and31, wu1, wuc, wui, wu2, ws1, wsc, ws2, wv1, n11_, n13_, n14_, n15_, n17_, n19_, n23_, n56_, n64_, fX11_readsSkin, d0, e1, e2, Option.isSome_none, Option.isSome_some, Bool.false_eq_true]
theorem r_readsSkin (hW : WL D) (hD : DM h D) (hs : SM h T b) : ∃ r g, fX11_readsSkin h = some (r, g) ∧ OK g T (gSk D T (b, 0)).1 r ∧ RTd h g ∧ (r = true → DM g (gSk D T (b, 0)).2) := by
  have d0 := hD.1
  have n3 := hW.1
  by_cases hn : gns D < 3
  · rw [gSk_s hn]; dsimp only; exact r_readsSkin0 hW hD hs hn
  · rw [gSk_f hn]; dsimp only
    obtain ⟨g, e1, g9, k1⟩ := r_fails hs 5
    refine ⟨false, g, ?_, ⟨fun q => absurd q (fl_ne (by omega)), fun _ => ⟨rfl, g9⟩⟩, RTd_K k1, (by intro q; cases q)⟩
    have hn3 : gns D = 3 := by omega
    rw [hn3] at d0
    simp (disch := omega) only [↓reduceIte, wlet, Option.bind_some, true_and, and_true, not_true_eq_false, not_false_eq_true, reduceCtorEq, n0_, n1_, n2_, n3_, n4_, n5_, n6_, n7_, n8_, n9_, n10_, n12_, n16_, n18_, n20_, n21_, n22_, n24_, n25_, n26_, n27_, n28_, n29_, n30_, n31_, n32_, n40_, n41_, n42_, n43_, n45_, n48_, n54_, n57_, n58_, n59_, n60_, n61_, n63_, n96_, n97_, n99_, n100_, n122_, n126_, n200_, n255_, n375_, n400_, n1000_, n2000_, n9999_, n5764801_, n1000000_, n3000_, m1, m2, le_t, le_f, lt_t, lt_f, eq_t, eq_f, no_lt, no_le, le_no, lt_no, eq_no, no_eq, add_no, wib_t, clamp, nI_add, pk_mul, pk_sub, nor_, nand_, ndif_, shl_, sh1_, shr_, tbn, tb0, tb1, les_t, les_f, pk_div, rem_, remv, and31, wu1, wuc, wui, wu2, ws1, wsc, ws2, wv1, n11_, n13_, n14_, n15_, n17_, n19_, n23_, n56_, n64_, fX11_readsSkin, d0, e1, Nat.reduceAdd]
end G67

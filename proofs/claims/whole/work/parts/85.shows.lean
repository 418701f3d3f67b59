/-! THE LAW'S LINE -/
def gLs (T : gTp) (s : Nat × Nat) : gPc := gX T 64 true 0 0 s
def gSw (W : Option gPc) (T : gTp) (s : Nat × Nat) : (Nat × Nat) × Option gPc := if W.isNone then (gTs T 59 (gLs T (nx T s)).1, some (gLs T (nx T s))) else (fl T 3 s, W)
def DCw (h : wSt) (W : Option gPc) : Prop := match W with
  | none => h.1 26 2 = nI 0 ∧ gST h gcs0
  | some x => h.1 26 2 = nI 1 ∧ gST h x.2.1 ∧ x.2.1.length ≤ 1000
def DMw (h : wSt) (W : Option gPc) : Prop := match W with
  | none => h.1 200 1 = nI 1000 ∧ h.1 201 1 = nI 1000 ∧ h.1 188 23 = nI 1000
  | some x => h.1 200 1 = nI 1000 ∧ h.1 201 1 = nI (1000 + x.2.2.1.length) ∧ 1 ≤ x.2.2.1.length ∧ x.2.2.1.length ≤ 1000 ∧ ∀ i, i < x.2.2.1.length → h.1 202 (1000 + i) = x.2.2.1.getD i 0
def gWv (W : Option gPc) : Prop := ∀ x, W = some x → PCs 21 x.2.1 x.2.2.2 ∧ PRl 0 0 x.2.2.1 x.2.2.2
def RZf (h g : wSt) : Prop := fr (fun c => c = 188 ∨ (190 ≤ c ∧ c ≤ 204)) h g ∧ (∀ j, j ≠ 4 → j ≠ 5 → j ≠ 6 → j ≠ 8 → j ≠ 9 → j ≠ 23 → j ≠ 36 → g.1 188 j = h.1 188 j) ∧ (∀ c, 190 ≤ c → c ≤ 202 → ∀ j, j < dlo c → g.1 c j = h.1 c j) ∧ ∀ c, 190 ≤ c → c ≤ 199 → ∀ j, j < dlo c → g.2 c j = h.2 c j
theorem RZf_tr {h g f : wSt} (a : RZf h g) (b : RZf g f) : RZf h f := ⟨fr_tr a.1 b.1, fun j h1 h2 h3 h4 h5 h6 h7 => (b.2.1 j h1 h2 h3 h4 h5 h6 h7).trans (a.2.1 j h1 h2 h3 h4 h5 h6 h7), fun c h1 h2 j hj => (b.2.2.1 c h1 h2 j hj).trans (a.2.2.1 c h1 h2 j hj), fun c h1 h2 j hj => (b.2.2.2 c h1 h2 j hj).trans (a.2.2.2 c h1 h2 j hj)⟩
theorem RZf_d {h g : wSt} (a : RZd h g) : RZf h g := ⟨fr_mono a.1 (fun c q => by omega), a.2.1, fun c h1 h2 j hj => (a.2.2 c h1 h2 j hj).1, fun c h1 h2 j hj => (a.2.2 c h1 (by omega) j hj).2⟩
theorem RZf_rf {h : wSt} : RZf h h := ⟨fr_rf, fun _ _ _ _ _ _ _ _ => rfl, fun _ _ _ _ _ => rfl, fun _ _ _ _ _ => rfl⟩
section G85
variable {h g : wSt} {T : gTp} {b : Nat} {W : Option gPc}
theorem DCw_fr {P : Nat → Prop} (a : DCw h W) (f : fr P h g) (h1 : ¬ P 26) (h2 : ¬ P 27) : DCw g W := by
  cases W with
  | none =>
    show g.1 26 2 = nI 0 ∧ gST g gcs0
    unfold gST
    rw [fr_at f h1, fr_at f h2]; exact a
  | some x =>
    show g.1 26 2 = nI 1 ∧ gST g x.2.1 ∧ x.2.1.length ≤ 1000
    unfold gST
    rw [fr_at f h1, fr_at f h2]; exact a
theorem DMw_T (a : DMw h W) (f : RTd h g) : DMw g W := by
  cases W with
  | none =>
    show g.1 200 1 = nI 1000 ∧ g.1 201 1 = nI 1000 ∧ g.1 188 23 = nI 1000
    rw [f.2.1 200 (by omega) (by omega), f.2.1 201 (by omega) (by omega), f.2.2]; exact a
  | some x =>
    show g.1 200 1 = nI 1000 ∧ g.1 201 1 = nI (1000 + x.2.2.1.length) ∧ 1 ≤ x.2.2.1.length ∧ x.2.2.1.length ≤ 1000 ∧ ∀ i, i < x.2.2.1.length → g.1 202 (1000 + i) = x.2.2.1.getD i 0
    rw [f.2.1 200 (by omega) (by omega), f.2.1 201 (by omega) (by omega), f.2.1 202 (by omega) (by omega)]; exact a
theorem gLs_v {s : Nat × Nat} (h : s.1 ≤ T.1) (h0 : s.2 = 0) (q : (gLs T s).1.2 = 0) : PCs 21 (gLs T s).2.1 (gLs T s).2.2.2 ∧ PRl 0 0 (gLs T s).2.2.1 (gLs T s).2.2.2 ∧ 1 ≤ (gLs T s).2.2.1.length := by
  have p1 := PC_all (T := T) 64 0 0 s (by omega) (by omega) (by decide) h h0 q
  have p2 := PR_all (T := T) 64 0 0 s (by omega) (by omega) (by decide) h h0 q
  exact ⟨p1.2, p2.2.2.1 (by omega), p2.2.2.2⟩
theorem gLs_n {s : Nat × Nat} (h : s.1 ≤ T.1) : gLg s T (gLs T s) := (gX_n (T := T) 64).2 0 0 s h
theorem c_law {s : Nat × Nat} {cs : List Int32} (a : CR h T s cs) : ∃ g, fX2_readLevel 64 h 26 (nI 0) (nI 0) = some g ∧ RW h g ∧ CR g T (gLs T s).1 (cs ++ (gLs T s).2.1) := (c_rr (T := T) 64).2 0 0 s h cs (by omega) (by omega) (by decide) a
theorem c_law0 {s : Nat × Nat} (a : CR h T s []) : ∃ g, fX2_readLevel 64 h 26 (nI 0) (nI 0) = some g ∧ RW h g ∧ CR g T (gLs T s).1 (gLs T s).2.1 := by
  obtain ⟨g, e, w, c⟩ := c_law a
  rw [List.nil_append] at c
  exact ⟨g, e, w, c⟩
theorem gLx_s : gLx T b = gLs T (b, 0) := rfl
theorem gSw_n {s : Nat × Nat} : gSw none T s = (gTs T 59 (gLs T (nx T s)).1, some (gLs T (nx T s))) := rfl
theorem gSw_y {s : Nat × Nat} {x : gPc} : gSw (some x) T s = (fl T 3 s, some x) := rfl
theorem gSw_v (hb : b ≤ T.1) (hv : gWv W) (q : (gSw W T (b, 0)).1.2 = 0) : gWv (gSw W T (b, 0)).2 := by
  cases W with
  | some x => rw [gSw_y] at q; exact absurd q (fl_ne (by omega))
  | none =>
    rw [gSw_n] at q ⊢
    dsimp only at q ⊢
    have q1 := gTs_2 q
    obtain ⟨p1, p2, -⟩ := gLs_v (nx_le hb) (nx_2 T (b, 0)) q1
    intro x hx
    have hx : gLs T (nx T (b, 0)) = x := by injection hx
    rw [hx] at p1 p2
    exact ⟨p1, p2⟩
theorem c_showL (hD : DCw h W) (hs : SC h T b 0) : ∃ g, fX2_readFrom h 26 = some g ∧ SCs g T (gSw W T (b, 0)).1 ∧ fr sw h g ∧ ((gSw W T (b, 0)).1.2 = 0 → DCw g (gSw W T (b, 0)).2) := by
  cases W with
  | some x =>
    obtain ⟨d1, d2, d3⟩ := hD
    rw [gSw_y]; dsimp only
    obtain ⟨g, e1, s1', f1⟩ := c_fl (show SCs h T (b, 0) from hs) (k := 3) (by omega) (by omega)
    refine ⟨g, ?_, s1', fr_mono f1 (fun c q => Or.inl q), fun q => absurd q (fl_ne (by omega))⟩
    simp (disch := omega) only [↓reduceIte, wlet, Option.bind_some, true_and, and_true, not_true_eq_false, not_false_eq_true, reduceCtorEq, n0_, n1_, n2_, n3_, n4_, n5_, n6_, n7_, n8_, n9_, n10_, n12_, n16_, n18_, n20_, n21_, n22_, n24_, n25_, n26_, n27_, n28_, n29_, n30_, n31_, n32_, n40_, n41_, n42_, n43_, n45_, n48_, n54_, n57_, n58_, n59_, n60_, n61_, n63_, n96_, n97_, n99_, n100_, n122_, n126_, n200_, n255_, n375_, n400_, n1000_, n2000_, n9999_, n5764801_, n1000000_, n3000_, m1, m2, le_t, le_f, lt_t, lt_f, eq_t, eq_f, no_lt, no_le, le_no, lt_no, eq_no, no_eq, add_no, wib_t, clamp, nI_add, pk_mul, pk_sub, nor_, nand_, ndif_, shl_, sh1_, shr_, tbn, tb0, tb1, les_t, les_f, pk_div, rem_, remv, and31, wu1, wuc, wui, wu2, ws1, wsc, ws2, wv1, n11_, n13_, n14_, n15_, n17_, n19_, n23_, n56_, n64_, fX2_readFrom, d1, e1]
  | none =>
    obtain ⟨d1, d2⟩ := hD
    rw [gSw_n]; dsimp only
    have f0 : fr (fun c => c = 26) h (wuI (wuI h 26 2 (nI 1)) 26 1 (nI 0)) := fr_tr (fr_wuI rfl) (fr_wuI rfl)
    have a0 : CR (wuI (wuI h 26 2 (nI 1)) 26 1 (nI 0)) T (b, 0) [] := ⟨SC_fr hs f0 (by omega) (by omega), ⟨0, by omega, wu1⟩, fun _ => ⟨⟨wu1, fun i hi => absurd hi (Nat.not_lt_zero i)⟩, Nat.zero_le _⟩⟩
    obtain ⟨g1, e1, w1, a1⟩ := CR_next a0
    obtain ⟨g2, e2, w2, a2⟩ := c_law0 a1
    revert a2
    generalize gLs T (nx T (b, 0)) = x
    intro a2
    obtain ⟨g3, e3, w3, a3⟩ := CR_sign a2 (x := 59) (by omega)
    have w := RW_tr w1 (RW_tr w2 w3)
    refine ⟨g3, ?_, a3.1, fr_tr (fr_mono f0 (fun c q => Or.inr (Or.inl q))) w.1, fun q => ?_⟩
    · simp (disch := omega) only [↓reduceIte, wlet, Option.bind_some, true_and, and_true, not_true_eq_false, not_false_eq_true, reduceCtorEq, n0_, n1_, n2_, n3_, n4_, n5_, n6_, n7_, n8_, n9_, n10_, n12_, n16_, n18_, n20_, n21_, n22_, n24_, n25_, n26_, n27_, n28_, n29_, n30_, n31_, n32_, n40_, n41_, n42_, n43_, n45_, n48_, n54_, n57_, n58_, n59_, n60_, n61_, n63_, n96_, n97_, n99_, n100_, n122_, n126_, n200_, n255_, n375_, n400_, n1000_, n2000_, n9999_, n5764801_, n1000000_, n3000_, m1, m2, le_t, le_f, lt_t, lt_f, eq_t, eq_f, no_lt, no_le, le_no, lt_no, eq_no, no_eq, add_no, wib_t, clamp, nI_add, pk_mul, pk_sub, nor_, nand_, ndif_, shl_, sh1_, shr_, tbn, tb0, tb1, les_t, les_f, pk_div, rem_, remv, and31, wu1, wuc, wui, wu2, ws1, wsc, ws2, wv1, n11_, n13_, n14_, n15_, n17_, n19_, n23_, n56_, n64_, fX2_readFrom, d1, e1, e2, e3]
    · obtain ⟨c1, c2⟩ := a3.2.2 q
      have hb := a3.1.2.2.1
      have ht := a3.1.2.1.1
      refine ⟨?_, c1, ?_⟩
      · rw [w.2, wui (by omega), wu1]
      · omega
theorem r_showL (hD : DMw h W) (hs : SM h T b) : ∃ r g, fX11_readsShows h = some (r, g) ∧ OK g T (gSw W T (b, 0)).1 r ∧ RZf h g ∧ fr (fun c => c = 188 ∨ (200 ≤ c ∧ c ≤ 204)) h g ∧ (r = true → DMw g (gSw W T (b, 0)).2) := by
  cases W with
  | some x =>
    obtain ⟨d1, d2, d3, d4, d5⟩ := hD
    rw [gSw_y]; dsimp only
    obtain ⟨g, e1, g9, k1⟩ := r_fails hs 3
    refine ⟨false, g, ?_, ⟨fun q => absurd q (fl_ne (by omega)), fun _ => ⟨rfl, g9⟩⟩, RZf_d (RTd_K k1).1, fr_mono k1.1 (fun c q => Or.inl q), (by intro q; cases q)⟩
    simp (disch := omega) only [↓reduceIte, wlet, Option.bind_some, true_and, and_true, not_true_eq_false, not_false_eq_true, reduceCtorEq, n0_, n1_, n2_, n3_, n4_, n5_, n6_, n7_, n8_, n9_, n10_, n12_, n16_, n18_, n20_, n21_, n22_, n24_, n25_, n26_, n27_, n28_, n29_, n30_, n31_, n32_, n40_, n41_, n42_, n43_, n45_, n48_, n54_, n57_, n58_, n59_, n60_, n61_, n63_, n96_, n97_, n99_, n100_, n122_, n126_, n200_, n255_, n375_, n400_, n1000_, n2000_, n9999_, n5764801_, n1000000_, n3000_, m1, m2, le_t, le_f, lt_t, lt_f, eq_t, eq_f, no_lt, no_le, le_no, lt_no, eq_no, no_eq, add_no, wib_t, clamp, nI_add, pk_mul, pk_sub, nor_, nand_, ndif_, shl_, sh1_, shr_, tbn, tb0, tb1, les_t, les_f, pk_div, rem_, remv, and31, wu1, wuc, wui, wu2, ws1, wsc, ws2, wv1, n11_, n13_, n14_, n15_, n17_, n19_, n23_, n56_, n64_, fX11_readsShows, d1, d2, e1]
  | none =>
    obtain ⟨d1, d2, d3⟩ := hD
    rw [gSw_n]; dsimp only
    have en : nx T (b, 0) = (gTe T b, 0) := by unfold nx; rfl
    rw [en]
    obtain ⟨g1, e1, s1', j1⟩ := r_next hs
    have k1 := RK_J j1
    have h23 : g1.1 188 23 = nI 1000 := by rw [k1.2.1 23 (by omega) (by omega) (by omega) (by omega) (by omega) (by omega)]; exact d3
    have f2 : fr (fun c => c = 200) g1 (wuI g1 200 1 (nI 1000)) := fr_wuI rfl
    obtain ⟨r, g3, e3, o3, r3, y3⟩ := r_reads (c := 1000) (SM_fr s1' f2 (by omega) (by omega)) (by rw [wuc (by omega)]; exact h23) (by omega) (by omega)
    rw [gLx_s] at o3 y3
    have z1 : RZf h g1 := RZf_d (RTd_K k1).1
    have z2 : RZf g1 (wuI g1 200 1 (nI 1000)) := ⟨fr_mono f2 (fun c q => by omega), fun j _ _ _ _ _ _ _ => by rw [wuc (by omega)], fun c h1 h2 j hj => by
      by_cases e : c = 200
      · subst e
        have : dlo 200 = 1 := by decide
        exact wui (by omega)
      · rw [wuc e], fun c h1 h2 j hj => rfl⟩
    have z3 : RZf (wuI g1 200 1 (nI 1000)) g3 := ⟨fr_mono r3.1 (fun c q => by omega), r3.2.1, fun c h1 h2 j hj => by
      by_cases e : c = 202
      · subst e
        have : dlo 202 = 1000 := by decide
        exact r3.2.2.1 j (by omega)
      · rw [(r3.1 c (by omega)).1], fun c h1 h2 j hj => by rw [(r3.1 c (by omega)).2]⟩
    have zz := RZf_tr z1 (RZf_tr z2 z3)
    have ff : fr (fun c => c = 188 ∨ (200 ≤ c ∧ c ≤ 204)) h g3 := fr_tr (fr_mono k1.1 (fun c q => Or.inl q)) (fr_tr (fr_mono f2 (fun c q => by omega)) (fr_mono r3.1 (fun c q => by omega)))
    have hb := hs.2.2.1
    by_cases q : (gTs T 59 (gLs T (gTe T b, 0)).1).2 = 0
    · obtain ⟨hr, s3⟩ := o3.1 q
      subst hr
      obtain ⟨y1, y2⟩ := y3 rfl
      have q1 := gTs_2 q
      have ln := (gLs_v (gTe_b hb).2.1 rfl q1).2.2
      have lu := ((gLs_n (T := T) (s := (gTe T b, 0)) (gTe_b hb).2.1).2 q1).2
      have lv := (gLs_n (T := T) (s := (gTe T b, 0)) (gTe_b hb).2.1).1
      have ht := hs.2.1.1
      revert y1 y2 ln lu lv s3 o3 q
      generalize gLs T (gTe T b, 0) = x
      intro q s3 o3 y1 y2 ln lu lv
      have lu : gTe T b + x.2.2.1.length ≤ x.1.1 := lu
      have f4 : fr (fun c => c = 201) g3 (wuI g3 201 1 (nI (1000 + x.2.2.1.length))) := fr_wuI rfl
      have z4 : RZf g3 (wuI g3 201 1 (nI (1000 + x.2.2.1.length))) := ⟨fr_mono f4 (fun c q => by omega), fun j _ _ _ _ _ _ _ => by rw [wuc (by omega)], fun c h1 h2 j hj => by
        by_cases e : c = 201
        · subst e
          have : dlo 201 = 1 := by decide
          exact wui (by omega)
        · rw [wuc e], fun c h1 h2 j hj => rfl⟩
      refine ⟨true, wuI g3 201 1 (nI (1000 + x.2.2.1.length)), ?_, ⟨fun _ => ⟨rfl, SM_fr s3 f4 (by omega) (by omega)⟩, fun z => absurd q z⟩, RZf_tr zz z4, fr_tr ff (fr_mono f4 (fun c q => by omega)), fun _ => ⟨?_, wu1, ln, by omega, fun i hi => ?_⟩⟩
      · simp (disch := omega) only [↓reduceIte, wlet, Option.bind_some, true_and, and_true, not_true_eq_false, not_false_eq_true, reduceCtorEq, n0_, n1_, n2_, n3_, n4_, n5_, n6_, n7_, n8_, n9_, n10_, n12_, n16_, n18_, n20_, n21_, n22_, n24_, n25_, n26_, n27_, n28_, n29_, n30_, n31_, n32_, n40_, n41_, n42_, n43_, n45_, n48_, n54_, n57_, n58_, n59_, n60_, n61_, n63_, n96_, n97_, n99_, n100_, n122_, n126_, n200_, n255_, n375_, n400_, n1000_, n2000_, n9999_, n5764801_, n1000000_, n3000_, m1, m2, le_t, le_f, lt_t, lt_f, eq_t, eq_f, no_lt, no_le, le_no, lt_no, eq_no, no_eq, add_no, wib_t, clamp, nI_add, pk_mul, pk_sub, nor_, nand_, ndif_, shl_, sh1_, shr_, tbn, tb0, tb1, les_t, les_f, pk_div, rem_, remv, and31, wu1, wuc, wui, wu2, ws1, wsc, ws2, wv1, n11_, n13_, n14_, n15_, n17_, n19_, n23_, n56_, n64_, fX11_readsShows, d1, d2, e1, h23, e3, y1]
      · rw [wuc (by omega), fr_at r3.1 (by omega), wu1]
      · rw [wuc (by omega)]; exact y2 i hi
    · obtain ⟨hr, s9⟩ := o3.2 q
      subst hr
      refine ⟨false, g3, ?_, o3, zz, ff, (by intro z; cases z)⟩
      simp (disch := omega) only [↓reduceIte, wlet, Option.bind_some, true_and, and_true, not_true_eq_false, not_false_eq_true, reduceCtorEq, n0_, n1_, n2_, n3_, n4_, n5_, n6_, n7_, n8_, n9_, n10_, n12_, n16_, n18_, n20_, n21_, n22_, n24_, n25_, n26_, n27_, n28_, n29_, n30_, n31_, n32_, n40_, n41_, n42_, n43_, n45_, n48_, n54_, n57_, n58_, n59_, n60_, n61_, n63_, n96_, n97_, n99_, n100_, n122_, n126_, n200_, n255_, n375_, n400_, n1000_, n2000_, n9999_, n5764801_, n1000000_, n3000_, m1, m2, le_t, le_f, lt_t, lt_f, eq_t, eq_f, no_lt, no_le, le_no, lt_no, eq_no, no_eq, add_no, wib_t, clamp, nI_add, pk_mul, pk_sub, nor_, nand_, ndif_, shl_, sh1_, shr_, tbn, tb0, tb1, les_t, les_f, pk_div, rem_, remv, and31, wu1, wuc, wui, wu2, ws1, wsc, ws2, wv1, n11_, n13_, n14_, n15_, n17_, n19_, n23_, n56_, n64_, fX11_readsShows, d1, d2, e1, h23, e3, Option.isSome_none, Option.isSome_some, Bool.false_eq_true]
end G85

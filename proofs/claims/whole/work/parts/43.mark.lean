/-! MARKS, laid and gone back to -/
section G43
variable {h : wSt} {k : Nat} {L : gLib} {S : gSh} {u : gUn} {M : gMk} {Y : gYr} {N : gSn} {T : gTp}
theorem nar_1 : vp_nar .boolean (nI 1) = nI 1 := by rfl
def mkC (i c : Nat) : Prop := 136 + 13 * i ≤ c ∧ c ≤ 136 + 13 * i + 12
theorem c_mark (W : WI k L S u M Y N T) (C : CI h L S u M Y N T) {i : Nat} (hi : i < 4) : ∃ g, fX0_keep h (136 + 13 * i) 29 39 43 = some g ∧ fr (mkC i) h g ∧ CI g L S u (fun j => if j = i then some (S, Y, N) else M j) Y N T := by
  obtain ⟨a1, a2, a3, a4, a5, a6, a7⟩ := id C
  have hY := W.2.2.2.2.2.1.1
  have hN := W.2.2.2.2.2.2.1.1
  obtain ⟨g1, e1, s1, f1⟩ := c_copy h (k := 136 + 13 * i + 8) a2 (by omega)
  obtain ⟨g2, e2, s2, f2⟩ := c_ycopy g1 (a := 136 + 13 * i + 1) (YC_fr a5 f1 (by unfold sk; omega) (by unfold sk; omega)) hY (by omega)
  obtain ⟨g3, e3, s3, f3⟩ := c_ncopy g2 (a := 136 + 13 * i + 3) (NC_fr (NC_fr a6 f1 (fun c _ _ => by unfold sk; omega)) f2 (fun c _ _ => by omega)) hN (by omega)
  have f4 : fr (fun c => c = 136 + 13 * i) g3 (wuI g3 (136 + 13 * i) 0 (nI 1)) := fr_wuI rfl
  have q1 : fr (mkC i) h g1 := fr_mono f1 (fun c q => by unfold sk at q; unfold mkC; omega)
  have q2 : fr (mkC i) g1 g2 := fr_mono f2 (fun c q => by unfold mkC; omega)
  have q3 : fr (mkC i) g2 g3 := fr_mono f3 (fun c q => by unfold sk at q; unfold mkC; omega)
  have q4 : fr (mkC i) g3 (wuI g3 (136 + 13 * i) 0 (nI 1)) := fr_mono f4 (fun c q => by unfold mkC; omega)
  have fg := fr_tr q1 (fr_tr q2 (fr_tr q3 q4))
  refine ⟨_, ?_, fg, CL_fr a1 fg (fun c _ _ => by unfold mkC; omega), SH_fr a2 fg (fun c _ _ => by unfold mkC; omega), UC_fr a3 fg (fun c _ _ => by unfold mkC; omega), fun j hj => ?_, YC_fr a5 fg (by unfold mkC; omega) (by unfold mkC; omega), NC_fr a6 fg (fun c _ _ => by unfold mkC; omega), TC_fr a7 fg (by unfold mkC; omega) (by unfold mkC; omega)⟩
  · simp (disch := omega) only [↓reduceIte, wlet, Option.bind_some, true_and, and_true, not_true_eq_false, not_false_eq_true, reduceCtorEq, n0_, n1_, n2_, n3_, n4_, n5_, n6_, n7_, n8_, n9_, n10_, n12_, n16_, n18_, n20_, n21_, n22_, n24_, n25_, n26_, n27_, n28_, n29_, n30_, n31_, n32_, n40_, n41_, n42_, n43_, n45_, n48_, n54_, n57_, n58_, n59_, n60_, n61_, n63_, n96_, n97_, n99_, n100_, n122_, n126_, n200_, n255_, n375_, n400_, n1000_, n2000_, n9999_, n5764801_, n1000000_, n3000_, m1, m2, le_t, le_f, lt_t, lt_f, eq_t, eq_f, no_lt, no_le, le_no, lt_no, eq_no, no_eq, add_no, wib_t, clamp, nI_add, pk_mul, pk_sub, nor_, nand_, ndif_, shl_, sh1_, shr_, tbn, tb0, tb1, les_t, les_f, pk_div, rem_, remv, and31, wu1, wuc, wui, wu2, ws1, wsc, ws2, wv1, n11_, n13_, n14_, n15_, n17_, n19_, n23_, n56_, n64_, fX0_keep, e1, e2, e3]
  · show _ = nI (if j = i then some (S, Y, N) else M j).isSome.toNat ∧ ∀ s y n, (if j = i then some (S, Y, N) else M j) = some (s, y, n) → _
    by_cases e : j = i
    · subst e
      rw [if_pos rfl, wu1]
      refine ⟨rfl, fun s y n q => ?_⟩
      cases q
      exact ⟨SH_fr (SH_fr (SH_fr s1 f2 (fun c _ _ => by omega)) f3 (fun c _ _ => by unfold sk; omega)) f4 (fun c _ _ => by omega), YC_fr (YC_fr s2 f3 (by unfold sk; omega) (by unfold sk; omega)) f4 (by omega) (by omega), NC_fr s3 f4 (fun c _ _ => by omega)⟩
    · rw [if_neg e]
      obtain ⟨b1, b2⟩ := a4 j hj
      refine ⟨by rw [fr_at fg (by unfold mkC; omega)]; exact b1, fun s y n q => ?_⟩
      obtain ⟨d1, d2, d3⟩ := b2 s y n q
      exact ⟨SH_fr d1 fg (fun c _ _ => by unfold mkC; omega), YC_fr d2 fg (by unfold mkC; omega) (by unfold mkC; omega), NC_fr d3 fg (fun c _ _ => by unfold mkC; omega)⟩
def mkM (c : Nat) : Prop := c = 230 ∨ (215 ≤ c ∧ c ≤ 219) ∨ (220 ≤ c ∧ c ≤ 224) ∨ c = 228
theorem r_mark (W : WI k L S u M Y N T) (R : MI h L S u M Y N T) {i : Nat} (hi : i < 4) : ∃ g, fX11_mark_b29 h (nI i) (nI 0) = some (true, g) ∧ fr mkM h g ∧ MI g L S u (fun j => if j = i then some (S, Y, N) else M j) Y N T := by
  obtain ⟨a1, a2, a3, a4, a5, a6, a7⟩ := id R
  have hY := W.2.2.2.2.2.1.1
  have hN := W.2.2.2.2.2.2.1.1
  have hMk := W.2.2.2.2.1
  have f0 : fr (fun c => c = 230) h (wuI h 230 i (nI 1)) := fr_wuI rfl
  obtain ⟨g1, e1, f1, y0, yq⟩ := r_laysLines (wuI h 230 i (nI 1)) (a := 0) (b := 1 + i) (by omega) (by omega) (by omega)
  obtain ⟨g2, e2, f2, n0, nq⟩ := r_laysSeen g1 (a := 0) (b := 1 + i) (by omega) (by omega) (by omega) (NM_fr (NM_fr a6 f0 (fun c _ _ => by omega)) f1 (fun c _ _ => by omega)) hN
  obtain ⟨g3, e3, f3, q3⟩ := r_copies g2 (a0 := 225) (g0 := 25) (o := 0) (a2 := 228) (g2 := 100) (o2 := 25 * i) (by omega) (by omega) (by omega) (by omega) (by omega)
  have p0 : fr mkM h (wuI h 230 i (nI 1)) := fr_mono f0 (fun c q => by unfold mkM; omega)
  have p1 : fr mkM (wuI h 230 i (nI 1)) g1 := fr_mono f1 (fun c q => by unfold mkM; omega)
  have p2 : fr mkM g1 g2 := fr_mono f2 (fun c q => by unfold mkM; omega)
  have p3 : fr mkM g2 g3 := fr_mono f3 (fun c q => by unfold mkM; omega)
  have fg := fr_tr p0 (fr_tr p1 (fr_tr p2 p3))
  have e188 : g3.1 188 = h.1 188 := fr_at fg (by unfold mkM; omega)
  have s2 : MS g2 225 0 S := MS_fr (MS_fr (MS_fr a2 f0 (by omega)) f1 (by omega)) f2 (by omega)
  have y1 : YM g1 (1 + i) Y := YM_lays hY y0 yq (YM_fr a5 f0 (fun c _ _ => by omega))
  have yj : ∀ j Y2, j ≠ 1 + i → Y2.1 ≤ 40 → YM h j Y2 → YM g3 j Y2 := fun j Y2 h1 h2 h3 => YM_fr (YM_fr (YM_lays2 h2 h1 y0 yq (YM_fr h3 f0 (fun c _ _ => by omega))) f2 (fun c _ _ => by omega)) f3 (fun c _ _ => by omega)
  have nj : ∀ j N2, j ≠ 1 + i → N2.1 ≤ 8 → NM h j N2 → NM g3 j N2 := fun j N2 h1 h2 h3 => NM_fr (nq j N2 h1 (NM_fr (NM_fr h3 f0 (fun c _ _ => by omega)) f1 (fun c _ _ => by omega)) h2) f3 (fun c _ _ => by omega)
  refine ⟨g3, ?_, fg, ML_fr a1 fg (fun c _ _ => by unfold mkM; omega), MS_fr a2 fg (by unfold mkM; omega), UM_fr a3 fg (by rw [e188]) (by unfold mkM; omega), fun j hj => ?_, yj 0 Y (by omega) hY a5, nj 0 N (by omega) hN a6, TM_fr a7 fg (by rw [e188]) (by unfold mkM; omega)⟩
  · simp (disch := omega) only [↓reduceIte, wlet, Option.bind_some, true_and, and_true, not_true_eq_false, not_false_eq_true, reduceCtorEq, n0_, n1_, n2_, n3_, n4_, n5_, n6_, n7_, n8_, n9_, n10_, n12_, n16_, n18_, n20_, n21_, n22_, n24_, n25_, n26_, n27_, n28_, n29_, n30_, n31_, n32_, n40_, n41_, n42_, n43_, n45_, n48_, n54_, n57_, n58_, n59_, n60_, n61_, n63_, n96_, n97_, n99_, n100_, n122_, n126_, n200_, n255_, n375_, n400_, n1000_, n2000_, n9999_, n5764801_, n1000000_, n3000_, m1, m2, le_t, le_f, lt_t, lt_f, eq_t, eq_f, no_lt, no_le, le_no, lt_no, eq_no, no_eq, add_no, wib_t, clamp, nI_add, pk_mul, pk_sub, nor_, nand_, ndif_, shl_, sh1_, shr_, tbn, tb0, tb1, les_t, les_f, pk_div, rem_, remv, and31, wu1, wuc, wui, wu2, ws1, wsc, ws2, wv1, n11_, n13_, n14_, n15_, n17_, n19_, n23_, n56_, n64_, fX11_mark_b29, fX11_mark_b47, fX11_mark_b59, nar_1, e1, e2, e3]
  · show _ = nI (if j = i then some (S, Y, N) else M j).isSome.toNat ∧ ∀ s y n, (if j = i then some (S, Y, N) else M j) = some (s, y, n) → _
    obtain ⟨b1, b2⟩ := a4 j hj
    have e230 : g3.1 230 j = (wuI h 230 i (nI 1)).1 230 j := by rw [fr_at f3 (by omega), fr_at f2 (by omega), fr_at f1 (by omega)]
    rw [e230, wuS]
    by_cases e : j = i
    · subst e
      rw [if_pos rfl, if_pos rfl]
      refine ⟨rfl, fun s y n q => ?_⟩
      cases q
      exact ⟨MS_copies s2 q3, YM_fr (YM_fr y1 f2 (fun c _ _ => by omega)) f3 (fun c _ _ => by omega), NM_fr n0 f3 (fun c _ _ => by omega)⟩
    · rw [if_neg e, if_neg e]
      refine ⟨b1, fun s y n q => ?_⟩
      obtain ⟨d1, d2, d3⟩ := b2 s y n q
      obtain ⟨w1, w2, w3, w4⟩ := hMk j s y n q
      refine ⟨?_, yj (1 + j) y (by omega) w3.1 d2, nj (1 + j) n (by omega) w4.1 d3⟩
      refine MS_copy (MS_fr (MS_fr (MS_fr d1 f0 (by omega)) f1 (by omega)) f2 (by omega)) (fun q hq => ?_)
      rw [q3, if_neg (by omega)]
theorem c_back (W : WI k L S u M Y N T) (C : CI h L S u M Y N T) {i : Nat} (hi : i < 4) {s : gSh} {y : gYr} {n : gSn} (hm : M i = some (s, y, n)) : ∃ g1 g2 g3, fX6_copyFrom h 29 (136 + 13 * i + 8) = some g1 ∧ fX9_copyFrom g1 39 (136 + 13 * i + 1) = some g2 ∧ fX5_copyFrom g2 43 (136 + 13 * i + 3) = some g3 ∧ fr cls h (wuI g3 48 0 (nI 0)) ∧ CI (wuI g3 48 0 (nI 0)) L s (0, u.2.1, u.2.2) M y n T := by
  obtain ⟨a1, a2, a3, a4, a5, a6, a7⟩ := id C
  obtain ⟨w1, w2, w3, w4⟩ := W.2.2.2.2.1 i s y n hm
  obtain ⟨d1, d2, d3⟩ := (a4 i hi).2 s y n hm
  obtain ⟨g1, e1, s1, f1⟩ := c_copy h (k := 29) d1 (by omega)
  obtain ⟨g2, e2, s2, f2⟩ := c_ycopy g1 (a := 39) (YC_fr d2 f1 (by unfold sk; omega) (by unfold sk; omega)) w3.1 (by omega)
  obtain ⟨g3, e3, s3, f3⟩ := c_ncopy g2 (a := 43) (NC_fr (NC_fr d3 f1 (fun c _ _ => by unfold sk; omega)) f2 (fun c _ _ => by omega)) w4.1 (by omega)
  have f4 : fr (fun c => c = 48) g3 (wuI g3 48 0 (nI 0)) := fr_wuI rfl
  have q1 : fr (fun c => 29 ≤ c ∧ c ≤ 48) h g1 := fr_mono f1 (fun c q => by unfold sk at q; omega)
  have q2 : fr (fun c => 29 ≤ c ∧ c ≤ 48) g1 g2 := fr_mono f2 (fun c q => by omega)
  have q3 : fr (fun c => 29 ≤ c ∧ c ≤ 48) g2 g3 := fr_mono f3 (fun c q => by unfold sk at q; omega)
  have q4 : fr (fun c => 29 ≤ c ∧ c ≤ 48) g3 (wuI g3 48 0 (nI 0)) := fr_mono f4 (fun c q => by omega)
  have fg := fr_tr q1 (fr_tr q2 (fr_tr q3 q4))
  have e48 : g3.1 48 = h.1 48 := by rw [fr_at f3 (by unfold sk; omega), fr_at f2 (by omega), fr_at f1 (by unfold sk; omega)]
  refine ⟨g1, g2, g3, e1, e2, e3, fr_mono fg (fun c q => by unfold cls; omega), CL_fr a1 fg (fun c _ _ => by omega), SH_fr (SH_fr (SH_fr s1 f2 (fun c _ _ => by omega)) f3 (fun c _ _ => by unfold sk; omega)) f4 (fun c _ _ => by omega), ⟨wu1, ?_, fun j hj => absurd hj (Nat.not_lt_zero _)⟩, BC_fr a4 fg (fun c _ _ => by omega), YC_fr (YC_fr s2 f3 (by unfold sk; omega) (by unfold sk; omega)) f4 (by omega) (by omega), NC_fr s3 f4 (fun c _ _ => by omega), TC_fr a7 fg (by omega) (by omega)⟩
  rw [wui (by omega), e48]
  exact a3.2.1
theorem r_back (W : WI k L S u M Y N T) (R : MI h L S u M Y N T) {i : Nat} (hi : i < 4) {s : gSh} {y : gYr} {n : gSn} (hm : M i = some (s, y, n)) : ∃ g, fX11_mark_b29 h (nI i) (nI 1) = some (true, g) ∧ fr ref h g ∧ MI g L s (0, u.2.1, u.2.2) M y n T := by
  obtain ⟨a1, a2, a3, a4, a5, a6, a7⟩ := id R
  have hMk := W.2.2.2.2.1
  obtain ⟨w1, w2, w3, w4⟩ := hMk i s y n hm
  obtain ⟨d0, d⟩ := a4 i hi
  obtain ⟨d1, d2, d3⟩ := d s y n hm
  have f0 : fr (fun c => c = 230) h (wuI h 230 i (nI 1)) := fr_wuI rfl
  obtain ⟨g1, e1, f1, y0, yq⟩ := r_laysLines (wuI h 230 i (nI 1)) (a := 1 + i) (b := 0) (by omega) (by omega) (by omega)
  obtain ⟨g2, e2, f2, n0, nq⟩ := r_laysSeen g1 (a := 1 + i) (b := 0) (by omega) (by omega) (by omega) (NM_fr (NM_fr d3 f0 (fun c _ _ => by omega)) f1 (fun c _ _ => by omega)) w4.1
  obtain ⟨g3, e3, f3, q3⟩ := r_copies g2 (a0 := 228) (g0 := 100) (o := 25 * i) (a2 := 225) (g2 := 25) (o2 := 0) (by omega) (by omega) (by omega) (by omega) (by omega)
  have f4 : fr (fun c => c = 188) g3 (wuI g3 188 54 (nI 0)) := fr_wuI rfl
  have p0 : fr (fun c => c = 188 ∨ c = 225 ∨ mkM c) h (wuI h 230 i (nI 1)) := fr_mono f0 (fun c q => by unfold mkM; omega)
  have p1 : fr (fun c => c = 188 ∨ c = 225 ∨ mkM c) (wuI h 230 i (nI 1)) g1 := fr_mono f1 (fun c q => by unfold mkM; omega)
  have p2 : fr (fun c => c = 188 ∨ c = 225 ∨ mkM c) g1 g2 := fr_mono f2 (fun c q => by unfold mkM; omega)
  have p3 : fr (fun c => c = 188 ∨ c = 225 ∨ mkM c) g2 g3 := fr_mono f3 (fun c q => by omega)
  have p4 : fr (fun c => c = 188 ∨ c = 225 ∨ mkM c) g3 (wuI g3 188 54 (nI 0)) := fr_mono f4 (fun c q => by omega)
  have fg := fr_tr p0 (fr_tr p1 (fr_tr p2 (fr_tr p3 p4)))
  have e188 : g3.1 188 = h.1 188 := by rw [fr_at f3 (by omega), fr_at f2 (by omega), fr_at f1 (by omega), fr_at f0 (by omega)]
  have yj : ∀ j Y2, j ≠ 0 → Y2.1 ≤ 40 → YM h j Y2 → YM (wuI g3 188 54 (nI 0)) j Y2 := fun j Y2 h1 h2 h3 => YM_fr (YM_fr (YM_fr (YM_lays2 h2 h1 y0 yq (YM_fr h3 f0 (fun c _ _ => by omega))) f2 (fun c _ _ => by omega)) f3 (fun c _ _ => by omega)) f4 (fun c _ _ => by omega)
  have nj : ∀ j N2, j ≠ 0 → N2.1 ≤ 8 → NM h j N2 → NM (wuI g3 188 54 (nI 0)) j N2 := fun j N2 h1 h2 h3 => NM_fr (NM_fr (nq j N2 h1 (NM_fr (NM_fr h3 f0 (fun c _ _ => by omega)) f1 (fun c _ _ => by omega)) h2) f3 (fun c _ _ => by omega)) f4 (fun c _ _ => by omega)
  refine ⟨wuI g3 188 54 (nI 0), ?_, fr_mono fg (fun c q => by unfold mkM at q; unfold ref; omega), ML_fr a1 fg (fun c _ _ => by unfold mkM; omega), MS_fr (MS_copies (MS_fr (MS_fr (MS_fr d1 f0 (by omega)) f1 (by omega)) f2 (by omega)) q3) f4 (by omega), ⟨wu1, fun j hj => absurd hj (Nat.not_lt_zero _)⟩, fun j hj => ?_, YM_fr (YM_fr (YM_fr (YM_lays w3.1 y0 yq (YM_fr d2 f0 (fun c _ _ => by omega))) f2 (fun c _ _ => by omega)) f3 (fun c _ _ => by omega)) f4 (fun c _ _ => by omega), NM_fr (NM_fr n0 f3 (fun c _ _ => by omega)) f4 (fun c _ _ => by omega), TM_fr a7 fg (by rw [wui (by omega), e188]) (by unfold mkM; omega)⟩
  · simp (disch := omega) only [↓reduceIte, wlet, Option.bind_some, true_and, and_true, not_true_eq_false, not_false_eq_true, reduceCtorEq, n0_, n1_, n2_, n3_, n4_, n5_, n6_, n7_, n8_, n9_, n10_, n12_, n16_, n18_, n20_, n21_, n22_, n24_, n25_, n26_, n27_, n28_, n29_, n30_, n31_, n32_, n40_, n41_, n42_, n43_, n45_, n48_, n54_, n57_, n58_, n59_, n60_, n61_, n63_, n96_, n97_, n99_, n100_, n122_, n126_, n200_, n255_, n375_, n400_, n1000_, n2000_, n9999_, n5764801_, n1000000_, n3000_, m1, m2, le_t, le_f, lt_t, lt_f, eq_t, eq_f, no_lt, no_le, le_no, lt_no, eq_no, no_eq, add_no, wib_t, clamp, nI_add, pk_mul, pk_sub, nor_, nand_, ndif_, shl_, sh1_, shr_, tbn, tb0, tb1, les_t, les_f, pk_div, rem_, remv, and31, wu1, wuc, wui, wu2, ws1, wsc, ws2, wv1, n11_, n13_, n14_, n15_, n17_, n19_, n23_, n56_, n64_, fX11_mark_b29, fX11_mark_b47, fX11_mark_b59, nar_1, e1, e2, e3]
  · obtain ⟨b1, b2⟩ := a4 j hj
    refine ⟨?_, fun s2 y2 n2 q => ?_⟩
    · rw [wuc (by omega), fr_at f3 (by omega), fr_at f2 (by omega), fr_at f1 (by omega), wuS]
      by_cases e : j = i
      · rw [if_pos e, e, hm]; rfl
      · rw [if_neg e]; exact b1
    · obtain ⟨d1, d2, d3⟩ := b2 s2 y2 n2 q
      obtain ⟨w1, w2, w3, w4⟩ := hMk j s2 y2 n2 q
      exact ⟨MS_fr (MS_fr (MS_fr (MS_fr (MS_fr d1 f0 (by omega)) f1 (by omega)) f2 (by omega)) f3 (by omega)) f4 (by omega), yj (1 + j) y2 (by omega) w3.1 d2, nj (1 + j) n2 (by omega) w4.1 d3⟩
theorem op_mark (hI : Inv k h) (x0 : Int32) (b : Bool) : ∃ r h1 h2, fX10_mark h x0 (nI b.toNat) = some (r, h1) ∧ fX11_mark h1 x0 (nI b.toNat) = some (r, h2) ∧ Inv k h2 := by
  obtain ⟨L, S, u, M, Y, N, T, W, C, R⟩ := hI
  have R0 := MI_0 R (nI 0)
  cases e : gIx 4 x0 with
  | none =>
    have a3 := r_within (wuI h 188 0 (nI 0)) x0 (a := 0) (b := 3) (by omega) (by omega)
    rw [gRg_0, e] at a3
    refine ⟨false, h, _, ?_, ?_, Inv_q0 W C R fr_rf⟩
    · rcases gIx_cut e (by omega) with q | ⟨q1, q2, q3⟩
      · simp (disch := omega) only [↓reduceIte, wlet, Option.bind_some, true_and, and_true, not_true_eq_false, not_false_eq_true, reduceCtorEq, n0_, n1_, n2_, n3_, n4_, n5_, n6_, n7_, n8_, n9_, n10_, n12_, n16_, n18_, n20_, n21_, n22_, n24_, n25_, n26_, n27_, n28_, n29_, n30_, n31_, n32_, n40_, n41_, n42_, n43_, n45_, n48_, n54_, n57_, n58_, n59_, n60_, n61_, n63_, n96_, n97_, n99_, n100_, n122_, n126_, n200_, n255_, n375_, n400_, n1000_, n2000_, n9999_, n5764801_, n1000000_, n3000_, m1, m2, le_t, le_f, lt_t, lt_f, eq_t, eq_f, no_lt, no_le, le_no, lt_no, eq_no, no_eq, add_no, wib_t, clamp, nI_add, pk_mul, pk_sub, nor_, nand_, ndif_, shl_, sh1_, shr_, tbn, tb0, tb1, les_t, les_f, pk_div, rem_, remv, and31, wu1, wuc, wui, wu2, ws1, wsc, ws2, wv1, n11_, n13_, n14_, n15_, n17_, n19_, n23_, n56_, n64_, fX10_mark, q]
      · simp (disch := omega) only [↓reduceIte, wlet, Option.bind_some, true_and, and_true, not_true_eq_false, not_false_eq_true, reduceCtorEq, n0_, n1_, n2_, n3_, n4_, n5_, n6_, n7_, n8_, n9_, n10_, n12_, n16_, n18_, n20_, n21_, n22_, n24_, n25_, n26_, n27_, n28_, n29_, n30_, n31_, n32_, n40_, n41_, n42_, n43_, n45_, n48_, n54_, n57_, n58_, n59_, n60_, n61_, n63_, n96_, n97_, n99_, n100_, n122_, n126_, n200_, n255_, n375_, n400_, n1000_, n2000_, n9999_, n5764801_, n1000000_, n3000_, m1, m2, le_t, le_f, lt_t, lt_f, eq_t, eq_f, no_lt, no_le, le_no, lt_no, eq_no, no_eq, add_no, wib_t, clamp, nI_add, pk_mul, pk_sub, nor_, nand_, ndif_, shl_, sh1_, shr_, tbn, tb0, tb1, les_t, les_f, pk_div, rem_, remv, and31, wu1, wuc, wui, wu2, ws1, wsc, ws2, wv1, n11_, n13_, n14_, n15_, n17_, n19_, n23_, n56_, n64_, fX10_mark, q1, q3]
    · simp (disch := omega) only [↓reduceIte, wlet, Option.bind_some, true_and, and_true, not_true_eq_false, not_false_eq_true, reduceCtorEq, n0_, n1_, n2_, n3_, n4_, n5_, n6_, n7_, n8_, n9_, n10_, n12_, n16_, n18_, n20_, n21_, n22_, n24_, n25_, n26_, n27_, n28_, n29_, n30_, n31_, n32_, n40_, n41_, n42_, n43_, n45_, n48_, n54_, n57_, n58_, n59_, n60_, n61_, n63_, n96_, n97_, n99_, n100_, n122_, n126_, n200_, n255_, n375_, n400_, n1000_, n2000_, n9999_, n5764801_, n1000000_, n3000_, m1, m2, le_t, le_f, lt_t, lt_f, eq_t, eq_f, no_lt, no_le, le_no, lt_no, eq_no, no_eq, add_no, wib_t, clamp, nI_add, pk_mul, pk_sub, nor_, nand_, ndif_, shl_, sh1_, shr_, tbn, tb0, tb1, les_t, les_f, pk_div, rem_, remv, and31, wu1, wuc, wui, wu2, ws1, wsc, ws2, wv1, n11_, n13_, n14_, n15_, n17_, n19_, n23_, n56_, n64_, fX11_mark, a3, Option.isSome_none, Option.isSome_some, Bool.false_eq_true]
  | some i =>
    obtain ⟨rfl, hi⟩ := gIx_some e
    cases b with
    | false =>
      obtain ⟨g, e1, f1, C1⟩ := c_mark W C hi
      have R1 := MI_0 (MI_cls R (fr_mono f1 (fun c q => by unfold mkC at q; unfold cls; omega))) (nI 0)
      have a3 := r_within (wuI g 188 0 (nI 0)) (nI i) (a := 0) (b := 3) (by omega) (by omega)
      rw [gRg_0, e] at a3
      obtain ⟨g2, e2, f2, R2⟩ := r_mark W R1 hi
      have f3 : fr ref g g2 := fr_tr (fr_wuI (by unfold ref; omega)) (fr_mono f2 (fun c q => by unfold mkM at q; unfold ref; omega))
      refine ⟨true, g, g2, ?_, ?_, L, S, u, _, Y, N, T, ?_, CI_ref C1 f3, R2⟩
      · simp (disch := omega) only [↓reduceIte, wlet, Option.bind_some, true_and, and_true, not_true_eq_false, not_false_eq_true, reduceCtorEq, n0_, n1_, n2_, n3_, n4_, n5_, n6_, n7_, n8_, n9_, n10_, n12_, n16_, n18_, n20_, n21_, n22_, n24_, n25_, n26_, n27_, n28_, n29_, n30_, n31_, n32_, n40_, n41_, n42_, n43_, n45_, n48_, n54_, n57_, n58_, n59_, n60_, n61_, n63_, n96_, n97_, n99_, n100_, n122_, n126_, n200_, n255_, n375_, n400_, n1000_, n2000_, n9999_, n5764801_, n1000000_, n3000_, m1, m2, le_t, le_f, lt_t, lt_f, eq_t, eq_f, no_lt, no_le, le_no, lt_no, eq_no, no_eq, add_no, wib_t, clamp, nI_add, pk_mul, pk_sub, nor_, nand_, ndif_, shl_, sh1_, shr_, tbn, tb0, tb1, les_t, les_f, pk_div, rem_, remv, and31, wu1, wuc, wui, wu2, ws1, wsc, ws2, wv1, n11_, n13_, n14_, n15_, n17_, n19_, n23_, n56_, n64_, fX10_mark, Bool.toNat_false, e1]
      · simp (disch := omega) only [↓reduceIte, wlet, Option.bind_some, true_and, and_true, not_true_eq_false, not_false_eq_true, reduceCtorEq, n0_, n1_, n2_, n3_, n4_, n5_, n6_, n7_, n8_, n9_, n10_, n12_, n16_, n18_, n20_, n21_, n22_, n24_, n25_, n26_, n27_, n28_, n29_, n30_, n31_, n32_, n40_, n41_, n42_, n43_, n45_, n48_, n54_, n57_, n58_, n59_, n60_, n61_, n63_, n96_, n97_, n99_, n100_, n122_, n126_, n200_, n255_, n375_, n400_, n1000_, n2000_, n9999_, n5764801_, n1000000_, n3000_, m1, m2, le_t, le_f, lt_t, lt_f, eq_t, eq_f, no_lt, no_le, le_no, lt_no, eq_no, no_eq, add_no, wib_t, clamp, nI_add, pk_mul, pk_sub, nor_, nand_, ndif_, shl_, sh1_, shr_, tbn, tb0, tb1, les_t, les_f, pk_div, rem_, remv, and31, wu1, wuc, wui, wu2, ws1, wsc, ws2, wv1, n11_, n13_, n14_, n15_, n17_, n19_, n23_, n56_, n64_, fX11_mark, a3, e2, Bool.toNat_false, Option.isSome_none, Option.isSome_some, Bool.false_eq_true]
      · obtain ⟨w1, w2, w3, w4, w5, w6, w7, w8⟩ := W
        refine ⟨w1, w2, w3, w4, fun j s y n q => ?_, w6, w7, w8⟩
        have q : (if j = i then some (S, Y, N) else M j) = some (s, y, n) := q
        by_cases ej : j = i
        · rw [if_pos ej] at q
          cases q
          exact ⟨w2, w3, w6, w7⟩
        · rw [if_neg ej] at q
          exact w5 j s y n q
    | true =>
      have a3 := r_within (wuI h 188 0 (nI 0)) (nI i) (a := 0) (b := 3) (by omega) (by omega)
      rw [gRg_0, e] at a3
      have b1 := (C.2.2.2.1 i hi).1
      have b2 := (R.2.2.2.1 i hi).1
      cases hm : M i with
      | none =>
        rw [hm] at b1 b2
        have b1 : h.1 (136 + 13 * i) 0 = nI 0 := b1
        have b2 : h.1 230 i = nI 0 := b2
        refine ⟨false, h, _, ?_, ?_, Inv_q0 W C R fr_rf⟩
        · simp (disch := omega) only [↓reduceIte, wlet, Option.bind_some, true_and, and_true, not_true_eq_false, not_false_eq_true, reduceCtorEq, n0_, n1_, n2_, n3_, n4_, n5_, n6_, n7_, n8_, n9_, n10_, n12_, n16_, n18_, n20_, n21_, n22_, n24_, n25_, n26_, n27_, n28_, n29_, n30_, n31_, n32_, n40_, n41_, n42_, n43_, n45_, n48_, n54_, n57_, n58_, n59_, n60_, n61_, n63_, n96_, n97_, n99_, n100_, n122_, n126_, n200_, n255_, n375_, n400_, n1000_, n2000_, n9999_, n5764801_, n1000000_, n3000_, m1, m2, le_t, le_f, lt_t, lt_f, eq_t, eq_f, no_lt, no_le, le_no, lt_no, eq_no, no_eq, add_no, wib_t, clamp, nI_add, pk_mul, pk_sub, nor_, nand_, ndif_, shl_, sh1_, shr_, tbn, tb0, tb1, les_t, les_f, pk_div, rem_, remv, and31, wu1, wuc, wui, wu2, ws1, wsc, ws2, wv1, n11_, n13_, n14_, n15_, n17_, n19_, n23_, n56_, n64_, fX10_mark, Bool.toNat_true, b1]
        · simp (disch := omega) only [↓reduceIte, wlet, Option.bind_some, true_and, and_true, not_true_eq_false, not_false_eq_true, reduceCtorEq, n0_, n1_, n2_, n3_, n4_, n5_, n6_, n7_, n8_, n9_, n10_, n12_, n16_, n18_, n20_, n21_, n22_, n24_, n25_, n26_, n27_, n28_, n29_, n30_, n31_, n32_, n40_, n41_, n42_, n43_, n45_, n48_, n54_, n57_, n58_, n59_, n60_, n61_, n63_, n96_, n97_, n99_, n100_, n122_, n126_, n200_, n255_, n375_, n400_, n1000_, n2000_, n9999_, n5764801_, n1000000_, n3000_, m1, m2, le_t, le_f, lt_t, lt_f, eq_t, eq_f, no_lt, no_le, le_no, lt_no, eq_no, no_eq, add_no, wib_t, clamp, nI_add, pk_mul, pk_sub, nor_, nand_, ndif_, shl_, sh1_, shr_, tbn, tb0, tb1, les_t, les_f, pk_div, rem_, remv, and31, wu1, wuc, wui, wu2, ws1, wsc, ws2, wv1, n11_, n13_, n14_, n15_, n17_, n19_, n23_, n56_, n64_, fX11_mark, a3, b2, Bool.toNat_true, Option.isSome_none, Option.isSome_some, Bool.false_eq_true]
      | some p =>
        obtain ⟨s, y, n⟩ := p
        rw [hm] at b1
        have b1 : h.1 (136 + 13 * i) 0 = nI 1 := b1
        obtain ⟨g1, g2, g3, e1, e2, e3, f1, C1⟩ := c_back W C hi hm
        have R1 := MI_0 (MI_cls R f1) (nI 0)
        have a3 := r_within (wuI (wuI g3 48 0 (nI 0)) 188 0 (nI 0)) (nI i) (a := 0) (b := 3) (by omega) (by omega)
        rw [gRg_0, e] at a3
        have b2 := (R1.2.2.2.1 i hi).1
        rw [hm] at b2
        have b2 : (wuI (wuI g3 48 0 (nI 0)) 188 0 (nI 0)).1 230 i = nI 1 := b2
        rw [wuc (by omega), wuc (by omega)] at b2
        obtain ⟨g4, e4, f4, R4⟩ := r_back W R1 hi hm
        have f5 : fr ref (wuI g3 48 0 (nI 0)) g4 := fr_tr (fr_wuI (by unfold ref; omega)) f4
        refine ⟨true, wuI g3 48 0 (nI 0), g4, ?_, ?_, L, s, (0, u.2.1, u.2.2), M, y, n, T, ?_, CI_ref C1 f5, R4⟩
        · simp (disch := omega) only [↓reduceIte, wlet, Option.bind_some, true_and, and_true, not_true_eq_false, not_false_eq_true, reduceCtorEq, n0_, n1_, n2_, n3_, n4_, n5_, n6_, n7_, n8_, n9_, n10_, n12_, n16_, n18_, n20_, n21_, n22_, n24_, n25_, n26_, n27_, n28_, n29_, n30_, n31_, n32_, n40_, n41_, n42_, n43_, n45_, n48_, n54_, n57_, n58_, n59_, n60_, n61_, n63_, n96_, n97_, n99_, n100_, n122_, n126_, n200_, n255_, n375_, n400_, n1000_, n2000_, n9999_, n5764801_, n1000000_, n3000_, m1, m2, le_t, le_f, lt_t, lt_f, eq_t, eq_f, no_lt, no_le, le_no, lt_no, eq_no, no_eq, add_no, wib_t, clamp, nI_add, pk_mul, pk_sub, nor_, nand_, ndif_, shl_, sh1_, shr_, tbn, tb0, tb1, les_t, les_f, pk_div, rem_, remv, and31, wu1, wuc, wui, wu2, ws1, wsc, ws2, wv1, n11_, n13_, n14_, n15_, n17_, n19_, n23_, n56_, n64_, fX10_mark, fX8_clear, Bool.toNat_true, b1, e1, e2, e3]
        · simp (disch := omega) only [↓reduceIte, wlet, Option.bind_some, true_and, and_true, not_true_eq_false, not_false_eq_true, reduceCtorEq, n0_, n1_, n2_, n3_, n4_, n5_, n6_, n7_, n8_, n9_, n10_, n12_, n16_, n18_, n20_, n21_, n22_, n24_, n25_, n26_, n27_, n28_, n29_, n30_, n31_, n32_, n40_, n41_, n42_, n43_, n45_, n48_, n54_, n57_, n58_, n59_, n60_, n61_, n63_, n96_, n97_, n99_, n100_, n122_, n126_, n200_, n255_, n375_, n400_, n1000_, n2000_, n9999_, n5764801_, n1000000_, n3000_, m1, m2, le_t, le_f, lt_t, lt_f, eq_t, eq_f, no_lt, no_le, le_no, lt_no, eq_no, no_eq, add_no, wib_t, clamp, nI_add, pk_mul, pk_sub, nor_, nand_, ndif_, shl_, sh1_, shr_, tbn, tb0, tb1, les_t, les_f, pk_div, rem_, remv, and31, wu1, wuc, wui, wu2, ws1, wsc, ws2, wv1, n11_, n13_, n14_, n15_, n17_, n19_, n23_, n56_, n64_, fX11_mark, a3, b2, e4, Bool.toNat_true, Option.isSome_none, Option.isSome_some, Bool.false_eq_true]
        · obtain ⟨w1, w2, w3, w4, w5, w6, w7, w8⟩ := W
          obtain ⟨v1, v2, v3, v4⟩ := w5 i s y n hm
          exact ⟨w1, v1, v2, ⟨by show 0 ≤ 16; omega, w4.2.1, fun j hj => absurd hj (Nat.not_lt_zero _)⟩, w5, v3, v4, w8⟩
end G43

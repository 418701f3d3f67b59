/-! THE YEAR -/
section G64
variable {h : wSt} {T : gTp} {b : Nat} {L : gLib}
theorem gYl_0 {n : Nat} {x : (Nat × Nat) × gYr} (hx : x.1.2 ≠ 0 ∨ gTk T x.1.1 = 0) : gYl L T n x = x := by
  cases n with
  | zero => rfl
  | succ n => rw [gYl, if_pos hx]
theorem gYl_s {n : Nat} {x : (Nat × Nat) × gYr} (hx : ¬ (x.1.2 ≠ 0 ∨ gTk T x.1.1 = 0)) : gYl L T (n + 1) x = gYl L T n (gOne L T x) := by rw [gYl, if_neg hx]
theorem gOne_W (hW : WL L) {Y : gYr} (hY : WY L Y) (h0 : (gOne L T ((b, 0), Y)).1.2 = 0) : WY L (gOne L T ((b, 0), Y)).2 ∧ (gOne L T ((b, 0), Y)).2.1 = Y.1 + 1 := by
  cases hq : gAct T b with
  | none => rw [gOne_n hq] at h0; exact absurd h0 (fl_ne (by omega))
  | some a =>
    have ha := gAct_lt hq
    by_cases h40 : 40 ≤ Y.1
    · rw [gOne_f hq h40] at h0; exact absurd h0 (fl_ne (by omega))
    · rw [gOne_s hq h40] at h0 ⊢
      have h0 : (gOs L T a b).2 = 0 := h0
      refine ⟨⟨by show Y.1 + 1 ≤ 40; omega, fun i hi => ?_⟩, rfl⟩
      have hi : i < Y.1 + 1 := hi
      have key : (gOe L T a b).1 ≤ 3 ∧ ((gOe L T a b).1 = 0 → (gOe L T a b).2.1 < gnt L ∧ (gOe L T a b).2.2.2 ≤ 5) ∧ ((gOe L T a b).1 ≠ 0 → (gOe L T a b).2.1 = 0 ∧ (gOe L T a b).2.2.2 = 0) ∧ ((gOe L T a b).1 ≠ 3 → (gOe L T a b).2.2.1 < gns L) ∧ ((gOe L T a b).1 = 3 → (gOe L T a b).2.2.1 = 0) := by
        unfold gOs at h0
        have q1 := gTs_2 h0
        unfold gOe
        show a ≤ 3 ∧ (a = 0 → _ ∧ _) ∧ (a ≠ 0 → _ ∧ _) ∧ (a ≠ 3 → _) ∧ (a = 3 → _)
        have q3 : (gY3 L T a (gY2 L T a (nx T (b, 0)))).2 = 0 := by
          unfold gY4 at q1
          by_cases h1 : a = 0
          · rw [if_pos h1, nx_2] at q1; exact (gNw_2 q1).1
          · rw [if_neg h1] at q1; exact q1
        have q2 : (gY2 L T a (nx T (b, 0))).2 = 0 ∧ (a ≠ 3 → ∃ j, gNf (gnm L 0) (gns L) (gTw T (gY2 L T a (nx T (b, 0))).1) = some j ∧ j < gns L) := by
          unfold gY3 at q3
          by_cases h3 : a = 3
          · rw [if_pos h3] at q3; exact ⟨q3, fun q => absurd h3 q⟩
          · rw [if_neg h3] at q3; exact ⟨(gTo_2 q3).1, fun _ => (gTo_2 q3).2⟩
        refine ⟨by omega, fun h1 => ⟨?_, ?_⟩, fun h1 => ⟨if_neg h1, if_neg h1⟩, fun h3 => ?_, fun h3 => if_pos h3⟩
        · have q2 := q2.1
          unfold gY2 at q2
          rw [if_pos h1] at q2
          obtain ⟨-, j, hj, hj2⟩ := gTo_2 q2
          show (if a = 0 then (gNf (gnm L 1) (gnt L) (gTw T (nx T (b, 0)).1)).getD 0 else 0) < gnt L
          rw [if_pos h1, hj]; exact hj2
        · unfold gY4 at q1
          rw [if_pos h1, nx_2] at q1
          obtain ⟨-, -, -, h5, -⟩ := gNw_2 q1
          show (if a = 0 then gTn T (gY3 L T a (gY2 L T a (nx T (b, 0)))).1 else 0) ≤ 5
          rw [if_pos h1]; exact h5
        · obtain ⟨j, hj, hj2⟩ := q2.2 h3
          show (if a = 3 then 0 else (gNf (gnm L 0) (gns L) (gTw T (gY2 L T a (nx T (b, 0))).1)).getD 0) < gns L
          rw [if_neg h3, hj]; exact hj2
      show ((if i = Y.1 then gOe L T a b else Y.2 i)).1 ≤ 3 ∧ ((if i = Y.1 then gOe L T a b else Y.2 i).1 = 0 → (if i = Y.1 then gOe L T a b else Y.2 i).2.1 < gnt L ∧ (if i = Y.1 then gOe L T a b else Y.2 i).2.2.2 ≤ 5) ∧ ((if i = Y.1 then gOe L T a b else Y.2 i).1 ≠ 0 → (if i = Y.1 then gOe L T a b else Y.2 i).2.1 = 0 ∧ (if i = Y.1 then gOe L T a b else Y.2 i).2.2.2 = 0) ∧ ((if i = Y.1 then gOe L T a b else Y.2 i).1 ≠ 3 → (if i = Y.1 then gOe L T a b else Y.2 i).2.2.1 < gns L) ∧ ((if i = Y.1 then gOe L T a b else Y.2 i).1 = 3 → (if i = Y.1 then gOe L T a b else Y.2 i).2.2.1 = 0)
      by_cases e : i = Y.1
      · rw [if_pos e]; exact key
      · rw [if_neg e]; exact hY.2 i (by omega)
theorem c_readFrom (hW : WL L) (hC : CL h L) (hT : TC h T) (hWT : WT T) (Y0 : gYr) (hY0 : Y0.1 = 0) : ∃ g, fX9_readFrom h 41 3 = some (nI (gYl L T 41 ((0, 0), Y0)).1.2, g) ∧ fr sy h g ∧ SCs g T (gYl L T 41 ((0, 0), Y0)).1 ∧ ((gYl L T 41 ((0, 0), Y0)).1.2 = 0 → YC g 41 (gYl L T 41 ((0, 0), Y0)).2 ∧ WY L (gYl L T 41 ((0, 0), Y0)).2) := by
  have f1 : fr (fun c => c = 1 ∨ c = 41) h (wuI (wuI (wuI h 41 0 (nI 0)) 1 4 (nI 0)) 1 7 (nI 0)) := fr_tr (fr_tr (fr_wuI (Or.inr rfl)) (fr_wuI (Or.inl rfl))) (fr_wuI (Or.inl rfl))
  have t1 : TC (wuI (wuI (wuI h 41 0 (nI 0)) 1 4 (nI 0)) 1 7 (nI 0)) T := by
    refine ⟨?_, fun i hi => ?_⟩
    · rw [wui (by omega), wui (by omega), wuc (by omega)]; exact hT.1
    · rw [fr_at f1 (by omega)]; exact hT.2 i hi
  obtain ⟨g1, e1, s1', f2⟩ := c_nextAt (b := 0) t1 hWT (by omega) (by rw [wui (by omega)]; exact wu1) wu1
  have f12 : fr sy h g1 := fr_tr (fr_mono f1 (fun c q => by unfold sy; omega)) (fr_mono f2 (fun c q => Or.inl q))
  have y1 : YC g1 41 Y0 := by
    refine ⟨?_, fun i hi => by omega⟩
    rw [hY0, fr_at f2 (by unfold s1; omega), wuc (by omega), wuc (by omega)]; exact wu1
  have w1 : WY L Y0 := ⟨by omega, fun i hi => by omega⟩
  obtain ⟨e, he, P⟩ := wit_or (b := fun v : (Int32 × wSt) => fX9_readFrom_l11 v.2 41 3 v.1) 41
    (fun i v => v.1 = nI i ∧ ∃ x : (Nat × Nat) × gYr, SCs v.2 T x.1 ∧ fr sy h v.2 ∧ gYl L T (41 - i) x = gYl L T 41 ((0, 0), Y0) ∧ (x.1.2 = 0 → YC v.2 41 x.2 ∧ WY L x.2 ∧ x.2.1 = i))
    (fun g => fr sy h g ∧ SCs g T (gYl L T 41 ((0, 0), Y0)).1 ∧ ((gYl L T 41 ((0, 0), Y0)).1.2 = 0 → YC g 41 (gYl L T 41 ((0, 0), Y0)).2 ∧ WY L (gYl L T 41 ((0, 0), Y0)).2))
    (by
      rintro i ⟨v, g⟩ hi ⟨hv, x, sx, fx, gx, px⟩
      have hv : v = nI i := hv
      subst hv
      have sx' : SC g T x.1.1 x.1.2 := sx
      have es := c_isSound sx'
      have ee := c_isEnd sx'
      by_cases hf : x.1.2 = 0
      · have es : fX7_isSound g = some true := by rw [es, hf]; rfl
        by_cases hk : gTk T x.1.1 = 0
        · have ee : fX7_isAtEnd g = some true := by rw [ee, hk]; rfl
          right
          rw [gYl_0 (Or.inr hk)] at gx
          rw [← gx]
          refine ⟨g, ?_, fx, sx, fun q => ⟨(px q).1, (px q).2.1⟩⟩
          simp (disch := omega) only [↓reduceIte, wlet, Option.bind_some, true_and, and_true, not_true_eq_false, not_false_eq_true, reduceCtorEq, n0_, n1_, n2_, n3_, n4_, n5_, n6_, n7_, n8_, n9_, n10_, n12_, n16_, n18_, n20_, n21_, n22_, n24_, n25_, n26_, n27_, n28_, n29_, n30_, n31_, n32_, n40_, n41_, n42_, n43_, n45_, n48_, n54_, n57_, n58_, n59_, n60_, n61_, n63_, n96_, n97_, n99_, n100_, n122_, n126_, n200_, n255_, n375_, n400_, n1000_, n2000_, n9999_, n5764801_, n1000000_, n3000_, m1, m2, le_t, le_f, lt_t, lt_f, eq_t, eq_f, no_lt, no_le, le_no, lt_no, eq_no, no_eq, add_no, wib_t, clamp, nI_add, pk_mul, pk_sub, nor_, nand_, ndif_, shl_, sh1_, shr_, tbn, tb0, tb1, les_t, les_f, pk_div, rem_, remv, and31, wu1, wuc, wui, wu2, ws1, wsc, ws2, wv1, n11_, n13_, n14_, n15_, n17_, n19_, n23_, n56_, n64_, fX9_readFrom_l11, es, ee]
        · have ee : fX7_isAtEnd g = some false := by rw [ee, decide_eq_false hk]
          left
          obtain ⟨p1, p2, p3⟩ := px hf
          have exx : x = ((x.1.1, 0), x.2) := Prod.ext (Prod.ext rfl hf) rfl
          rw [hf] at sx'
          obtain ⟨g2, e2, s2, f3, y2⟩ := c_one hW (CL_fr hC fx (fun c _ _ => by unfold sy; omega)) sx' p1 p2.1
          rw [← exx] at s2 y2
          refine ⟨(nI (i + 1), g2), ?_, rfl, gOne L T x, s2, fr_tr fx f3, ?_, fun q => ?_⟩
          · simp (disch := omega) only [↓reduceIte, wlet, Option.bind_some, true_and, and_true, not_true_eq_false, not_false_eq_true, reduceCtorEq, n0_, n1_, n2_, n3_, n4_, n5_, n6_, n7_, n8_, n9_, n10_, n12_, n16_, n18_, n20_, n21_, n22_, n24_, n25_, n26_, n27_, n28_, n29_, n30_, n31_, n32_, n40_, n41_, n42_, n43_, n45_, n48_, n54_, n57_, n58_, n59_, n60_, n61_, n63_, n96_, n97_, n99_, n100_, n122_, n126_, n200_, n255_, n375_, n400_, n1000_, n2000_, n9999_, n5764801_, n1000000_, n3000_, m1, m2, le_t, le_f, lt_t, lt_f, eq_t, eq_f, no_lt, no_le, le_no, lt_no, eq_no, no_eq, add_no, wib_t, clamp, nI_add, pk_mul, pk_sub, nor_, nand_, ndif_, shl_, sh1_, shr_, tbn, tb0, tb1, les_t, les_f, pk_div, rem_, remv, and31, wu1, wuc, wui, wu2, ws1, wsc, ws2, wv1, n11_, n13_, n14_, n15_, n17_, n19_, n23_, n56_, n64_, fX9_readFrom_l11, es, ee, e2, Option.isSome_none, Option.isSome_some, Bool.false_eq_true]
          · rw [← gx, show 41 - i = (41 - (i + 1)) + 1 by omega, gYl_s (by omega)]
          · have q' := q
            rw [exx] at q'
            have := gOne_W hW p2 q'
            rw [← exx] at this
            exact ⟨y2 q, this.1, by rw [this.2, p3]⟩
      · have es : fX7_isSound g = some false := by rw [es, decide_eq_false hf]
        right
        rw [gYl_0 (Or.inl hf)] at gx
        rw [← gx]
        refine ⟨g, ?_, fx, sx, fun q => absurd q hf⟩
        simp (disch := omega) only [↓reduceIte, wlet, Option.bind_some, true_and, and_true, not_true_eq_false, not_false_eq_true, reduceCtorEq, n0_, n1_, n2_, n3_, n4_, n5_, n6_, n7_, n8_, n9_, n10_, n12_, n16_, n18_, n20_, n21_, n22_, n24_, n25_, n26_, n27_, n28_, n29_, n30_, n31_, n32_, n40_, n41_, n42_, n43_, n45_, n48_, n54_, n57_, n58_, n59_, n60_, n61_, n63_, n96_, n97_, n99_, n100_, n122_, n126_, n200_, n255_, n375_, n400_, n1000_, n2000_, n9999_, n5764801_, n1000000_, n3000_, m1, m2, le_t, le_f, lt_t, lt_f, eq_t, eq_f, no_lt, no_le, le_no, lt_no, eq_no, no_eq, add_no, wib_t, clamp, nI_add, pk_mul, pk_sub, nor_, nand_, ndif_, shl_, sh1_, shr_, tbn, tb0, tb1, les_t, les_f, pk_div, rem_, remv, and31, wu1, wuc, wui, wu2, ws1, wsc, ws2, wv1, n11_, n13_, n14_, n15_, n17_, n19_, n23_, n56_, n64_, fX9_readFrom_l11, es, Option.isSome_none, Option.isSome_some, Bool.false_eq_true])
    (by
      rintro ⟨v, g⟩ ⟨hv, x, sx, fx, gx, px⟩
      have hv : v = nI 41 := hv
      subst hv
      have hf : x.1.2 ≠ 0 := fun q => by
        have := px q
        have := this.2.1.1
        omega
      rw [gYl_0 (Or.inl hf)] at gx
      rw [← gx]
      refine ⟨g, ?_, fx, sx, fun q => absurd q hf⟩
      simp (disch := omega) only [↓reduceIte, wlet, Option.bind_some, true_and, and_true, not_true_eq_false, not_false_eq_true, reduceCtorEq, n0_, n1_, n2_, n3_, n4_, n5_, n6_, n7_, n8_, n9_, n10_, n12_, n16_, n18_, n20_, n21_, n22_, n24_, n25_, n26_, n27_, n28_, n29_, n30_, n31_, n32_, n40_, n41_, n42_, n43_, n45_, n48_, n54_, n57_, n58_, n59_, n60_, n61_, n63_, n96_, n97_, n99_, n100_, n122_, n126_, n200_, n255_, n375_, n400_, n1000_, n2000_, n9999_, n5764801_, n1000000_, n3000_, m1, m2, le_t, le_f, lt_t, lt_f, eq_t, eq_f, no_lt, no_le, le_no, lt_no, eq_no, no_eq, add_no, wib_t, clamp, nI_add, pk_mul, pk_sub, nor_, nand_, ndif_, shl_, sh1_, shr_, tbn, tb0, tb1, les_t, les_f, pk_div, rem_, remv, and31, wu1, wuc, wui, wu2, ws1, wsc, ws2, wv1, n11_, n13_, n14_, n15_, n17_, n19_, n23_, n56_, n64_, fX9_readFrom_l11])
    (N := 3000) (by omega) (v := (nI 0, g1)) ⟨rfl, ((0, 0), Y0), s1', f12, rfl, fun _ => ⟨y1, w1, hY0⟩⟩
  obtain ⟨p1, p2, p3⟩ := P
  refine ⟨e, ?_, p1, p2, p3⟩
  have e7 : e.1 1 7 = nI (gYl L T 41 ((0, 0), Y0)).1.2 := p2.2.2.2.2.2.2.1
  simp (disch := omega) only [↓reduceIte, wlet, Option.bind_some, true_and, and_true, not_true_eq_false, not_false_eq_true, reduceCtorEq, n0_, n1_, n2_, n3_, n4_, n5_, n6_, n7_, n8_, n9_, n10_, n12_, n16_, n18_, n20_, n21_, n22_, n24_, n25_, n26_, n27_, n28_, n29_, n30_, n31_, n32_, n40_, n41_, n42_, n43_, n45_, n48_, n54_, n57_, n58_, n59_, n60_, n61_, n63_, n96_, n97_, n99_, n100_, n122_, n126_, n200_, n255_, n375_, n400_, n1000_, n2000_, n9999_, n5764801_, n1000000_, n3000_, m1, m2, le_t, le_f, lt_t, lt_f, eq_t, eq_f, no_lt, no_le, le_no, lt_no, eq_no, no_eq, add_no, wib_t, clamp, nI_add, pk_mul, pk_sub, nor_, nand_, ndif_, shl_, sh1_, shr_, tbn, tb0, tb1, les_t, les_f, pk_div, rem_, remv, and31, wu1, wuc, wui, wu2, ws1, wsc, ws2, wv1, n11_, n13_, n14_, n15_, n17_, n19_, n23_, n56_, n64_, fX9_readFrom, fX7_rewind, e1, he, e7]
theorem r_year (hW : WL L) (hM : ML h L) (hT : TM h T) (hWT : WT T) (Y0 : gYr) (hY0 : Y0.1 = 0) : ∃ g, fX11_year h = some (nI (gYl L T 41 ((0, 0), Y0)).1.2, g) ∧ fr (fun c => c = 188 ∨ (215 ≤ c ∧ c ≤ 219)) h g ∧ g.1 188 1 = nI 0 ∧ g.1 188 54 = h.1 188 54 ∧ (∀ j Y, j ≠ 0 → j ≠ 5 → Y.1 ≤ 40 → YM h j Y → j < 5 → YM g j Y) ∧ (∀ Y, (gYl L T 41 ((0, 0), Y0)).1.2 ≠ 0 → Y.1 ≤ 40 → YM h 0 Y → YM g 0 Y) ∧ ((gYl L T 41 ((0, 0), Y0)).1.2 = 0 → YM g 0 (gYl L T 41 ((0, 0), Y0)).2) := by
  have t1 := hT.1
  let k0 := wuI (wuI (wuI (wuI (wuI h 188 0 (nI 0)) 215 5 (nI 0)) 188 3 (nI T.1)) 188 1 (nI 0)) 188 4 (nI 0)
  have f1 : fr (fun c => c = 188 ∨ (215 ≤ c ∧ c ≤ 219)) h k0 := fr_tr (fr_tr (fr_tr (fr_tr (fr_wuI (Or.inl rfl)) (fr_wuI (Or.inr (by omega)))) (fr_wuI (Or.inl rfl))) (fr_wuI (Or.inl rfl))) (fr_wuI (Or.inl rfl))
  have z1 : SZm k0 T := by
    refine ⟨?_, fun i hi => ?_⟩
    · show (wuI (wuI (wuI (wuI (wuI h 188 0 (nI 0)) 215 5 (nI 0)) 188 3 (nI T.1)) 188 1 (nI 0)) 188 4 (nI 0)).1 188 3 = nI T.1
      rw [wui (by omega), wui (by omega)]; exact wu1
    · rw [fr_at f1 (by omega)]; exact hT.2 i hi
  obtain ⟨g1, e1, s1', j1⟩ := r_nextAt (b := 0) z1 hWT (by omega) wu1
  have k1 := RK_J j1
  have e1 : fX11_nextToken (wuI (wuI (wuI (wuI (wuI h 188 0 (nI 0)) 215 5 (nI 0)) 188 3 (nI T.1)) 188 1 (nI 0)) 188 4 (nI 0)) = some g1 := e1
  have y1 : YM g1 5 Y0 := by
    refine ⟨?_, fun i hi => by omega⟩
    rw [hY0, fr_at k1.1 (by unfold s188; omega)]
    show (wuI (wuI (wuI (wuI (wuI h 188 0 (nI 0)) 215 5 (nI 0)) 188 3 (nI T.1)) 188 1 (nI 0)) 188 4 (nI 0)).1 215 5 = nI 0
    rw [wuc (by omega), wuc (by omega), wuc (by omega)]; exact wu1
  have w1 : WY L Y0 := ⟨by omega, fun i hi => by omega⟩
  obtain ⟨e, he, P⟩ := wit_or (b := fun v : (wSt) => fX11_year_l16 v) 41
    (fun i v => ∃ b Y, SM v T b ∧ RY k0 v ∧ YM v 5 Y ∧ WY L Y ∧ Y.1 = i ∧ gYl L T (41 - i) ((b, 0), Y) = gYl L T 41 ((0, 0), Y0))
    (fun e => match e with | .inl g => (gYl L T 41 ((0, 0), Y0)).1.2 ≠ 0 ∧ g.1 188 9 = nI (gYl L T 41 ((0, 0), Y0)).1.2 ∧ RY k0 g | .inr g => (gYl L T 41 ((0, 0), Y0)).1.2 = 0 ∧ YM g 5 (gYl L T 41 ((0, 0), Y0)).2 ∧ WY L (gYl L T 41 ((0, 0), Y0)).2 ∧ RY k0 g)
    (by
      rintro i v hi ⟨b, Y, sb, rv, yv, wv, yi, gx⟩
      by_cases hk : gTk T b = 0
      · right
        rw [gYl_0 (Or.inr hk)] at gx
        refine ⟨.inr v, ?_, ?_⟩
        · have h6 : v.1 188 6 = nI 0 := by rw [sb.2.2.2.1, hk]
          simp (disch := omega) only [↓reduceIte, wlet, Option.bind_some, true_and, and_true, not_true_eq_false, not_false_eq_true, reduceCtorEq, n0_, n1_, n2_, n3_, n4_, n5_, n6_, n7_, n8_, n9_, n10_, n12_, n16_, n18_, n20_, n21_, n22_, n24_, n25_, n26_, n27_, n28_, n29_, n30_, n31_, n32_, n40_, n41_, n42_, n43_, n45_, n48_, n54_, n57_, n58_, n59_, n60_, n61_, n63_, n96_, n97_, n99_, n100_, n122_, n126_, n200_, n255_, n375_, n400_, n1000_, n2000_, n9999_, n5764801_, n1000000_, n3000_, m1, m2, le_t, le_f, lt_t, lt_f, eq_t, eq_f, no_lt, no_le, le_no, lt_no, eq_no, no_eq, add_no, wib_t, clamp, nI_add, pk_mul, pk_sub, nor_, nand_, ndif_, shl_, sh1_, shr_, tbn, tb0, tb1, les_t, les_f, pk_div, rem_, remv, and31, wu1, wuc, wui, wu2, ws1, wsc, ws2, wv1, n11_, n13_, n14_, n15_, n17_, n19_, n23_, n56_, n64_, fX11_year_l16, h6]
        · show (gYl L T 41 ((0, 0), Y0)).1.2 = 0 ∧ YM v 5 (gYl L T 41 ((0, 0), Y0)).2 ∧ WY L (gYl L T 41 ((0, 0), Y0)).2 ∧ RY k0 v
          rw [← gx]
          exact ⟨rfl, yv, wv, rv⟩
      · have h6 : v.1 188 6 = nI (gTk T b) := sb.2.2.2.1
        have hk4 : gTk T b ≤ 4 := gTk_0 sb.2.2.1
        obtain ⟨r, g, e2, o2, r2, y2⟩ := r_one hW (ML_fr hM (fr_tr f1 rv.1) (fun c _ _ => by omega)) sb yv wv.1
        rw [show 41 - i = (41 - (i + 1)) + 1 by omega, gYl_s (by show ¬ ((0 : Nat) ≠ 0 ∨ gTk T b = 0); omega)] at gx
        by_cases hq : (gOne L T ((b, 0), Y)).1.2 = 0
        · left
          obtain ⟨hr, sg⟩ := o2.1 hq
          subst hr
          obtain ⟨w3, c3⟩ := gOne_W hW wv hq
          refine ⟨g, ?_, (gOne L T ((b, 0), Y)).1.1, (gOne L T ((b, 0), Y)).2, sg, RY_tr rv r2, y2 rfl, w3, by omega, ?_⟩
          · simp (disch := omega) only [↓reduceIte, wlet, Option.bind_some, true_and, and_true, not_true_eq_false, not_false_eq_true, reduceCtorEq, n0_, n1_, n2_, n3_, n4_, n5_, n6_, n7_, n8_, n9_, n10_, n12_, n16_, n18_, n20_, n21_, n22_, n24_, n25_, n26_, n27_, n28_, n29_, n30_, n31_, n32_, n40_, n41_, n42_, n43_, n45_, n48_, n54_, n57_, n58_, n59_, n60_, n61_, n63_, n96_, n97_, n99_, n100_, n122_, n126_, n200_, n255_, n375_, n400_, n1000_, n2000_, n9999_, n5764801_, n1000000_, n3000_, m1, m2, le_t, le_f, lt_t, lt_f, eq_t, eq_f, no_lt, no_le, le_no, lt_no, eq_no, no_eq, add_no, wib_t, clamp, nI_add, pk_mul, pk_sub, nor_, nand_, ndif_, shl_, sh1_, shr_, tbn, tb0, tb1, les_t, les_f, pk_div, rem_, remv, and31, wu1, wuc, wui, wu2, ws1, wsc, ws2, wv1, n11_, n13_, n14_, n15_, n17_, n19_, n23_, n56_, n64_, fX11_year_l16, h6, e2]
          · rw [← gx]
            have : gOne L T ((b, 0), Y) = (((gOne L T ((b, 0), Y)).1.1, 0), (gOne L T ((b, 0), Y)).2) := Prod.ext (Prod.ext rfl hq) rfl
            rw [← this]
        · right
          obtain ⟨hr, s9⟩ := o2.2 hq
          subst hr
          rw [gYl_0 (Or.inl hq)] at gx
          refine ⟨.inl g, ?_, ?_⟩
          · simp (disch := omega) only [↓reduceIte, wlet, Option.bind_some, true_and, and_true, not_true_eq_false, not_false_eq_true, reduceCtorEq, n0_, n1_, n2_, n3_, n4_, n5_, n6_, n7_, n8_, n9_, n10_, n12_, n16_, n18_, n20_, n21_, n22_, n24_, n25_, n26_, n27_, n28_, n29_, n30_, n31_, n32_, n40_, n41_, n42_, n43_, n45_, n48_, n54_, n57_, n58_, n59_, n60_, n61_, n63_, n96_, n97_, n99_, n100_, n122_, n126_, n200_, n255_, n375_, n400_, n1000_, n2000_, n9999_, n5764801_, n1000000_, n3000_, m1, m2, le_t, le_f, lt_t, lt_f, eq_t, eq_f, no_lt, no_le, le_no, lt_no, eq_no, no_eq, add_no, wib_t, clamp, nI_add, pk_mul, pk_sub, nor_, nand_, ndif_, shl_, sh1_, shr_, tbn, tb0, tb1, les_t, les_f, pk_div, rem_, remv, and31, wu1, wuc, wui, wu2, ws1, wsc, ws2, wv1, n11_, n13_, n14_, n15_, n17_, n19_, n23_, n56_, n64_, fX11_year_l16, h6, e2, Option.isSome_none, Option.isSome_some, Bool.false_eq_true]
          · show (gYl L T 41 ((0, 0), Y0)).1.2 ≠ 0 ∧ g.1 188 9 = nI (gYl L T 41 ((0, 0), Y0)).1.2 ∧ RY k0 g
            rw [← gx]
            exact ⟨hq, s9, RY_tr rv r2⟩)
    (by
      rintro v ⟨b, Y, sb, rv, yv, wv, yi, gx⟩
      have := wv.1
      omega)
    (N := 3000) (by omega) (v := g1) ⟨0, Y0, s1', RY_K k1, y1, w1, hY0, rfl⟩
  have k01 : k0.1 188 1 = nI 0 := by
    show (wuI (wuI (wuI (wuI (wuI h 188 0 (nI 0)) 215 5 (nI 0)) 188 3 (nI T.1)) 188 1 (nI 0)) 188 4 (nI 0)).1 188 1 = nI 0
    rw [wui (by omega)]; exact wu1
  have k54 : k0.1 188 54 = h.1 188 54 := by
    show (wuI (wuI (wuI (wuI (wuI h 188 0 (nI 0)) 215 5 (nI 0)) 188 3 (nI T.1)) 188 1 (nI 0)) 188 4 (nI 0)).1 188 54 = h.1 188 54
    rw [wui (by omega), wui (by omega), wui (by omega), wuc (by omega), wui (by omega)]
  have kY : ∀ g, RY k0 g → ∀ j Y, j < 5 → Y.1 ≤ 40 → YM h j Y → YM g j Y := by
    intro g rg j Y hj hy a
    have c5 : ∀ q, q ≠ 5 → g.1 215 q = h.1 215 q := fun q hq => by
      rw [rg.2.2.1 q hq]
      show (wuI (wuI (wuI (wuI (wuI h 188 0 (nI 0)) 215 5 (nI 0)) 188 3 (nI T.1)) 188 1 (nI 0)) 188 4 (nI 0)).1 215 q = h.1 215 q
      rw [wuc (by omega), wuc (by omega), wuc (by omega), wui hq, wuc (by omega)]
    have cc : ∀ c, 216 ≤ c → c ≤ 219 → ∀ q, q < 200 → g.1 c q = h.1 c q := fun c h1 h2 q hq => by
      rw [rg.2.2.2 c h1 h2 q hq]
      show (wuI (wuI (wuI (wuI (wuI h 188 0 (nI 0)) 215 5 (nI 0)) 188 3 (nI T.1)) 188 1 (nI 0)) 188 4 (nI 0)).1 c q = h.1 c q
      rw [wuc (by omega), wuc (by omega), wuc (by omega), wuc (by omega), wuc (by omega)]
    refine ⟨by rw [c5 j (by omega)]; exact a.1, fun i hi => ?_⟩
    rw [cc 216 (by omega) (by omega) _ (by omega), cc 217 (by omega) (by omega) _ (by omega), cc 218 (by omega) (by omega) _ (by omega), cc 219 (by omega) (by omega) _ (by omega)]
    exact a.2 i hi
  cases e with
  | inl g =>
    obtain ⟨p1, p2, p3⟩ : (gYl L T 41 ((0, 0), Y0)).1.2 ≠ 0 ∧ g.1 188 9 = nI (gYl L T 41 ((0, 0), Y0)).1.2 ∧ RY k0 g := P
    refine ⟨g, ?_, fr_tr f1 p3.1, ?_, ?_, fun j Y _ _ hy a hj => kY g p3 j Y hj hy a, fun Y _ hy a => kY g p3 0 Y (by omega) hy a, fun q => absurd q p1⟩
    · simp (disch := omega) only [↓reduceIte, wlet, Option.bind_some, true_and, and_true, not_true_eq_false, not_false_eq_true, reduceCtorEq, n0_, n1_, n2_, n3_, n4_, n5_, n6_, n7_, n8_, n9_, n10_, n12_, n16_, n18_, n20_, n21_, n22_, n24_, n25_, n26_, n27_, n28_, n29_, n30_, n31_, n32_, n40_, n41_, n42_, n43_, n45_, n48_, n54_, n57_, n58_, n59_, n60_, n61_, n63_, n96_, n97_, n99_, n100_, n122_, n126_, n200_, n255_, n375_, n400_, n1000_, n2000_, n9999_, n5764801_, n1000000_, n3000_, m1, m2, le_t, le_f, lt_t, lt_f, eq_t, eq_f, no_lt, no_le, le_no, lt_no, eq_no, no_eq, add_no, wib_t, clamp, nI_add, pk_mul, pk_sub, nor_, nand_, ndif_, shl_, sh1_, shr_, tbn, tb0, tb1, les_t, les_f, pk_div, rem_, remv, and31, wu1, wuc, wui, wu2, ws1, wsc, ws2, wv1, n11_, n13_, n14_, n15_, n17_, n19_, n23_, n56_, n64_, fX11_year, fX11_begins, t1, e1, he, p2]
    · rw [p3.2.1 1 (by omega) (by omega) (by omega) (by omega) (by omega) (by omega)]; exact k01
    · rw [p3.2.1 54 (by omega) (by omega) (by omega) (by omega) (by omega) (by omega)]; exact k54
  | inr g =>
    obtain ⟨p1, p2, p4, p3⟩ : (gYl L T 41 ((0, 0), Y0)).1.2 = 0 ∧ YM g 5 (gYl L T 41 ((0, 0), Y0)).2 ∧ WY L (gYl L T 41 ((0, 0), Y0)).2 ∧ RY k0 g := P
    obtain ⟨g2, e2, f2, g0, gq⟩ := r_laysLines g (a := 5) (b := 0) (by omega) (by omega) (by omega)
    refine ⟨g2, ?_, fr_tr (fr_tr f1 p3.1) (fr_mono f2 (fun c q => Or.inr q)), ?_, ?_, fun j Y hj0 _ hy a hj => YM_lays2 hy hj0 g0 gq (kY g p3 j Y hj hy a), fun Y q => absurd p1 q, fun _ => YM_lays p4.1 g0 gq p2⟩
    · simp (disch := omega) only [↓reduceIte, wlet, Option.bind_some, true_and, and_true, not_true_eq_false, not_false_eq_true, reduceCtorEq, n0_, n1_, n2_, n3_, n4_, n5_, n6_, n7_, n8_, n9_, n10_, n12_, n16_, n18_, n20_, n21_, n22_, n24_, n25_, n26_, n27_, n28_, n29_, n30_, n31_, n32_, n40_, n41_, n42_, n43_, n45_, n48_, n54_, n57_, n58_, n59_, n60_, n61_, n63_, n96_, n97_, n99_, n100_, n122_, n126_, n200_, n255_, n375_, n400_, n1000_, n2000_, n9999_, n5764801_, n1000000_, n3000_, m1, m2, le_t, le_f, lt_t, lt_f, eq_t, eq_f, no_lt, no_le, le_no, lt_no, eq_no, no_eq, add_no, wib_t, clamp, nI_add, pk_mul, pk_sub, nor_, nand_, ndif_, shl_, sh1_, shr_, tbn, tb0, tb1, les_t, les_f, pk_div, rem_, remv, and31, wu1, wuc, wui, wu2, ws1, wsc, ws2, wv1, n11_, n13_, n14_, n15_, n17_, n19_, n23_, n56_, n64_, fX11_year, fX11_begins, t1, e1, he, e2, p1]
    · rw [fr_at f2 (by omega), p3.2.1 1 (by omega) (by omega) (by omega) (by omega) (by omega) (by omega)]; exact k01
    · rw [fr_at f2 (by omega), p3.2.1 54 (by omega) (by omega) (by omega) (by omega) (by omega) (by omega)]; exact k54
theorem op_year {k : Nat} (hI : Inv k h) : ∃ r h1 h2, fX10_year h = some (r, h1) ∧ fX11_year h1 = some (r, h2) ∧ Inv k h2 := by
  obtain ⟨L, S, u, M, Y, N, T, W, C, R⟩ := hI
  obtain ⟨c1, c2, c3, c4, c5, c6, c7⟩ := C
  obtain ⟨w1, w2, w3, w4, w5, w6, w7, w8⟩ := W
  obtain ⟨g, e1, f1, s1', y1⟩ := c_readFrom w1 c1 c7 w8 (0, Y.2) rfl
  have fc : fr (fun c => c = 1) g (wuI g 1 1 (nI 0)) := fr_wuI rfl
  have key : ∃ h1 Y2, fX10_year h = some (nI (gYl L T 41 ((0, 0), (0, Y.2))).1.2, h1) ∧ fr (fun c => c = 1 ∨ (39 ≤ c ∧ c ≤ 42)) h h1 ∧ h1.1 1 1 = nI 0 ∧ YC h1 39 Y2 ∧ WY L Y2 ∧ ((gYl L T 41 ((0, 0), (0, Y.2))).1.2 ≠ 0 → Y2 = Y) ∧ ((gYl L T 41 ((0, 0), (0, Y.2))).1.2 = 0 → Y2 = (gYl L T 41 ((0, 0), (0, Y.2))).2) := by
    have f1' : fr (fun c => c = 1 ∨ (39 ≤ c ∧ c ≤ 42)) h (wuI g 1 1 (nI 0)) := fr_tr (fr_mono f1 (fun c q => by unfold sy at q; omega)) (fr_mono fc (fun c q => Or.inl q))
    have hf := s1'.2.2.2.2.2.2.2.1
    revert e1 y1 hf
    generalize gYl L T 41 ((0, 0), (0, Y.2)) = X
    intro e1 y1 hf
    by_cases hq : X.1.2 = 0
    · obtain ⟨y2, y3⟩ := y1 hq
      obtain ⟨g3, e3, y4, f3⟩ := c_ycopy (wuI g 1 1 (nI 0)) (a := 39) (b := 41) (YC_fr y2 fc (by omega) (by omega)) y3.1 (by omega)
      refine ⟨g3, X.2, ?_, fr_tr f1' (fr_mono f3 (fun c q => by omega)), ?_, y4, y3, fun q => absurd hq q, fun _ => rfl⟩
      · rw [hq] at e1 ⊢
        simp (disch := omega) only [↓reduceIte, wlet, Option.bind_some, true_and, and_true, not_true_eq_false, not_false_eq_true, reduceCtorEq, n0_, n1_, n2_, n3_, n4_, n5_, n6_, n7_, n8_, n9_, n10_, n12_, n16_, n18_, n20_, n21_, n22_, n24_, n25_, n26_, n27_, n28_, n29_, n30_, n31_, n32_, n40_, n41_, n42_, n43_, n45_, n48_, n54_, n57_, n58_, n59_, n60_, n61_, n63_, n96_, n97_, n99_, n100_, n122_, n126_, n200_, n255_, n375_, n400_, n1000_, n2000_, n9999_, n5764801_, n1000000_, n3000_, m1, m2, le_t, le_f, lt_t, lt_f, eq_t, eq_f, no_lt, no_le, le_no, lt_no, eq_no, no_eq, add_no, wib_t, clamp, nI_add, pk_mul, pk_sub, nor_, nand_, ndif_, shl_, sh1_, shr_, tbn, tb0, tb1, les_t, les_f, pk_div, rem_, remv, and31, wu1, wuc, wui, wu2, ws1, wsc, ws2, wv1, n11_, n13_, n14_, n15_, n17_, n19_, n23_, n56_, n64_, fX10_year, fX7_clear, e1, e3]
      · rw [fr_at f3 (by omega)]; exact wu1
    · refine ⟨wuI g 1 1 (nI 0), Y, ?_, f1', wu1, ?_, w6, fun _ => rfl, fun q => absurd q hq⟩
      · simp (disch := omega) only [↓reduceIte, wlet, Option.bind_some, true_and, and_true, not_true_eq_false, not_false_eq_true, reduceCtorEq, n0_, n1_, n2_, n3_, n4_, n5_, n6_, n7_, n8_, n9_, n10_, n12_, n16_, n18_, n20_, n21_, n22_, n24_, n25_, n26_, n27_, n28_, n29_, n30_, n31_, n32_, n40_, n41_, n42_, n43_, n45_, n48_, n54_, n57_, n58_, n59_, n60_, n61_, n63_, n96_, n97_, n99_, n100_, n122_, n126_, n200_, n255_, n375_, n400_, n1000_, n2000_, n9999_, n5764801_, n1000000_, n3000_, m1, m2, le_t, le_f, lt_t, lt_f, eq_t, eq_f, no_lt, no_le, le_no, lt_no, eq_no, no_eq, add_no, wib_t, clamp, nI_add, pk_mul, pk_sub, nor_, nand_, ndif_, shl_, sh1_, shr_, tbn, tb0, tb1, les_t, les_f, pk_div, rem_, remv, and31, wu1, wuc, wui, wu2, ws1, wsc, ws2, wv1, n11_, n13_, n14_, n15_, n17_, n19_, n23_, n56_, n64_, fX10_year, fX7_clear, e1]
      · exact YC_fr (YC_fr c5 f1 (by unfold sy; omega) (by unfold sy; omega)) fc (by omega) (by omega)
  obtain ⟨h1, Y2, e2, f2, t2, y2, wy2, n1, n2⟩ := key
  have R1 := MI_cls R (fr_mono f2 (fun c q => by unfold cls; omega))
  obtain ⟨r1, r2, r3, r4, r5, r6, r7⟩ := R1
  obtain ⟨h2, e3, f3, t3, u3, m3, b3, a3⟩ := r_year w1 r1 r7 w8 (0, Y.2) rfl
  refine ⟨_, h1, h2, e2, e3, L, S, u, M, Y2, N, (0, T.2), ⟨w1, w2, w3, w4, w5, wy2, w7, by show (0 : Nat) ≤ 1000; omega, fun i hi => absurd hi (Nat.not_lt_zero i)⟩, CI_ref ⟨CL_fr c1 f2 (fun c _ _ => by omega), SH_fr c2 f2 (fun c _ _ => by omega), UC_fr c3 f2 (fun c _ _ => by omega), BC_fr c4 f2 (fun c _ _ => by omega), y2, NC_fr c6 f2 (fun c _ _ => by omega), t2, fun i hi => absurd hi (Nat.not_lt_zero i)⟩ (fr_mono f3 (fun c q => by unfold ref; omega)), ?_⟩
  refine ⟨ML_fr r1 f3 (fun c _ _ => by omega), MS_fr r2 f3 (by omega), UM_fr r3 f3 u3 (by omega), ?_, ?_, NM_fr r6 f3 (fun c _ _ => by omega), t3, fun i hi => absurd hi (Nat.not_lt_zero i)⟩
  · intro i hi
    obtain ⟨a1, a2⟩ := r4 i hi
    refine ⟨by rw [fr_at f3 (by omega)]; exact a1, fun s y n hm => ?_⟩
    obtain ⟨b1, b2, b4⟩ := a2 s y n hm
    exact ⟨MS_fr b1 f3 (by omega), m3 (1 + i) y (by omega) (by omega) (w5 i s y n hm).2.2.1.1 b2 (by omega), NM_fr b4 f3 (fun c _ _ => by omega)⟩
  · by_cases hq : (gYl L T 41 ((0, 0), (0, Y.2))).1.2 = 0
    · rw [n2 hq]; exact a3 hq
    · rw [n1 hq]; exact b3 Y hq w6.1 r5
end G64

/-! THE OTHER SIDE tries all; the first of the best -/
theorem bt_lt {o : Option Nat} {a b : Nat} (h1 : bt o a) (h2 : ¬ bt o b) : b < a := by
  cases o with
  | none => exact absurd trivial h2
  | some m =>
    have h1 : m < a := h1
    have h2 : ¬ m < b := h2
    omega
theorem bt_mono {o : Option Nat} {a b : Nat} (h1 : bt o a) (h2 : a ≤ b) : bt o b := by
  cases o with
  | none => trivial
  | some m =>
    have h1 : m < a := h1
    show m < b
    omega
theorem bt_r {o : Option Nat} {n : Nat} (ho : ∀ m, o = some m → m ≤ 6) (hn : n < 1000) (h : bt o n) : (rI o < nI n) = True := by
  cases o with
  | none => exact no_lt (by omega)
  | some m => exact lt_t h (by omega)
theorem bt_f {o : Option Nat} {n : Nat} (ho : ∀ m, o = some m → m ≤ 6) (hn : n < 1000) (h : ¬ bt o n) : (rI o < nI n) = False := by
  cases o with
  | none => exact absurd trivial h
  | some m =>
    have h : ¬ m < n := h
    have := ho m rfl
    exact lt_f (by omega) (by omega)
def sW (c : Nat) : Prop := c = 188 ∨ c = 225 ∨ c = 231 ∨ c = 232
def wV (F l : Nat) (ls : List Nat) (p : Nat) : Nat := 1 + bst ls (bdf F (blk p l))
def wCur (F l : Nat) (ls : List Nat) (many : Nat) (o : Option Nat) : Option Nat → Option Nat
  | none => o
  | some q => some (many + wV F l ls q)
/-- what has been found among the places before p -/
def wJ (h g : wSt) (T t F l : Nat) (ls : List Nat) (many : Nat) (o : Option Nat) (p : Nat) : Option Nat → Prop
  | none => (∀ j, j < T → g.1 232 j = h.1 232 j) ∧ ∀ q, q < p → fit F q l = true → ¬ bt o (many + wV F l ls q)
  | some q => q < p ∧ fit F q l = true ∧ bt o (many + wV F l ls q) ∧ (∀ q2, q2 < p → fit F q2 l = true → wV F l ls q2 ≤ wV F l ls q) ∧ (∀ q2, q2 < q → fit F q2 l = true → wV F l ls q2 < wV F l ls q) ∧ ∀ j, j < T → g.1 232 j = if j < t then h.1 231 j else if j = t then nI q else rI ((grd ls (bdf F (blk q l)) (bst ls (bdf F (blk q l)))).getD (j - (t + 1)) none)
theorem wJ_up {h g g2 : wSt} {T t F l many p : Nat} {ls : List Nat} {o x : Option Nat} (hJ : wJ h g T t F l ls many o p x) (hn : fit F p l = true → ¬ bt (wCur F l ls many o x) (many + wV F l ls p)) (e : ∀ j, j < T → g2.1 232 j = g.1 232 j) : wJ h g2 T t F l ls many o (p + 1) x := by
  cases x with
  | none =>
    obtain ⟨h1, h2⟩ := hJ
    refine ⟨fun j hj => (e j hj).trans (h1 j hj), fun q hq hf => ?_⟩
    by_cases eq : q = p
    · subst eq; exact hn hf
    · exact h2 q (by omega) hf
  | some q =>
    obtain ⟨h1, h2, h3, h4, h5, h6⟩ := hJ
    refine ⟨by omega, h2, h3, fun q2 hq hf => ?_, h5, fun j hj => (e j hj).trans (h6 j hj)⟩
    by_cases eq : q2 = p
    · subst eq
      have : ¬ many + wV F l ls q < many + wV F l ls q2 := hn hf
      omega
    · exact h4 q2 (by omega) hf
section G55
variable {L : gLib}
theorem r_leaf (h : wSt) (rec0 : wSt → Int32 → Int32 → Option (wSt)) : ∃ g, wit (fun v : (Int32 × wSt) => fX11_writesAll_l35 rec0 v.2 v.1) 3000 (nI 0, h) = some g ∧ fr (fun c => c = 232) h g ∧ ∀ j, j < 6 → g.1 232 j = h.1 231 j := by
  obtain ⟨e, he, e1, e2⟩ := wit_for (b := fun v : (Int32 × wSt) => fX11_writesAll_l35 rec0 v.2 v.1) (fun _ (u : Unit) => u) 6
    (fun m _ v => ∃ g, v = (nI m, g) ∧ fr (fun c => c = 232) h g ∧ ∀ j, j < m → g.1 232 j = h.1 231 j) (fun _ g => fr (fun c => c = 232) h g ∧ ∀ j, j < 6 → g.1 232 j = h.1 231 j)
    (by
      rintro m _ v hm ⟨g, rfl, fg, gq⟩
      have e1 : g.1 231 m = h.1 231 m := by rw [fr_at fg (by omega)]
      refine ⟨(nI (m + 1), wuI g 232 m (h.1 231 m)), ?_, _, rfl, fr_tr fg (fr_wuI rfl), fun j hj => ?_⟩
      · simp (disch := omega) only [↓reduceIte, wlet, Option.bind_some, true_and, and_true, not_true_eq_false, not_false_eq_true, reduceCtorEq, n0_, n1_, n2_, n3_, n4_, n5_, n6_, n7_, n8_, n9_, n10_, n12_, n16_, n18_, n20_, n21_, n22_, n24_, n25_, n26_, n27_, n28_, n29_, n30_, n31_, n32_, n40_, n41_, n42_, n43_, n45_, n48_, n54_, n57_, n58_, n59_, n60_, n61_, n63_, n96_, n97_, n99_, n100_, n122_, n126_, n200_, n255_, n375_, n400_, n1000_, n2000_, n9999_, n5764801_, n1000000_, n3000_, m1, m2, le_t, le_f, lt_t, lt_f, eq_t, eq_f, no_lt, no_le, le_no, lt_no, eq_no, no_eq, add_no, wib_t, clamp, nI_add, pk_mul, pk_sub, nor_, nand_, ndif_, shl_, sh1_, shr_, tbn, tb0, tb1, les_t, les_f, pk_div, rem_, remv, and31, wu1, wuc, wui, wu2, ws1, wsc, ws2, wv1, n11_, n13_, n14_, n15_, n17_, n19_, n23_, n56_, n64_, fX11_writesAll_l35, e1]
      · rw [wuS]
        by_cases e : j = m
        · rw [if_pos e, e]
        · rw [if_neg e]; exact gq j (by omega))
    (by
      rintro _ v ⟨g, rfl, hg⟩
      refine ⟨g, ?_, hg⟩
      simp (disch := omega) only [↓reduceIte, wlet, Option.bind_some, true_and, and_true, not_true_eq_false, not_false_eq_true, reduceCtorEq, n0_, n1_, n2_, n3_, n4_, n5_, n6_, n7_, n8_, n9_, n10_, n12_, n16_, n18_, n20_, n21_, n22_, n24_, n25_, n26_, n27_, n28_, n29_, n30_, n31_, n32_, n40_, n41_, n42_, n43_, n45_, n48_, n54_, n57_, n58_, n59_, n60_, n61_, n63_, n96_, n97_, n99_, n100_, n122_, n126_, n200_, n255_, n375_, n400_, n1000_, n2000_, n9999_, n5764801_, n1000000_, n3000_, m1, m2, le_t, le_f, lt_t, lt_f, eq_t, eq_f, no_lt, no_le, le_no, lt_no, eq_no, no_eq, add_no, wib_t, clamp, nI_add, pk_mul, pk_sub, nor_, nand_, ndif_, shl_, sh1_, shr_, tbn, tb0, tb1, les_t, les_f, pk_div, rem_, remv, and31, wu1, wuc, wui, wu2, ws1, wsc, ws2, wv1, n11_, n13_, n14_, n15_, n17_, n19_, n23_, n56_, n64_, fX11_writesAll_l35])
    (N := 3000) (by omega) (a0 := ()) (v0 := (nI 0, h)) ⟨h, rfl, fr_rf, fun j hj => absurd hj (Nat.not_lt_zero _)⟩
  exact ⟨e, he, e1, e2⟩
theorem r_wall (hW : WL L) : ∀ (fu r : Nat), r < fu → r ≤ gnt L → ∀ (h : wSt) (S : gSh) (F many : Nat) (o : Option Nat), MX h L S → FM L S F → h.1 188 57 = rI o → (∀ m, o = some m → m ≤ 6) → many + r ≤ 6 →
    ∃ g, fX11_writesAll fu h (nI (gnt L - r)) (nI many) = some g ∧ MX g L S ∧ fr sW h g ∧ (∀ j, j ≠ 57 → g.1 188 j = h.1 188 j) ∧ (∀ j, j < gnt L - r → g.1 231 j = h.1 231 j)
      ∧ (bt o (many + bst (tlr L r) F) → g.1 188 57 = nI (many + bst (tlr L r) F) ∧ ∀ j, j < gnt L → g.1 232 j = if j < gnt L - r then h.1 231 j else rI ((grd (tlr L r) F (bst (tlr L r) F)).getD (j - (gnt L - r)) none))
      ∧ (¬ bt o (many + bst (tlr L r) F) → g.1 188 57 = h.1 188 57 ∧ ∀ j, j < gnt L → g.1 232 j = h.1 232 j)
  | 0, r, hf, hr, h, S, F, many, o, hx, hF, ho, ho6, hm => by omega
  | fu + 1, r, hf, hr, h, S, F, many, o, hx, hF, ho, ho6, hm => by
    have n1 := hW.1
    have n2 := hW.2.1
    have c2 := hx.2.1.2.1
    have hbl := bst_le (tlr L r) F
    rw [tlr_len] at hbl
    have ea : many + gnt L - (gnt L - r) = many + r := by omega
    rw [fX11_writesAll]
    by_cases hb : bt o (many + r)
    · have hlt := bt_r ho6 (by omega) hb
      cases r with
      | zero =>
        obtain ⟨g, eg, fg, gq⟩ := r_leaf (wuI h 188 57 (nI many)) (fX11_writesAll fu)
        have f0 : fr sW h (wuI h 188 57 (nI many)) := fr_wuI (Or.inl rfl)
        have fgW : fr sW (wuI h 188 57 (nI many)) g := fr_mono fg (fun c q => by unfold sW; omega)
        refine ⟨g, ?_, ⟨hW, ML_fr hx.2.1 (fr_tr f0 fgW) (fun c _ _ => by unfold sW; omega), hx.2.2.1, MS_fr (MS_fr hx.2.2.2 (fr_wuI (P := fun c => c = 188) rfl) (by omega)) fg (by omega)⟩, fr_tr f0 fgW, fun j hj => ?_, fun j hj => ?_, fun _ => ⟨?_, fun j hj => ?_⟩, fun q => absurd hb q⟩
        · rw [Nat.sub_zero] at ea ⊢
          simp (disch := omega) only [↓reduceIte, wlet, Option.bind_some, true_and, and_true, not_true_eq_false, not_false_eq_true, reduceCtorEq, n0_, n1_, n2_, n3_, n4_, n5_, n6_, n7_, n8_, n9_, n10_, n12_, n16_, n18_, n20_, n21_, n22_, n24_, n25_, n26_, n27_, n28_, n29_, n30_, n31_, n32_, n40_, n41_, n42_, n43_, n45_, n48_, n54_, n57_, n58_, n59_, n60_, n61_, n63_, n96_, n97_, n99_, n100_, n122_, n126_, n200_, n255_, n375_, n400_, n1000_, n2000_, n9999_, n5764801_, n1000000_, n3000_, m1, m2, le_t, le_f, lt_t, lt_f, eq_t, eq_f, no_lt, no_le, le_no, lt_no, eq_no, no_eq, add_no, wib_t, clamp, nI_add, pk_mul, pk_sub, nor_, nand_, ndif_, shl_, sh1_, shr_, tbn, tb0, tb1, les_t, les_f, pk_div, rem_, remv, and31, wu1, wuc, wui, wu2, ws1, wsc, ws2, wv1, n11_, n13_, n14_, n15_, n17_, n19_, n23_, n56_, n64_, fX11_writesAll_b0, ho, c2, ea, hlt, eg]
        · rw [fr_at fg (by omega), wui hj]
        · rw [fr_at fg (by omega), wuc (by omega)]
        · rw [fr_at fg (by omega), wu1]; rfl
        · rw [gq j (by omega), wuc (by omega), Nat.sub_zero, if_pos hj]
      | succ r =>
        have ht : gnt L - (r + 1) < gnt L := by omega
        have et : gnt L - r = gnt L - (r + 1) + 1 := by omega
        have etl : tlr L (r + 1) = gtl L (gnt L - (r + 1)) :: tlr L r := rfl
        rw [etl]
        obtain ⟨-, -, t1, t2, -⟩ := hW.2.2.2.2.1 _ ht
        have IH := r_wall hW fu r (by omega) (by omega)
        have hVb : ∀ p, wV F (gtl L (gnt L - (r + 1))) (tlr L r) p ≤ 1 + r := fun p => by
          have := bst_le (tlr L r) (bdf F (blk p (gtl L (gnt L - (r + 1)))))
          rw [tlr_len] at this
          unfold wV
          omega
        have hC6 : ∀ x m, wCur F (gtl L (gnt L - (r + 1))) (tlr L r) many o x = some m → m ≤ 6 := by
          intro x m hxm
          cases x with
          | none => exact ho6 m hxm
          | some q =>
            have := Option.some.inj hxm
            have := hVb q
            omega
        obtain ⟨g1, e1, x1, hx1, fg1, gj1, gr1, gm1, J1⟩ := wit_for (b := fun v : (Int32 × wSt) => fX11_writesAll_l62 (fX11_writesAll fu) v.2 (nI (gnt L - (r + 1))) (nI many) v.1) (fun _ (u : Unit) => u) (6 * gns L)
          (fun p _ v => ∃ g x, v = (nI p, g) ∧ MX g L S ∧ fr sW h g ∧ (∀ j, j ≠ 57 → g.1 188 j = h.1 188 j) ∧ (∀ j, j < gnt L - (r + 1) → g.1 231 j = h.1 231 j) ∧ g.1 188 57 = rI (wCur F (gtl L (gnt L - (r + 1))) (tlr L r) many o x) ∧ wJ h g (gnt L) (gnt L - (r + 1)) F (gtl L (gnt L - (r + 1))) (tlr L r) many o p x)
          (fun _ g => ∃ x, MX g L S ∧ fr sW h g ∧ (∀ j, j ≠ 57 → g.1 188 j = h.1 188 j) ∧ (∀ j, j < gnt L - (r + 1) → g.1 231 j = h.1 231 j) ∧ g.1 188 57 = rI (wCur F (gtl L (gnt L - (r + 1))) (tlr L r) many o x) ∧ wJ h g (gnt L) (gnt L - (r + 1)) F (gtl L (gnt L - (r + 1))) (tlr L r) many o (6 * gns L) x)
          (by
            rintro p _ v hp ⟨g, x, rfl, hxg, fg, gj, gr, gm, J⟩
            have c1 := hxg.2.1.1
            have hk : p / 6 < gns L := by omega
            have hp6 : p % 6 < 6 := Nat.mod_lt _ (by omega)
            have c3 := (hxg.2.1.2.2.2.1 _ hk).1
            have l2 := (hW.2.2.2.1 _ hk).2.1
            have hcan := r_can hxg ht hk (j := p % 6) (by omega)
            have hfm := FM_can hW hF ht hk hp6
            rw [show 6 * (p / 6) + p % 6 = p by omega] at hfm
            rw [hfm] at hcan
            by_cases hq : gln L (p / 6) ≤ p % 6
            · have hno := FM_no hW (p := p) hF t1 (Or.inr hq)
              refine ⟨(nI (p + 1), g), ?_, g, x, rfl, hxg, fg, gj, gr, gm, wJ_up J (fun q => by rw [hno] at q; cases q) (fun _ _ => rfl)⟩
              simp (disch := omega) only [↓reduceIte, wlet, Option.bind_some, true_and, and_true, not_true_eq_false, not_false_eq_true, reduceCtorEq, n0_, n1_, n2_, n3_, n4_, n5_, n6_, n7_, n8_, n9_, n10_, n12_, n16_, n18_, n20_, n21_, n22_, n24_, n25_, n26_, n27_, n28_, n29_, n30_, n31_, n32_, n40_, n41_, n42_, n43_, n45_, n48_, n54_, n57_, n58_, n59_, n60_, n61_, n63_, n96_, n97_, n99_, n100_, n122_, n126_, n200_, n255_, n375_, n400_, n1000_, n2000_, n9999_, n5764801_, n1000000_, n3000_, m1, m2, le_t, le_f, lt_t, lt_f, eq_t, eq_f, no_lt, no_le, le_no, lt_no, eq_no, no_eq, add_no, wib_t, clamp, nI_add, pk_mul, pk_sub, nor_, nand_, ndif_, shl_, sh1_, shr_, tbn, tb0, tb1, les_t, les_f, pk_div, rem_, remv, and31, wu1, wuc, wui, wu2, ws1, wsc, ws2, wv1, n11_, n13_, n14_, n15_, n17_, n19_, n23_, n56_, n64_, fX11_writesAll_l62, fX11_writesAll_b151_62, c1, c3]
            · cases hfit : fit F p (gtl L (gnt L - (r + 1))) with
              | false =>
                rw [hfit] at hcan
                refine ⟨(nI (p + 1), g), ?_, g, x, rfl, hxg, fg, gj, gr, gm, wJ_up J (fun q => by rw [hfit] at q; cases q) (fun _ _ => rfl)⟩
                simp (disch := omega) only [↓reduceIte, wlet, Option.bind_some, true_and, and_true, not_true_eq_false, not_false_eq_true, reduceCtorEq, n0_, n1_, n2_, n3_, n4_, n5_, n6_, n7_, n8_, n9_, n10_, n12_, n16_, n18_, n20_, n21_, n22_, n24_, n25_, n26_, n27_, n28_, n29_, n30_, n31_, n32_, n40_, n41_, n42_, n43_, n45_, n48_, n54_, n57_, n58_, n59_, n60_, n61_, n63_, n96_, n97_, n99_, n100_, n122_, n126_, n200_, n255_, n375_, n400_, n1000_, n2000_, n9999_, n5764801_, n1000000_, n3000_, m1, m2, le_t, le_f, lt_t, lt_f, eq_t, eq_f, no_lt, no_le, le_no, lt_no, eq_no, no_eq, add_no, wib_t, clamp, nI_add, pk_mul, pk_sub, nor_, nand_, ndif_, shl_, sh1_, shr_, tbn, tb0, tb1, les_t, les_f, pk_div, rem_, remv, and31, wu1, wuc, wui, wu2, ws1, wsc, ws2, wv1, n11_, n13_, n14_, n15_, n17_, n19_, n23_, n56_, n64_, fX11_writesAll_l62, fX11_writesAll_b151_62, c1, c3, hcan, Option.isSome_none, Option.isSome_some, Bool.false_eq_true]
              | true =>
                rw [hfit] at hcan hfm
                have f1 : fr (fun c => c = 231) g (wuI g 231 (gnt L - (r + 1)) (nI p)) := fr_wuI rfl
                have hx2 : MX (wuI g 231 (gnt L - (r + 1)) (nI p)) L S := ⟨hW, ML_fr hxg.2.1 f1 (fun c _ _ => by omega), hxg.2.2.1, MS_fr hxg.2.2.2 f1 (by omega)⟩
                obtain ⟨g2, e2, hx3, f2⟩ := r_put hx2 ht hk hfm
                have hF3 := FM_put hW hF ht hk hfm
                rw [show 6 * (p / 6) + p % 6 = p by omega] at hF3
                obtain ⟨g3, e3, hx4, f3, j3, r3, yes, no⟩ := IH g2 _ _ (many + 1) (wCur F (gtl L (gnt L - (r + 1))) (tlr L r) many o x) hx3 hF3 (by rw [fr_at f2 (by unfold s225; omega), wuc (by omega)]; exact gm) (hC6 x) (by omega)
                rw [et] at e3 r3 yes
                obtain ⟨g4, e4, hx5, f4⟩ := r_unwrites hx4 hxg.2.2.1 ht hk hfm
                have eV : many + 1 + bst (tlr L r) (bdf F (blk p (gtl L (gnt L - (r + 1))))) = many + wV F (gtl L (gnt L - (r + 1))) (tlr L r) p := by unfold wV; omega
                rw [eV] at yes no
                have fW : fr sW h g4 := fr_tr fg (fr_tr (fr_mono f1 (fun c q => by unfold sW; omega)) (fr_tr (fr_mono f2 (fun c q => by unfold s225 at q; unfold sW; omega)) (fr_tr f3 (fr_mono f4 (fun c q => by unfold s225 at q; unfold sW; omega)))))
                have g2row : ∀ j, g2.1 231 j = if j = gnt L - (r + 1) then nI p else g.1 231 j := fun j => by rw [fr_at f2 (by unfold s225; omega), wuS]
                have g4row : ∀ j, j < gnt L - (r + 1) → g4.1 231 j = h.1 231 j := fun j hj => by
                  rw [fr_at f4 (by unfold s225; omega), r3 j (by omega), g2row, if_neg (by omega)]
                  exact gr j hj
                have g4188 : g4.1 188 = g3.1 188 := fr_at f4 (by unfold s225; omega)
                have g2188 : g2.1 188 = g.1 188 := by rw [fr_at f2 (by unfold s225; omega), wuc (by omega)]
                have g4j : ∀ j, j ≠ 57 → g4.1 188 j = h.1 188 j := fun j hj => by rw [g4188, j3 j hj, g2188]; exact gj j hj
                have g4232 : g4.1 232 = g3.1 232 := fr_at f4 (by unfold s225; omega)
                have g2232 : g2.1 232 = g.1 232 := by rw [fr_at f2 (by unfold s225; omega), wuc (by omega)]
                have estep : fX11_writesAll_l62 (fX11_writesAll fu) g (nI (gnt L - (r + 1))) (nI many) (nI p) = some (.inl (nI (p + 1), g4)) := by
                  simp (disch := omega) only [↓reduceIte, wlet, Option.bind_some, true_and, and_true, not_true_eq_false, not_false_eq_true, reduceCtorEq, n0_, n1_, n2_, n3_, n4_, n5_, n6_, n7_, n8_, n9_, n10_, n12_, n16_, n18_, n20_, n21_, n22_, n24_, n25_, n26_, n27_, n28_, n29_, n30_, n31_, n32_, n40_, n41_, n42_, n43_, n45_, n48_, n54_, n57_, n58_, n59_, n60_, n61_, n63_, n96_, n97_, n99_, n100_, n122_, n126_, n200_, n255_, n375_, n400_, n1000_, n2000_, n9999_, n5764801_, n1000000_, n3000_, m1, m2, le_t, le_f, lt_t, lt_f, eq_t, eq_f, no_lt, no_le, le_no, lt_no, eq_no, no_eq, add_no, wib_t, clamp, nI_add, pk_mul, pk_sub, nor_, nand_, ndif_, shl_, sh1_, shr_, tbn, tb0, tb1, les_t, les_f, pk_div, rem_, remv, and31, wu1, wuc, wui, wu2, ws1, wsc, ws2, wv1, n11_, n13_, n14_, n15_, n17_, n19_, n23_, n56_, n64_, fX11_writesAll_l62, fX11_writesAll_b151_62, c1, c3, hcan, e2, e3, e4]
                by_cases hbt : bt (wCur F (gtl L (gnt L - (r + 1))) (tlr L r) many o x) (many + wV F (gtl L (gnt L - (r + 1))) (tlr L r) p)
                · obtain ⟨y1, y2⟩ := yes hbt
                  refine ⟨(nI (p + 1), g4), estep, g4, some p, rfl, hx5, fW, g4j, g4row, by rw [g4188]; exact y1, ?_⟩
                  have hno : ∀ q2, q2 < p → fit F q2 (gtl L (gnt L - (r + 1))) = true → wV F (gtl L (gnt L - (r + 1))) (tlr L r) q2 < wV F (gtl L (gnt L - (r + 1))) (tlr L r) p := by
                    intro q2 hq2 hf2
                    cases x with
                    | none =>
                      have := bt_lt hbt (J.2 q2 hq2 hf2)
                      omega
                    | some q =>
                      have h1 : many + wV F (gtl L (gnt L - (r + 1))) (tlr L r) q < many + wV F (gtl L (gnt L - (r + 1))) (tlr L r) p := hbt
                      have := J.2.2.2.1 q2 hq2 hf2
                      omega
                  refine ⟨by omega, hfit, ?_, fun q2 hq2 hf2 => ?_, hno, fun j hj => ?_⟩
                  · cases x with
                    | none => exact hbt
                    | some q =>
                      have h1 : many + wV F (gtl L (gnt L - (r + 1))) (tlr L r) q < many + wV F (gtl L (gnt L - (r + 1))) (tlr L r) p := hbt
                      exact bt_mono J.2.2.1 (by omega)
                  · by_cases eq : q2 = p
                    · rw [eq]; exact Nat.le_refl _
                    · have := hno q2 (by omega) hf2; omega
                  · rw [g4232, y2 j hj]
                    by_cases a1 : j < gnt L - (r + 1)
                    · rw [if_pos (by omega), if_pos a1, g2row, if_neg (by omega)]
                      exact gr j a1
                    · rw [if_neg a1]
                      by_cases a2 : j = gnt L - (r + 1)
                      · rw [if_pos (by omega), if_pos a2, g2row, if_pos a2]
                      · rw [if_neg (by omega), if_neg a2]
                · obtain ⟨y1, y2⟩ := no hbt
                  refine ⟨(nI (p + 1), g4), estep, g4, x, rfl, hx5, fW, g4j, g4row, by rw [g4188, y1, g2188]; exact gm, wJ_up J (fun _ => hbt) (fun j hj => by rw [g4232, y2 j hj, g2232])⟩)
          (by
            rintro _ v ⟨g, x, rfl, hxg, fg, gj, gr, gm, J⟩
            have c1 := hxg.2.1.1
            refine ⟨g, ?_, x, hxg, fg, gj, gr, gm, J⟩
            simp (disch := omega) only [↓reduceIte, wlet, Option.bind_some, true_and, and_true, not_true_eq_false, not_false_eq_true, reduceCtorEq, n0_, n1_, n2_, n3_, n4_, n5_, n6_, n7_, n8_, n9_, n10_, n12_, n16_, n18_, n20_, n21_, n22_, n24_, n25_, n26_, n27_, n28_, n29_, n30_, n31_, n32_, n40_, n41_, n42_, n43_, n45_, n48_, n54_, n57_, n58_, n59_, n60_, n61_, n63_, n96_, n97_, n99_, n100_, n122_, n126_, n200_, n255_, n375_, n400_, n1000_, n2000_, n9999_, n5764801_, n1000000_, n3000_, m1, m2, le_t, le_f, lt_t, lt_f, eq_t, eq_f, no_lt, no_le, le_no, lt_no, eq_no, no_eq, add_no, wib_t, clamp, nI_add, pk_mul, pk_sub, nor_, nand_, ndif_, shl_, sh1_, shr_, tbn, tb0, tb1, les_t, les_f, pk_div, rem_, remv, and31, wu1, wuc, wui, wu2, ws1, wsc, ws2, wv1, n11_, n13_, n14_, n15_, n17_, n19_, n23_, n56_, n64_, fX11_writesAll_l62, c1])
          (N := 3000) (by omega) (a0 := ()) (v0 := (nI 0, h)) ⟨h, none, rfl, hx, fr_rf, fun _ _ => rfl, fun _ _ => rfl, ho, fun _ _ => rfl, fun q hq => absurd hq (Nat.not_lt_zero _)⟩
        have f1 : fr (fun c => c = 231) g1 (wuI g1 231 (gnt L - (r + 1)) wno) := fr_wuI rfl
        have hx2 : MX (wuI g1 231 (gnt L - (r + 1)) wno) L S := ⟨hW, ML_fr hx1.2.1 f1 (fun c _ _ => by omega), hx1.2.2.1, MS_fr hx1.2.2.2 f1 (by omega)⟩
        obtain ⟨g3, e3, hx4, f3, j3, r3, yes, no⟩ := IH (wuI g1 231 (gnt L - (r + 1)) wno) S F many (wCur F (gtl L (gnt L - (r + 1))) (tlr L r) many o x1) hx2 hF (by rw [wuc (by omega)]; exact gm1) (hC6 x1) (by omega)
        rw [et] at e3 r3 yes
        have hno18 : ∀ q, 6 * gns L ≤ q → fit F q (gtl L (gnt L - (r + 1))) = false := fun q hq => FM_no hW hF t1 (Or.inl hq)
        have hne : ¬ nI (gnt L - (r + 1)) = nI (gnt L) := of_eq_false (eq_f (by omega) (by omega) (by omega))
        refine ⟨g3, ?_, hx4, fr_tr fg1 (fr_tr (fr_mono f1 (fun c q => by unfold sW; omega)) f3), fun j hj => by rw [j3 j hj, wuc (by omega)]; exact gj1 j hj, fun j hj => by rw [r3 j (by omega), wui (by omega)]; exact gr1 j hj, ?_, ?_⟩
        · simp (disch := omega) only [↓reduceIte, wlet, Option.bind_some, true_and, and_true, not_true_eq_false, not_false_eq_true, reduceCtorEq, n0_, n1_, n2_, n3_, n4_, n5_, n6_, n7_, n8_, n9_, n10_, n12_, n16_, n18_, n20_, n21_, n22_, n24_, n25_, n26_, n27_, n28_, n29_, n30_, n31_, n32_, n40_, n41_, n42_, n43_, n45_, n48_, n54_, n57_, n58_, n59_, n60_, n61_, n63_, n96_, n97_, n99_, n100_, n122_, n126_, n200_, n255_, n375_, n400_, n1000_, n2000_, n9999_, n5764801_, n1000000_, n3000_, m1, m2, le_t, le_f, lt_t, lt_f, eq_t, eq_f, no_lt, no_le, le_no, lt_no, eq_no, no_eq, add_no, wib_t, clamp, nI_add, pk_mul, pk_sub, nor_, nand_, ndif_, shl_, sh1_, shr_, tbn, tb0, tb1, les_t, les_f, pk_div, rem_, remv, and31, wu1, wuc, wui, wu2, ws1, wsc, ws2, wv1, n11_, n13_, n14_, n15_, n17_, n19_, n23_, n56_, n64_, fX11_writesAll_b0, ho, c2, ea, hlt, e1, e3]
        · intro hbt
          generalize hBB : bst (gtl L (gnt L - (r + 1)) :: tlr L r) F = B at hbt ⊢
          have hB1 : bst (tlr L r) F ≤ B := by rw [← hBB]; exact bst_cons.mpr (Or.inl (Nat.le_refl _))
          have hB2 : ∀ q, q < 18 → fit F q (gtl L (gnt L - (r + 1))) = true → wV F (gtl L (gnt L - (r + 1))) (tlr L r) q ≤ B := fun q hq hfq => by rw [← hBB]; exact bst_cons.mpr (Or.inr ⟨q, hq, hfq, Nat.le_refl _⟩)
          have hB3 : B ≤ bst (tlr L r) F ∨ ∃ q, q < 18 ∧ fit F q (gtl L (gnt L - (r + 1))) = true ∧ B ≤ wV F (gtl L (gnt L - (r + 1))) (tlr L r) q := bst_cons.mp (Nat.le_of_eq hBB.symm)
          by_cases hc : bt (wCur F (gtl L (gnt L - (r + 1))) (tlr L r) many o x1) (many + bst (tlr L r) F)
          · obtain ⟨y1, y2⟩ := yes hc
            have hsm : ∀ q, fit F q (gtl L (gnt L - (r + 1))) = true → wV F (gtl L (gnt L - (r + 1))) (tlr L r) q < bst (tlr L r) F := by
              intro q hfq
              have hq : q < 6 * gns L := by
                apply Nat.lt_of_not_le
                intro hh
                rw [hno18 q hh] at hfq
                cases hfq
              cases x1 with
              | none =>
                have := bt_lt hc (J1.2 q hq hfq)
                omega
              | some q0 =>
                have h1 : many + wV F (gtl L (gnt L - (r + 1))) (tlr L r) q0 < many + bst (tlr L r) F := hc
                have := J1.2.2.2.1 q hq hfq
                omega
            have hBe : B = bst (tlr L r) F := by
              rcases hB3 with q | ⟨q, -, q2, q3⟩
              · omega
              · have := hsm q q2; omega
            have hg : grd (gtl L (gnt L - (r + 1)) :: tlr L r) F B = none :: grd (tlr L r) F B := by
              rw [grd]
              have : (if B = 0 then none else gFn (fun p => fit F p (gtl L (gnt L - (r + 1))) && decide (B - 1 ≤ bst (tlr L r) (bdf F (blk p (gtl L (gnt L - (r + 1))))))) 18 0) = none := by
                by_cases hz : B = 0
                · rw [if_pos hz]
                · rw [if_neg hz]
                  cases hq : gFn (fun p => fit F p (gtl L (gnt L - (r + 1))) && decide (B - 1 ≤ bst (tlr L r) (bdf F (blk p (gtl L (gnt L - (r + 1))))))) 18 0 with
                  | none => rfl
                  | some q =>
                    have := (gFn_some hq).2.2
                    simp only [Bool.and_eq_true, decide_eq_true_eq] at this
                    have h2 := hsm q this.1
                    unfold wV at h2
                    omega
              rw [this]
            refine ⟨by rw [y1, hBe], fun j hj => ?_⟩
            rw [y2 j hj, hg]
            by_cases a1 : j < gnt L - (r + 1)
            · rw [if_pos (by omega), if_pos a1, wui (by omega)]
              exact gr1 j a1
            · rw [if_neg a1]
              by_cases a2 : j = gnt L - (r + 1)
              · rw [if_pos (by omega), a2, wu1, Nat.sub_self]
                rfl
              · rw [if_neg (by omega), hBe, show j - (gnt L - (r + 1)) = (j - (gnt L - (r + 1) + 1)) + 1 by omega, List.getD_cons_succ]
          · obtain ⟨y1, y2⟩ := no hc
            cases x1 with
            | none =>
              exfalso
              have hc : ¬ bt o (many + bst (tlr L r) F) := hc
              rcases hB3 with q | ⟨q, q1, q2, q3⟩
              · exact hc (bt_mono hbt (by omega))
              · have hq : q < 6 * gns L := by
                  apply Nat.lt_of_not_le
                  intro hh
                  rw [hno18 q hh] at q2
                  cases q2
                exact J1.2 q hq q2 (bt_mono hbt (by omega))
            | some q =>
              obtain ⟨a1, a2, a3, a4, a5, a6⟩ := J1
              have hc : ¬ many + wV F (gtl L (gnt L - (r + 1))) (tlr L r) q < many + bst (tlr L r) F := hc
              have hBe : B = wV F (gtl L (gnt L - (r + 1))) (tlr L r) q := by
                have h1 := hB2 q (by omega) a2
                rcases hB3 with q' | ⟨q', -, q2, q3⟩
                · omega
                · have hq : q' < 6 * gns L := by
                    apply Nat.lt_of_not_le
                    intro hh
                    rw [hno18 q' hh] at q2
                    cases q2
                  have := a4 q' hq q2
                  omega
              have hB0 : ¬ B = 0 := by rw [hBe]; unfold wV; omega
              have hBm : B - 1 = bst (tlr L r) (bdf F (blk q (gtl L (gnt L - (r + 1))))) := by rw [hBe]; unfold wV; omega
              have hg : grd (gtl L (gnt L - (r + 1)) :: tlr L r) F B = some q :: grd (tlr L r) (bdf F (blk q (gtl L (gnt L - (r + 1))))) (B - 1) := by
                rw [grd, if_neg hB0]
                have : gFn (fun p => fit F p (gtl L (gnt L - (r + 1))) && decide (B - 1 ≤ bst (tlr L r) (bdf F (blk p (gtl L (gnt L - (r + 1))))))) 18 0 = some q := by
                  cases hq : gFn (fun p => fit F p (gtl L (gnt L - (r + 1))) && decide (B - 1 ≤ bst (tlr L r) (bdf F (blk p (gtl L (gnt L - (r + 1))))))) 18 0 with
                  | none =>
                    have := gFn_none hq q (by omega) (by omega)
                    rw [a2, Bool.true_and] at this
                    simp only [decide_eq_false_iff_not] at this
                    omega
                  | some q' =>
                    obtain ⟨-, b2, b3⟩ := gFn_some hq
                    have hfst := gFn_first hq
                    simp only [Bool.and_eq_true, decide_eq_true_eq] at b3
                    have h1 : ¬ q' < q := fun hh => by
                      have := a5 q' hh b3.1
                      have : B ≤ wV F (gtl L (gnt L - (r + 1))) (tlr L r) q' := by unfold wV; omega
                      omega
                    have h2 : ¬ q < q' := fun hh => by
                      have := hfst q (by omega) hh
                      rw [a2, Bool.true_and] at this
                      simp only [decide_eq_false_iff_not] at this
                      omega
                    rw [show q' = q by omega]
                rw [this]
              refine ⟨?_, fun j hj => ?_⟩
              · rw [y1, wuc (by omega), gm1, hBe]
                rfl
              · rw [y2 j hj, wuc (by omega), a6 j hj, hg]
                by_cases b1 : j < gnt L - (r + 1)
                · rw [if_pos b1, if_pos b1]
                · rw [if_neg b1, if_neg b1]
                  by_cases b2 : j = gnt L - (r + 1)
                  · rw [if_pos b2, b2, Nat.sub_self]
                    rfl
                  · rw [if_neg b2, show j - (gnt L - (r + 1)) = (j - (gnt L - (r + 1) + 1)) + 1 by omega, List.getD_cons_succ, hBm]
        · intro hbt
          have hc : ¬ bt (wCur F (gtl L (gnt L - (r + 1))) (tlr L r) many o x1) (many + bst (tlr L r) F) := by
            intro hc
            apply hbt
            have hB1 : bst (tlr L r) F ≤ bst (gtl L (gnt L - (r + 1)) :: tlr L r) F := bst_cons.mpr (Or.inl (Nat.le_refl _))
            cases x1 with
            | none => exact bt_mono hc (by omega)
            | some q =>
              have h1 : many + wV F (gtl L (gnt L - (r + 1))) (tlr L r) q < many + bst (tlr L r) F := hc
              exact bt_mono J1.2.2.1 (by omega)
          cases x1 with
          | some q =>
            exfalso
            apply hbt
            have h1 : wV F (gtl L (gnt L - (r + 1))) (tlr L r) q ≤ bst (gtl L (gnt L - (r + 1)) :: tlr L r) F := bst_cons.mpr (Or.inr ⟨q, by have := J1.1; omega, J1.2.1, Nat.le_refl _⟩)
            exact bt_mono J1.2.2.1 (by omega)
          | none =>
            obtain ⟨y1, y2⟩ := no hc
            refine ⟨by rw [y1, wuc (by omega), gm1, ho]; rfl, fun j hj => by rw [y2 j hj, wuc (by omega)]; exact J1.1 j hj⟩
    · have hlt := bt_f ho6 (by omega) hb
      have hnb : ¬ bt o (many + bst (tlr L r) F) := fun q => hb (bt_mono q (by omega))
      refine ⟨h, ?_, hx, fr_rf, fun _ _ => rfl, fun _ _ => rfl, fun q => absurd q hnb, fun _ => ⟨rfl, fun _ _ => rfl⟩⟩
      simp (disch := omega) only [↓reduceIte, wlet, Option.bind_some, true_and, and_true, not_true_eq_false, not_false_eq_true, reduceCtorEq, n0_, n1_, n2_, n3_, n4_, n5_, n6_, n7_, n8_, n9_, n10_, n12_, n16_, n18_, n20_, n21_, n22_, n24_, n25_, n26_, n27_, n28_, n29_, n30_, n31_, n32_, n40_, n41_, n42_, n43_, n45_, n48_, n54_, n57_, n58_, n59_, n60_, n61_, n63_, n96_, n97_, n99_, n100_, n122_, n126_, n200_, n255_, n375_, n400_, n1000_, n2000_, n9999_, n5764801_, n1000000_, n3000_, m1, m2, le_t, le_f, lt_t, lt_f, eq_t, eq_f, no_lt, no_le, le_no, lt_no, eq_no, no_eq, add_no, wib_t, clamp, nI_add, pk_mul, pk_sub, nor_, nand_, ndif_, shl_, sh1_, shr_, tbn, tb0, tb1, les_t, les_f, pk_div, rem_, remv, and31, wu1, wuc, wui, wu2, ws1, wsc, ws2, wv1, n11_, n13_, n14_, n15_, n17_, n19_, n23_, n56_, n64_, fX11_writesAll_b0, ho, c2, ea, hlt]
end G55

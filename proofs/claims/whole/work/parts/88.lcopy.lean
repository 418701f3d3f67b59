/-! A LIBRARY LAID, both sides -/
def gwc (W : Option gPc) : List Int32 := match W with
  | none => gcs0
  | some x => x.2.1
def gwv (W : Option gPc) : (Nat → Int32) → Int32 := match W with
  | none => gv0
  | some x => x.2.2.2
def gFn2 (D : gLib) (W : Option gPc) : gLib := (D.1, D.2.1, fun a b c d => decide (gwv W (gEn a b c d) ≠ 0))
def lK (h : wSt) : wSt :=
  let a := wuI h 3 0 (h.1 16 0)
  let a := wsJ a 4 (va_cpy (a.2 17) (a.2 4) 0 0 3)
  let a := wsI a 5 (va_cpy (a.1 18) (a.1 5) 0 0 3)
  let a := wsI a 6 (va_cpy (a.1 19) (a.1 6) 0 0 3)
  let a := wsI a 7 (va_cpy (a.1 20) (a.1 7) 0 0 3)
  let a := wuI a 3 5 (a.1 16 5)
  let a := wsJ a 8 (va_cpy (a.2 21) (a.2 8) 0 0 6)
  let a := wsI a 9 (va_cpy (a.1 22) (a.1 9) 0 0 6)
  let a := wsI a 10 (va_cpy (a.1 23) (a.1 10) 0 0 6)
  let a := wsI a 11 (va_cpy (a.1 24) (a.1 11) 0 0 6)
  let a := wuI a 3 10 (a.1 16 10)
  wsI a 12 (va_cpy (a.1 25) (a.1 12) 0 0 12)
theorem F_ns {D : gLib} {W : Option gPc} : gns (gFn2 D W) = gns D := by unfold gns gFn2; rfl
theorem F_nt {D : gLib} {W : Option gPc} : gnt (gFn2 D W) = gnt D := by unfold gnt gFn2; rfl
theorem F_nd {D : gLib} {W : Option gPc} : gnd (gFn2 D W) = gnd D := by unfold gnd gFn2; rfl
theorem F_ln {D : gLib} {W : Option gPc} {i : Nat} : gln (gFn2 D W) i = gln D i := by unfold gln gFn2; rfl
theorem F_tk {D : gLib} {W : Option gPc} {i : Nat} : gtk (gFn2 D W) i = gtk D i := by unfold gtk gFn2; rfl
theorem F_ho {D : gLib} {W : Option gPc} {i : Nat} : gho (gFn2 D W) i = gho D i := by unfold gho gFn2; rfl
theorem F_kd {D : gLib} {W : Option gPc} {i : Nat} : gkd (gFn2 D W) i = gkd D i := by unfold gkd gFn2; rfl
theorem F_ga {D : gLib} {W : Option gPc} {i : Nat} : gga (gFn2 D W) i = gga D i := by unfold gga gFn2; rfl
theorem F_tl {D : gLib} {W : Option gPc} {i : Nat} : gtl (gFn2 D W) i = gtl D i := by unfold gtl gFn2; rfl
theorem F_dm {D : gLib} {W : Option gPc} {i : Nat} : gdm (gFn2 D W) i = gdm D i := by unfold gdm gFn2; rfl
theorem F_nm {D : gLib} {W : Option gPc} {j i : Nat} : gnm (gFn2 D W) j i = gnm D j i := by unfold gnm gFn2; rfl
theorem F_sh {D : gLib} {W : Option gPc} : gsh (gFn2 D W) = fun a b c d => decide (gwv W (gEn a b c d) ≠ 0) := by unfold gsh gFn2; rfl
theorem F_WL {D : gLib} {W : Option gPc} (h : WL D) : WL (gFn2 D W) := by
  unfold WL at h ⊢
  simp only [F_ns, F_nt, F_nd, F_ln, F_tk, F_ho, F_kd, F_ga, F_tl, F_dm, F_nm]
  exact h
theorem gwv_n : gwv none = gv0 := rfl
theorem gwv_s {x : gPc} : gwv (some x) = x.2.2.2 := rfl
theorem cpy_i {α : Type} {f g : Nat → α} {n q : Nat} (hq : q < n) : va_cpy f g 0 0 n q = f q := by
  unfold va_cpy
  rw [if_pos (by omega)]
  congr 1
  omega
section G88
variable {h g : wSt} {D : gLib} {W : Option gPc}
theorem lK_fr : fr (fun c => 3 ≤ c ∧ c ≤ 12) h (lK h) := by
  unfold lK
  exact fr_tr (fr_tr (fr_tr (fr_tr (fr_tr (fr_tr (fr_tr (fr_tr (fr_tr (fr_tr (fr_tr (fr_wuI (by omega)) (fr_wsJ (by omega))) (fr_wsI (by omega))) (fr_wsI (by omega))) (fr_wsI (by omega))) (fr_wuI (by omega))) (fr_wsJ (by omega))) (fr_wsI (by omega))) (fr_wsI (by omega))) (fr_wsI (by omega))) (fr_wuI (by omega))) (fr_wsI (by omega))
theorem lK_v : (lK h).1 3 0 = h.1 16 0 ∧ (lK h).1 3 5 = h.1 16 5 ∧ (lK h).1 3 10 = h.1 16 10 ∧ (∀ i, i < 3 → (lK h).1 5 i = h.1 18 i ∧ (lK h).1 6 i = h.1 19 i ∧ (lK h).1 7 i = h.1 20 i ∧ (lK h).2 4 i = h.2 17 i) ∧ (∀ t, t < 6 → (lK h).1 9 t = h.1 22 t ∧ (lK h).1 10 t = h.1 23 t ∧ (lK h).1 11 t = h.1 24 t ∧ (lK h).2 8 t = h.2 21 t) ∧ ∀ i, i < 12 → (lK h).1 12 i = h.1 25 i := by
  unfold lK
  dsimp only
  refine ⟨?_, ?_, ?_, fun i hi => ⟨?_, ?_, ?_, ?_⟩, fun t ht => ⟨?_, ?_, ?_, ?_⟩, fun i hi => ?_⟩
  all_goals simp (disch := omega) only [wu1, wuc, wui, wu2, ws1, wsc, ws2, wy1, wy2, wyc, cpy_i]
theorem gw_C (hw : DCw h W) (hv : gWv W) : h.1 26 1 = nI (gwc W).length ∧ (∀ i, i < (gwc W).length → h.1 27 i = (gwc W).getD i 0) ∧ (gwc W).length ≤ 1000 ∧ PCs 21 (gwc W) (gwv W) := by
  cases W with
  | none =>
    obtain ⟨d1, d2, d3⟩ := hw
    exact ⟨d2, d3, by show (7 : Nat) ≤ 1000; omega, PC_0⟩
  | some x =>
    obtain ⟨d1, ⟨d2, d3⟩, d4⟩ := hw
    exact ⟨d2, d3, d4, (hv x rfl).1⟩
theorem c_lcopy (hD : DC h D) (hw : DCw h W) (hW : WL D) (hv : gWv W) : ∃ g, fX4_copyFrom h 3 16 = some g ∧ CL g (gFn2 D W) ∧ fr (fun c => 3 ≤ c ∧ c ≤ 14) h g := by
  obtain ⟨w1, w2, w3, w4⟩ := gw_C hw hv
  obtain ⟨k1, k2, k3, k4, k5, k6⟩ := lK_v (h := h)
  have fk := lK_fr (h := h)
  have e0 : fX4_copyFrom h 3 16 = (fX2_copyFrom (lK h) 13 26).bind (fun y => some y) := rfl
  have c26 : (lK h).1 26 1 = nI (gwc W).length := by rw [fr_at fk (by omega)]; exact w1
  have c27 : (lK h).1 27 = h.1 27 := fr_at fk (by omega)
  have cl : (nI (gwc W).length).toNatClampNeg = (gwc W).length := clamp (by omega)
  have e1 : fX2_copyFrom (lK h) 13 26 = some (wuI (wsI (lK h) 14 (va_cpy ((lK h).1 27) ((lK h).1 14) 0 0 (gwc W).length)) 13 1 (nI (gwc W).length)) := by
    unfold fX2_copyFrom
    rw [c26, if_pos (show wcp (nI (gwc W).length) 1000 1000 from ⟨nI_pos (by omega), by rw [cl]; exact w3, by rw [cl]; exact w3⟩), cl]
    simp (disch := omega) only [wlet, Nat.reduceAdd, wsc, c26]
  rw [e0, e1]
  have f2 : fr (fun c => c = 13 ∨ c = 14) (lK h) (wuI (wsI (lK h) 14 (va_cpy ((lK h).1 27) ((lK h).1 14) 0 0 (gwc W).length)) 13 1 (nI (gwc W).length)) := fr_tr (fr_wsI (Or.inr rfl)) (fr_wuI (Or.inl rfl))
  have ff := fr_tr (fr_mono fk (fun c q => by omega)) (fr_mono f2 (fun c q => by omega)) (P := fun c => 3 ≤ c ∧ c ≤ 14)
  refine ⟨_, rfl, ?_, ff⟩
  obtain ⟨d1, d2, d3, d4, d5, d6⟩ := hD
  unfold CL
  simp only [F_ns, F_nt, F_nd, F_ln, F_tk, F_ho, F_kd, F_ga, F_tl, F_dm, F_nm, F_sh]
  refine ⟨?_, ?_, ?_, fun i hi => ?_, fun t ht => ?_, fun i hi => ?_, ?_⟩
  · rw [fr_at f2 (by omega), k1]; exact d1
  · rw [fr_at f2 (by omega), k2]; exact d2
  · rw [fr_at f2 (by omega), k3]; exact d3
  · have hi : i < gns D := hi
    have n1 := hW.1
    obtain ⟨a1, a2, a3, a4⟩ := k4 i (by omega)
    rw [fr_at f2 (by omega), fr_at f2 (by omega), fr_at f2 (by omega), (f2 4 (by omega)).2, a1, a2, a3, a4]
    exact d4 i hi
  · have ht : t < gnt D := ht
    have n1 := hW.2.1
    obtain ⟨a1, a2, a3, a4⟩ := k5 t (by omega)
    rw [fr_at f2 (by omega), fr_at f2 (by omega), fr_at f2 (by omega), (f2 8 (by omega)).2, a1, a2, a3, a4]
    exact d5 t ht
  · have hi : i < gnd D := hi
    have n1 := hW.2.2.1
    rw [fr_at f2 (by omega), k6 i (by omega)]
    exact d6 i hi
  · intro _
    refine LawC_of wu1 (fun j hj => ?_) w3 w4
    rw [wuc (by omega), ws1, cpy_i hj, c27]
    exact w2 j hj
theorem r_shifts (h : wSt) {a0 g0 n : Nat} (hn : n + n ≤ g0) (hg : g0 ≤ 2000) : ∃ g, fX11_shifts h a0 g0 (nI n) = some g ∧ fr (fun c => c = a0) h g ∧ (∀ q, g.1 a0 q = if q < n then h.1 a0 (n + q) else h.1 a0 q) ∧ g.2 = h.2 := by
  obtain ⟨e, he, eg⟩ := wit_for (b := fun v : (Int32 × wSt) => fX11_shifts_l2 v.2 a0 g0 (nI n) v.1) (fun _ (u : Unit) => u) n
    (fun m _ v => ∃ g, v = (nI m, g) ∧ fr (fun c => c = a0) h g ∧ (∀ q, g.1 a0 q = if q < m then h.1 a0 (n + q) else h.1 a0 q) ∧ g.2 = h.2)
    (fun _ g => fr (fun c => c = a0) h g ∧ (∀ q, g.1 a0 q = if q < n then h.1 a0 (n + q) else h.1 a0 q) ∧ g.2 = h.2)
    (by
      rintro m u v hm ⟨g, rfl, fg, gq, g2⟩
      have c1 : g.1 a0 (n + m) = h.1 a0 (n + m) := by rw [gq, if_neg (by omega)]
      refine ⟨(nI (m + 1), wuI g a0 m (h.1 a0 (n + m))), ?_, _, rfl, fr_tr fg (fr_wuI rfl), fun q => ?_, g2⟩
      · simp (disch := omega) only [↓reduceIte, wlet, Option.bind_some, true_and, and_true, not_true_eq_false, not_false_eq_true, reduceCtorEq, n0_, n1_, n2_, n3_, n4_, n5_, n6_, n7_, n8_, n9_, n10_, n12_, n16_, n18_, n20_, n21_, n22_, n24_, n25_, n26_, n27_, n28_, n29_, n30_, n31_, n32_, n40_, n41_, n42_, n43_, n45_, n48_, n54_, n57_, n58_, n59_, n60_, n61_, n63_, n96_, n97_, n99_, n100_, n122_, n126_, n200_, n255_, n375_, n400_, n1000_, n2000_, n9999_, n5764801_, n1000000_, n3000_, m1, m2, le_t, le_f, lt_t, lt_f, eq_t, eq_f, no_lt, no_le, le_no, lt_no, eq_no, no_eq, add_no, wib_t, clamp, nI_add, pk_mul, pk_sub, nor_, nand_, ndif_, shl_, sh1_, shr_, tbn, tb0, tb1, les_t, les_f, pk_div, rem_, remv, and31, wu1, wuc, wui, wu2, ws1, wsc, ws2, wv1, n11_, n13_, n14_, n15_, n17_, n19_, n23_, n56_, n64_, fX11_shifts_l2, c1]
      · rw [wuS, gq]
        by_cases e1 : q = m
        · rw [if_pos e1, if_pos (by omega), e1]
        · rw [if_neg e1]
          by_cases e2 : q < m
          · rw [if_pos e2, if_pos (by omega)]
          · rw [if_neg e2, if_neg (by omega)])
    (by
      rintro u v ⟨g, rfl, hg⟩
      refine ⟨g, ?_, hg⟩
      simp (disch := omega) only [↓reduceIte, wlet, Option.bind_some, true_and, and_true, not_true_eq_false, not_false_eq_true, reduceCtorEq, n0_, n1_, n2_, n3_, n4_, n5_, n6_, n7_, n8_, n9_, n10_, n12_, n16_, n18_, n20_, n21_, n22_, n24_, n25_, n26_, n27_, n28_, n29_, n30_, n31_, n32_, n40_, n41_, n42_, n43_, n45_, n48_, n54_, n57_, n58_, n59_, n60_, n61_, n63_, n96_, n97_, n99_, n100_, n122_, n126_, n200_, n255_, n375_, n400_, n1000_, n2000_, n9999_, n5764801_, n1000000_, n3000_, m1, m2, le_t, le_f, lt_t, lt_f, eq_t, eq_f, no_lt, no_le, le_no, lt_no, eq_no, no_eq, add_no, wib_t, clamp, nI_add, pk_mul, pk_sub, nor_, nand_, ndif_, shl_, sh1_, shr_, tbn, tb0, tb1, les_t, les_f, pk_div, rem_, remv, and31, wu1, wuc, wui, wu2, ws1, wsc, ws2, wv1, n11_, n13_, n14_, n15_, n17_, n19_, n23_, n56_, n64_, fX11_shifts_l2])
    (N := 3000) (by omega) (a0 := ()) (v0 := (nI 0, h)) ⟨_, rfl, fr_rf, fun q => by rw [if_neg (by omega)], rfl⟩
  refine ⟨e, ?_, eg⟩
  simp (disch := omega) only [↓reduceIte, wlet, Option.bind_some, true_and, and_true, not_true_eq_false, not_false_eq_true, reduceCtorEq, n0_, n1_, n2_, n3_, n4_, n5_, n6_, n7_, n8_, n9_, n10_, n12_, n16_, n18_, n20_, n21_, n22_, n24_, n25_, n26_, n27_, n28_, n29_, n30_, n31_, n32_, n40_, n41_, n42_, n43_, n45_, n48_, n54_, n57_, n58_, n59_, n60_, n61_, n63_, n96_, n97_, n99_, n100_, n122_, n126_, n200_, n255_, n375_, n400_, n1000_, n2000_, n9999_, n5764801_, n1000000_, n3000_, m1, m2, le_t, le_f, lt_t, lt_f, eq_t, eq_f, no_lt, no_le, le_no, lt_no, eq_no, no_eq, add_no, wib_t, clamp, nI_add, pk_mul, pk_sub, nor_, nand_, ndif_, shl_, sh1_, shr_, tbn, tb0, tb1, les_t, les_f, pk_div, rem_, remv, and31, wu1, wuc, wui, wu2, ws1, wsc, ws2, wv1, n11_, n13_, n14_, n15_, n17_, n19_, n23_, n56_, n64_, fX11_shifts, he]
theorem r_shiftsN (h : wSt) {a0 g0 n : Nat} (hn : n + n ≤ g0) (hg : g0 ≤ 2000) : ∃ g, fX11_shiftsNames h a0 g0 (nI n) = some g ∧ fr (fun c => c = a0) h g ∧ (∀ q, g.2 a0 q = if q < n then h.2 a0 (n + q) else h.2 a0 q) ∧ g.1 = h.1 := by
  obtain ⟨e, he, eg⟩ := wit_for (b := fun v : (Int32 × wSt) => fX11_shiftsNames_l2 v.2 a0 g0 (nI n) v.1) (fun _ (u : Unit) => u) n
    (fun m _ v => ∃ g, v = (nI m, g) ∧ fr (fun c => c = a0) h g ∧ (∀ q, g.2 a0 q = if q < m then h.2 a0 (n + q) else h.2 a0 q) ∧ g.1 = h.1)
    (fun _ g => fr (fun c => c = a0) h g ∧ (∀ q, g.2 a0 q = if q < n then h.2 a0 (n + q) else h.2 a0 q) ∧ g.1 = h.1)
    (by
      rintro m u v hm ⟨g, rfl, fg, gq, g2⟩
      have c1 : g.2 a0 (n + m) = h.2 a0 (n + m) := by rw [gq, if_neg (by omega)]
      refine ⟨(nI (m + 1), wuJ g a0 m (h.2 a0 (n + m))), ?_, _, rfl, fr_tr fg (fr_wuJ rfl), fun q => ?_, g2⟩
      · simp (disch := omega) only [↓reduceIte, wlet, Option.bind_some, true_and, and_true, not_true_eq_false, not_false_eq_true, reduceCtorEq, n0_, n1_, n2_, n3_, n4_, n5_, n6_, n7_, n8_, n9_, n10_, n12_, n16_, n18_, n20_, n21_, n22_, n24_, n25_, n26_, n27_, n28_, n29_, n30_, n31_, n32_, n40_, n41_, n42_, n43_, n45_, n48_, n54_, n57_, n58_, n59_, n60_, n61_, n63_, n96_, n97_, n99_, n100_, n122_, n126_, n200_, n255_, n375_, n400_, n1000_, n2000_, n9999_, n5764801_, n1000000_, n3000_, m1, m2, le_t, le_f, lt_t, lt_f, eq_t, eq_f, no_lt, no_le, le_no, lt_no, eq_no, no_eq, add_no, wib_t, clamp, nI_add, pk_mul, pk_sub, nor_, nand_, ndif_, shl_, sh1_, shr_, tbn, tb0, tb1, les_t, les_f, pk_div, rem_, remv, and31, wu1, wuc, wui, wu2, ws1, wsc, ws2, wv1, n11_, n13_, n14_, n15_, n17_, n19_, n23_, n56_, n64_, fX11_shiftsNames_l2, c1]
      · by_cases e1 : q = m
        · rw [if_pos (by omega), e1, wv2]
        · rw [wvi e1, gq]
          by_cases e2 : q < m
          · rw [if_pos e2, if_pos (by omega)]
          · rw [if_neg e2, if_neg (by omega)])
    (by
      rintro u v ⟨g, rfl, hg⟩
      refine ⟨g, ?_, hg⟩
      simp (disch := omega) only [↓reduceIte, wlet, Option.bind_some, true_and, and_true, not_true_eq_false, not_false_eq_true, reduceCtorEq, n0_, n1_, n2_, n3_, n4_, n5_, n6_, n7_, n8_, n9_, n10_, n12_, n16_, n18_, n20_, n21_, n22_, n24_, n25_, n26_, n27_, n28_, n29_, n30_, n31_, n32_, n40_, n41_, n42_, n43_, n45_, n48_, n54_, n57_, n58_, n59_, n60_, n61_, n63_, n96_, n97_, n99_, n100_, n122_, n126_, n200_, n255_, n375_, n400_, n1000_, n2000_, n9999_, n5764801_, n1000000_, n3000_, m1, m2, le_t, le_f, lt_t, lt_f, eq_t, eq_f, no_lt, no_le, le_no, lt_no, eq_no, no_eq, add_no, wib_t, clamp, nI_add, pk_mul, pk_sub, nor_, nand_, ndif_, shl_, sh1_, shr_, tbn, tb0, tb1, les_t, les_f, pk_div, rem_, remv, and31, wu1, wuc, wui, wu2, ws1, wsc, ws2, wv1, n11_, n13_, n14_, n15_, n17_, n19_, n23_, n56_, n64_, fX11_shiftsNames_l2])
    (N := 3000) (by omega) (a0 := ()) (v0 := (nI 0, h)) ⟨_, rfl, fr_rf, fun q => by rw [if_neg (by omega)], rfl⟩
  refine ⟨e, ?_, eg⟩
  simp (disch := omega) only [↓reduceIte, wlet, Option.bind_some, true_and, and_true, not_true_eq_false, not_false_eq_true, reduceCtorEq, n0_, n1_, n2_, n3_, n4_, n5_, n6_, n7_, n8_, n9_, n10_, n12_, n16_, n18_, n20_, n21_, n22_, n24_, n25_, n26_, n27_, n28_, n29_, n30_, n31_, n32_, n40_, n41_, n42_, n43_, n45_, n48_, n54_, n57_, n58_, n59_, n60_, n61_, n63_, n96_, n97_, n99_, n100_, n122_, n126_, n200_, n255_, n375_, n400_, n1000_, n2000_, n9999_, n5764801_, n1000000_, n3000_, m1, m2, le_t, le_f, lt_t, lt_f, eq_t, eq_f, no_lt, no_le, le_no, lt_no, eq_no, no_eq, add_no, wib_t, clamp, nI_add, pk_mul, pk_sub, nor_, nand_, ndif_, shl_, sh1_, shr_, tbn, tb0, tb1, les_t, les_f, pk_div, rem_, remv, and31, wu1, wuc, wui, wu2, ws1, wsc, ws2, wv1, n11_, n13_, n14_, n15_, n17_, n19_, n23_, n56_, n64_, fX11_shiftsNames, he]
end G88

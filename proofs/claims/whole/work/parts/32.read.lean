/-! WHAT IS READ -/
def gDamp (L : gLib) (w : Nat) : Nat := if gnd L = 0 then 0 else gdm L (w % gnd L)
def gShow (L : gLib) (t d w th : Nat) : Bool := gsh L (if gkd L t = 1 then w + 1 else w) (if gkd L t = 2 then d - 1 else d) (gga L t) th
def gRead (L : gLib) (S : gSh) (i j w : Nat) : Option Nat := if (S.2.2.1 i).testBit j then (S.2.2.2 (6 * i + j)).head? else gUp (fun t d => gShow L t d w (S.2.1 i)) 1 (S.2.2.2 (6 * i + j))
section G32
variable {h : wSt} {L : gLib} {k : Nat} {S : gSh}
theorem gDamp_le (hW : WL L) (w : Nat) : gDamp L w ≤ 9 := by
  unfold gDamp
  split
  · omega
  · exact hW.2.2.2.2.2 _ (Nat.mod_lt _ (by omega))
theorem c_damp (hW : WL L) (hC : CL h L) {w : Nat} (hw : w < 2147483648) : fX4_dampOf h 3 (nI w) = some (nI (gDamp L w)) := by
  have w3 := hW.2.2.1
  have a3 := hC.2.2.1
  unfold gDamp
  by_cases h0 : gnd L = 0
  · simp (disch := omega) only [↓reduceIte, wlet, Option.bind_some, true_and, and_true, not_true_eq_false, not_false_eq_true, reduceCtorEq, n0_, n1_, n2_, n3_, n4_, n5_, n6_, n7_, n8_, n9_, n10_, n12_, n16_, n18_, n20_, n21_, n22_, n24_, n25_, n26_, n27_, n28_, n29_, n30_, n31_, n32_, n40_, n41_, n42_, n43_, n45_, n48_, n54_, n57_, n58_, n59_, n60_, n61_, n63_, n96_, n97_, n99_, n100_, n122_, n126_, n200_, n255_, n375_, n400_, n1000_, n2000_, n9999_, n5764801_, n1000000_, n3000_, m1, m2, le_t, le_f, lt_t, lt_f, eq_t, eq_f, no_lt, no_le, le_no, lt_no, eq_no, no_eq, add_no, wib_t, clamp, nI_add, pk_mul, pk_sub, nor_, nand_, ndif_, shl_, sh1_, shr_, tbn, tb0, tb1, les_t, les_f, pk_div, rem_, remv, and31, wu1, wuc, wui, wu2, ws1, wsc, ws2, wv1, fX4_dampOf, a3, h0]
  · have hm : w % gnd L < gnd L := Nat.mod_lt _ (by omega)
    have a6 := hC.2.2.2.2.2.1 _ hm
    simp (disch := omega) only [↓reduceIte, wlet, Option.bind_some, true_and, and_true, not_true_eq_false, not_false_eq_true, reduceCtorEq, n0_, n1_, n2_, n3_, n4_, n5_, n6_, n7_, n8_, n9_, n10_, n12_, n16_, n18_, n20_, n21_, n22_, n24_, n25_, n26_, n27_, n28_, n29_, n30_, n31_, n32_, n40_, n41_, n42_, n43_, n45_, n48_, n54_, n57_, n58_, n59_, n60_, n61_, n63_, n96_, n97_, n99_, n100_, n122_, n126_, n200_, n255_, n375_, n400_, n1000_, n2000_, n9999_, n5764801_, n1000000_, n3000_, m1, m2, le_t, le_f, lt_t, lt_f, eq_t, eq_f, no_lt, no_le, le_no, lt_no, eq_no, no_eq, add_no, wib_t, clamp, nI_add, pk_mul, pk_sub, nor_, nand_, ndif_, shl_, sh1_, shr_, tbn, tb0, tb1, les_t, les_f, pk_div, rem_, remv, and31, wu1, wuc, wui, wu2, ws1, wsc, ws2, wv1, fX4_dampOf, a3, h0, a6, Nat.reduceAdd]
theorem r_damp (hW : WL L) (hC : ML h L) {w : Nat} (hw : w < 2147483648) : fX11_dampOf h (nI w) = some (nI (gDamp L w)) := by
  have w3 := hW.2.2.1
  have a3 := hC.2.2.1
  unfold gDamp
  by_cases h0 : gnd L = 0
  · simp (disch := omega) only [↓reduceIte, wlet, Option.bind_some, true_and, and_true, not_true_eq_false, not_false_eq_true, reduceCtorEq, n0_, n1_, n2_, n3_, n4_, n5_, n6_, n7_, n8_, n9_, n10_, n12_, n16_, n18_, n20_, n21_, n22_, n24_, n25_, n26_, n27_, n28_, n29_, n30_, n31_, n32_, n40_, n41_, n42_, n43_, n45_, n48_, n54_, n57_, n58_, n59_, n60_, n61_, n63_, n96_, n97_, n99_, n100_, n122_, n126_, n200_, n255_, n375_, n400_, n1000_, n2000_, n9999_, n5764801_, n1000000_, n3000_, m1, m2, le_t, le_f, lt_t, lt_f, eq_t, eq_f, no_lt, no_le, le_no, lt_no, eq_no, no_eq, add_no, wib_t, clamp, nI_add, pk_mul, pk_sub, nor_, nand_, ndif_, shl_, sh1_, shr_, tbn, tb0, tb1, les_t, les_f, pk_div, rem_, remv, and31, wu1, wuc, wui, wu2, ws1, wsc, ws2, wv1, fX11_dampOf, a3, h0]
  · have hm : w % gnd L < gnd L := Nat.mod_lt _ (by omega)
    have a6 := hC.2.2.2.2.2.1 _ hm
    simp (disch := omega) only [↓reduceIte, wlet, Option.bind_some, true_and, and_true, not_true_eq_false, not_false_eq_true, reduceCtorEq, n0_, n1_, n2_, n3_, n4_, n5_, n6_, n7_, n8_, n9_, n10_, n12_, n16_, n18_, n20_, n21_, n22_, n24_, n25_, n26_, n27_, n28_, n29_, n30_, n31_, n32_, n40_, n41_, n42_, n43_, n45_, n48_, n54_, n57_, n58_, n59_, n60_, n61_, n63_, n96_, n97_, n99_, n100_, n122_, n126_, n200_, n255_, n375_, n400_, n1000_, n2000_, n9999_, n5764801_, n1000000_, n3000_, m1, m2, le_t, le_f, lt_t, lt_f, eq_t, eq_f, no_lt, no_le, le_no, lt_no, eq_no, no_eq, add_no, wib_t, clamp, nI_add, pk_mul, pk_sub, nor_, nand_, ndif_, shl_, sh1_, shr_, tbn, tb0, tb1, les_t, les_f, pk_div, rem_, remv, and31, wu1, wuc, wui, wu2, ws1, wsc, ws2, wv1, fX11_dampOf, a3, h0, a6, Nat.reduceAdd]
theorem c_shows (hW : WL L) (hC : CL h L) {t d w th : Nat} (ht : t < gnt L) (hd : 1 ≤ d) (hd2 : d ≤ 9) (hw : w ≤ 9) (hth : th ≤ 30) : ∃ h2, fX4_showsText h 3 (nI t) (nI d) (nI w) (nI th) = some (gShow L t d w th, h2) ∧ fr sq h h2 := by
  have n2 := hW.2.1
  obtain ⟨k1, k2, -⟩ := hW.2.2.2.2.1 t ht
  obtain ⟨c1, c2, -⟩ := hC.2.2.2.2.1 t ht
  have a7 := hC.2.2.2.2.2.2 (by omega)
  unfold gShow
  by_cases h1 : gkd L t = 1
  · have h2 : ¬ gkd L t = 2 := by omega
    rw [if_pos h1, if_neg h2]
    obtain ⟨h3, e3, f3⟩ := a7 h rfl rfl (w + 1) d (gga L t) th (by omega) (by omega) (by omega) (by omega)
    refine ⟨h3, ?_, f3⟩
    simp (disch := omega) only [↓reduceIte, wlet, Option.bind_some, true_and, and_true, not_true_eq_false, not_false_eq_true, reduceCtorEq, n0_, n1_, n2_, n3_, n4_, n5_, n6_, n7_, n8_, n9_, n10_, n12_, n16_, n18_, n20_, n21_, n22_, n24_, n25_, n26_, n27_, n28_, n29_, n30_, n31_, n32_, n40_, n41_, n42_, n43_, n45_, n48_, n54_, n57_, n58_, n59_, n60_, n61_, n63_, n96_, n97_, n99_, n100_, n122_, n126_, n200_, n255_, n375_, n400_, n1000_, n2000_, n9999_, n5764801_, n1000000_, n3000_, m1, m2, le_t, le_f, lt_t, lt_f, eq_t, eq_f, no_lt, no_le, le_no, lt_no, eq_no, no_eq, add_no, wib_t, clamp, nI_add, pk_mul, pk_sub, nor_, nand_, ndif_, shl_, sh1_, shr_, tbn, tb0, tb1, les_t, les_f, pk_div, rem_, remv, and31, wu1, wuc, wui, wu2, ws1, wsc, ws2, wv1, fX4_showsText, fX4_showsText_b21, fX4_showsText_b42, c1, c2, e3, Nat.reduceAdd]
  · rw [if_neg h1]
    by_cases h2 : gkd L t = 2
    · rw [if_pos h2]
      obtain ⟨h3, e3, f3⟩ := a7 h rfl rfl w (d - 1) (gga L t) th (by omega) (by omega) (by omega) (by omega)
      refine ⟨h3, ?_, f3⟩
      simp (disch := omega) only [↓reduceIte, wlet, Option.bind_some, true_and, and_true, not_true_eq_false, not_false_eq_true, reduceCtorEq, n0_, n1_, n2_, n3_, n4_, n5_, n6_, n7_, n8_, n9_, n10_, n12_, n16_, n18_, n20_, n21_, n22_, n24_, n25_, n26_, n27_, n28_, n29_, n30_, n31_, n32_, n40_, n41_, n42_, n43_, n45_, n48_, n54_, n57_, n58_, n59_, n60_, n61_, n63_, n96_, n97_, n99_, n100_, n122_, n126_, n200_, n255_, n375_, n400_, n1000_, n2000_, n9999_, n5764801_, n1000000_, n3000_, m1, m2, le_t, le_f, lt_t, lt_f, eq_t, eq_f, no_lt, no_le, le_no, lt_no, eq_no, no_eq, add_no, wib_t, clamp, nI_add, pk_mul, pk_sub, nor_, nand_, ndif_, shl_, sh1_, shr_, tbn, tb0, tb1, les_t, les_f, pk_div, rem_, remv, and31, wu1, wuc, wui, wu2, ws1, wsc, ws2, wv1, fX4_showsText, fX4_showsText_b21, fX4_showsText_b42, c1, c2, e3, Nat.reduceAdd]
    · rw [if_neg h2]
      obtain ⟨h3, e3, f3⟩ := a7 h rfl rfl w d (gga L t) th (by omega) (by omega) (by omega) (by omega)
      refine ⟨h3, ?_, f3⟩
      simp (disch := omega) only [↓reduceIte, wlet, Option.bind_some, true_and, and_true, not_true_eq_false, not_false_eq_true, reduceCtorEq, n0_, n1_, n2_, n3_, n4_, n5_, n6_, n7_, n8_, n9_, n10_, n12_, n16_, n18_, n20_, n21_, n22_, n24_, n25_, n26_, n27_, n28_, n29_, n30_, n31_, n32_, n40_, n41_, n42_, n43_, n45_, n48_, n54_, n57_, n58_, n59_, n60_, n61_, n63_, n96_, n97_, n99_, n100_, n122_, n126_, n200_, n255_, n375_, n400_, n1000_, n2000_, n9999_, n5764801_, n1000000_, n3000_, m1, m2, le_t, le_f, lt_t, lt_f, eq_t, eq_f, no_lt, no_le, le_no, lt_no, eq_no, no_eq, add_no, wib_t, clamp, nI_add, pk_mul, pk_sub, nor_, nand_, ndif_, shl_, sh1_, shr_, tbn, tb0, tb1, les_t, les_f, pk_div, rem_, remv, and31, wu1, wuc, wui, wu2, ws1, wsc, ws2, wv1, fX4_showsText, fX4_showsText_b21, fX4_showsText_b42, c1, c2, e3, Nat.reduceAdd]
theorem r_shows (hW : WL L) (hC : ML h L) {t d w th : Nat} (ht : t < gnt L) (hd : 1 ≤ d) (hd2 : d ≤ 9) (hw : w ≤ 9) (hth : th ≤ 30) : ∃ h2, fX11_showsBy h (nI t) (nI d) (nI th) (nI w) = some (gShow L t d w th, h2) ∧ fr sr h h2 := by
  have n2 := hW.2.1
  obtain ⟨k1, k2, -⟩ := hW.2.2.2.2.1 t ht
  obtain ⟨c1, c2, -⟩ := hC.2.2.2.2.1 t ht
  have a7 := hC.2.2.2.2.2.2 (by omega)
  unfold gShow
  by_cases h1 : gkd L t = 1
  · have h2 : ¬ gkd L t = 2 := by omega
    rw [if_pos h1, if_neg h2]
    obtain ⟨h3, e3, f3⟩ := a7 h rfl rfl (fun _ _ => rfl) t (w + 1) d (gga L t) th (by omega) (by omega) (by omega) (by omega) (by omega) c2
    refine ⟨h3, ?_, f3⟩
    simp (disch := omega) only [↓reduceIte, wlet, Option.bind_some, true_and, and_true, not_true_eq_false, not_false_eq_true, reduceCtorEq, n0_, n1_, n2_, n3_, n4_, n5_, n6_, n7_, n8_, n9_, n10_, n12_, n16_, n18_, n20_, n21_, n22_, n24_, n25_, n26_, n27_, n28_, n29_, n30_, n31_, n32_, n40_, n41_, n42_, n43_, n45_, n48_, n54_, n57_, n58_, n59_, n60_, n61_, n63_, n96_, n97_, n99_, n100_, n122_, n126_, n200_, n255_, n375_, n400_, n1000_, n2000_, n9999_, n5764801_, n1000000_, n3000_, m1, m2, le_t, le_f, lt_t, lt_f, eq_t, eq_f, no_lt, no_le, le_no, lt_no, eq_no, no_eq, add_no, wib_t, clamp, nI_add, pk_mul, pk_sub, nor_, nand_, ndif_, shl_, sh1_, shr_, tbn, tb0, tb1, les_t, les_f, pk_div, rem_, remv, and31, wu1, wuc, wui, wu2, ws1, wsc, ws2, wv1, fX11_showsBy, fX11_showsBy_b19, c1, e3]
  · rw [if_neg h1]
    by_cases h2 : gkd L t = 2
    · rw [if_pos h2]
      obtain ⟨h3, e3, f3⟩ := a7 h rfl rfl (fun _ _ => rfl) t w (d - 1) (gga L t) th (by omega) (by omega) (by omega) (by omega) (by omega) c2
      refine ⟨h3, ?_, f3⟩
      simp (disch := omega) only [↓reduceIte, wlet, Option.bind_some, true_and, and_true, not_true_eq_false, not_false_eq_true, reduceCtorEq, n0_, n1_, n2_, n3_, n4_, n5_, n6_, n7_, n8_, n9_, n10_, n12_, n16_, n18_, n20_, n21_, n22_, n24_, n25_, n26_, n27_, n28_, n29_, n30_, n31_, n32_, n40_, n41_, n42_, n43_, n45_, n48_, n54_, n57_, n58_, n59_, n60_, n61_, n63_, n96_, n97_, n99_, n100_, n122_, n126_, n200_, n255_, n375_, n400_, n1000_, n2000_, n9999_, n5764801_, n1000000_, n3000_, m1, m2, le_t, le_f, lt_t, lt_f, eq_t, eq_f, no_lt, no_le, le_no, lt_no, eq_no, no_eq, add_no, wib_t, clamp, nI_add, pk_mul, pk_sub, nor_, nand_, ndif_, shl_, sh1_, shr_, tbn, tb0, tb1, les_t, les_f, pk_div, rem_, remv, and31, wu1, wuc, wui, wu2, ws1, wsc, ws2, wv1, fX11_showsBy, fX11_showsBy_b19, c1, e3]
    · rw [if_neg h2]
      obtain ⟨h3, e3, f3⟩ := a7 h rfl rfl (fun _ _ => rfl) t w d (gga L t) th (by omega) (by omega) (by omega) (by omega) (by omega) c2
      refine ⟨h3, ?_, f3⟩
      simp (disch := omega) only [↓reduceIte, wlet, Option.bind_some, true_and, and_true, not_true_eq_false, not_false_eq_true, reduceCtorEq, n0_, n1_, n2_, n3_, n4_, n5_, n6_, n7_, n8_, n9_, n10_, n12_, n16_, n18_, n20_, n21_, n22_, n24_, n25_, n26_, n27_, n28_, n29_, n30_, n31_, n32_, n40_, n41_, n42_, n43_, n45_, n48_, n54_, n57_, n58_, n59_, n60_, n61_, n63_, n96_, n97_, n99_, n100_, n122_, n126_, n200_, n255_, n375_, n400_, n1000_, n2000_, n9999_, n5764801_, n1000000_, n3000_, m1, m2, le_t, le_f, lt_t, lt_f, eq_t, eq_f, no_lt, no_le, le_no, lt_no, eq_no, no_eq, add_no, wib_t, clamp, nI_add, pk_mul, pk_sub, nor_, nand_, ndif_, shl_, sh1_, shr_, tbn, tb0, tb1, les_t, les_f, pk_div, rem_, remv, and31, wu1, wuc, wui, wu2, ws1, wsc, ws2, wv1, fX11_showsBy, fX11_showsBy_b19, c1, e3]
theorem c_layerAt (hx : CX h L k S) {p t : Nat} {l0 l : List Nat} (hp : p < 18) (hl : S.2.2.2 p = l0 ++ t :: l) : fX6_layerAt h k (nI p) (nI l.length) = some (nI t) := by
  obtain ⟨hW, hC, hV, hS, hk⟩ := hx
  obtain ⟨v1, v2⟩ := hV.2.2.1 p hp
  obtain ⟨s1, s2⟩ := hS.2.2 p hp
  have n2 := hW.2.1
  have b := e8_lt9 v1 (fun t ht => by have := v2 t ht; omega)
  have b2 := e8_sh (l := l) (t := t) l0 (fun u hu => by have := v2 u (by rw [hl]; exact hu); omega)
  rw [hl, List.length_append, List.length_cons] at v1
  rw [hl] at s2 b
  simp (disch := omega) only [↓reduceIte, wlet, Option.bind_some, true_and, and_true, not_true_eq_false, not_false_eq_true, reduceCtorEq, n0_, n1_, n2_, n3_, n4_, n5_, n6_, n7_, n8_, n9_, n10_, n12_, n16_, n18_, n20_, n21_, n22_, n24_, n25_, n26_, n27_, n28_, n29_, n30_, n31_, n32_, n40_, n41_, n42_, n43_, n45_, n48_, n54_, n57_, n58_, n59_, n60_, n61_, n63_, n96_, n97_, n99_, n100_, n122_, n126_, n200_, n255_, n375_, n400_, n1000_, n2000_, n9999_, n5764801_, n1000000_, n3000_, m1, m2, le_t, le_f, lt_t, lt_f, eq_t, eq_f, no_lt, no_le, le_no, lt_no, eq_no, no_eq, add_no, wib_t, clamp, nI_add, pk_mul, pk_sub, nor_, nand_, ndif_, shl_, sh1_, shr_, tbn, tb0, tb1, les_t, les_f, pk_div, rem_, remv, and31, wu1, wuc, wui, wu2, ws1, wsc, ws2, wv1, fX6_layerAt, s2, b2]
theorem c_up (hx : CX h L k S) {i j w : Nat} (hi : i < gns L) (hj : j < 6) (hw : w ≤ 9) : ∃ h2, fX6_shown_b46 h k (nI i) (nI w) (nI (6 * i + j)) (nI (S.2.2.2 (6 * i + j)).length) = some (rI (gUp (fun t d => gShow L t d w (S.2.1 i)) 1 (S.2.2.2 (6 * i + j))), h2) ∧ fr sq h h2 := by
  obtain ⟨hW, hC, hV, hS, hk⟩ := id hx
  have n1 := hW.1
  have hp : 6 * i + j < 18 := by omega
  obtain ⟨v1, v2⟩ := hV.2.2.1 _ hp
  have hth := (hV.2.1 i (by omega)).1
  obtain ⟨e, he, g, fg, eg⟩ := wit_up (b := fun v : (Int32 × wSt) => fX6_shown_l49 v.2 k (nI i) (nI w) (nI (6 * i + j)) (nI (S.2.2.2 (6 * i + j)).length) v.1) (fun t d => gShow L t d w (S.2.1 i))
    (fun d r v => ∃ g l0, v = (nI d, g) ∧ fr sq h g ∧ S.2.2.2 (6 * i + j) = l0 ++ r ∧ d = l0.length + 1)
    (fun o e => ∃ g, fr sq h g ∧ e = (match o with | none => Sum.inl g | some t => Sum.inr (nI t, g)))
    (by
      rintro d t r v ⟨g, l0, rfl, fg, hl, hd⟩
      have hx2 := CX_fr hx fg
      have ht : t < gnt L := v2 t (by rw [hl]; simp)
      have hln : (S.2.2.2 (6 * i + j)).length = l0.length + (r.length + 1) := by rw [hl, List.length_append, List.length_cons]
      have hr : (S.2.2.2 (6 * i + j)).length - d = r.length := by omega
      obtain ⟨g2, e2, f2⟩ := c_shows hx2.1 hx2.2.1 ht (d := d) (w := w) (th := S.2.1 i) (by omega) (by omega) hw hth
      have a1 := c_layerAt hx2 hp hl
      have a2 := (hx2.2.2.2.1.2.1 i (by omega)).1
      refine ⟨fun hq => ?_, fun hq => ?_⟩
      · have hq : gShow L t d w (S.2.1 i) = true := hq
        rw [hq] at e2
        refine ⟨.inr (nI t, g2), ?_, g2, fr_tr fg f2, rfl⟩
        simp (disch := omega) only [↓reduceIte, wlet, Option.bind_some, true_and, and_true, not_true_eq_false, not_false_eq_true, reduceCtorEq, n0_, n1_, n2_, n3_, n4_, n5_, n6_, n7_, n8_, n9_, n10_, n12_, n16_, n18_, n20_, n21_, n22_, n24_, n25_, n26_, n27_, n28_, n29_, n30_, n31_, n32_, n40_, n41_, n42_, n43_, n45_, n48_, n54_, n57_, n58_, n59_, n60_, n61_, n63_, n96_, n97_, n99_, n100_, n122_, n126_, n200_, n255_, n375_, n400_, n1000_, n2000_, n9999_, n5764801_, n1000000_, n3000_, m1, m2, le_t, le_f, lt_t, lt_f, eq_t, eq_f, no_lt, no_le, le_no, lt_no, eq_no, no_eq, add_no, wib_t, clamp, nI_add, pk_mul, pk_sub, nor_, nand_, ndif_, shl_, sh1_, shr_, tbn, tb0, tb1, les_t, les_f, pk_div, rem_, remv, and31, wu1, wuc, wui, wu2, ws1, wsc, ws2, wv1, fX6_shown_l49, hr, a1, a2, e2]
      · have hq : gShow L t d w (S.2.1 i) = false := hq
        rw [hq] at e2
        refine ⟨(nI (d + 1), g2), ?_, g2, l0 ++ [t], rfl, fr_tr fg f2, by rw [hl]; simp, by rw [List.length_append, hd]; rfl⟩
        simp (disch := omega) only [↓reduceIte, wlet, Option.bind_some, true_and, and_true, not_true_eq_false, not_false_eq_true, reduceCtorEq, n0_, n1_, n2_, n3_, n4_, n5_, n6_, n7_, n8_, n9_, n10_, n12_, n16_, n18_, n20_, n21_, n22_, n24_, n25_, n26_, n27_, n28_, n29_, n30_, n31_, n32_, n40_, n41_, n42_, n43_, n45_, n48_, n54_, n57_, n58_, n59_, n60_, n61_, n63_, n96_, n97_, n99_, n100_, n122_, n126_, n200_, n255_, n375_, n400_, n1000_, n2000_, n9999_, n5764801_, n1000000_, n3000_, m1, m2, le_t, le_f, lt_t, lt_f, eq_t, eq_f, no_lt, no_le, le_no, lt_no, eq_no, no_eq, add_no, wib_t, clamp, nI_add, pk_mul, pk_sub, nor_, nand_, ndif_, shl_, sh1_, shr_, tbn, tb0, tb1, les_t, les_f, pk_div, rem_, remv, and31, wu1, wuc, wui, wu2, ws1, wsc, ws2, wv1, fX6_shown_l49, hr, a1, a2, e2, Bool.false_eq_true])
    (by
      rintro d v ⟨g, l0, rfl, fg, hl, hd⟩
      have hln : (S.2.2.2 (6 * i + j)).length = l0.length := by rw [hl, List.append_nil]
      refine ⟨.inl g, ?_, g, fg, rfl⟩
      simp (disch := omega) only [↓reduceIte, wlet, Option.bind_some, true_and, and_true, not_true_eq_false, not_false_eq_true, reduceCtorEq, n0_, n1_, n2_, n3_, n4_, n5_, n6_, n7_, n8_, n9_, n10_, n12_, n16_, n18_, n20_, n21_, n22_, n24_, n25_, n26_, n27_, n28_, n29_, n30_, n31_, n32_, n40_, n41_, n42_, n43_, n45_, n48_, n54_, n57_, n58_, n59_, n60_, n61_, n63_, n96_, n97_, n99_, n100_, n122_, n126_, n200_, n255_, n375_, n400_, n1000_, n2000_, n9999_, n5764801_, n1000000_, n3000_, m1, m2, le_t, le_f, lt_t, lt_f, eq_t, eq_f, no_lt, no_le, le_no, lt_no, eq_no, no_eq, add_no, wib_t, clamp, nI_add, pk_mul, pk_sub, nor_, nand_, ndif_, shl_, sh1_, shr_, tbn, tb0, tb1, les_t, les_f, pk_div, rem_, remv, and31, wu1, wuc, wui, wu2, ws1, wsc, ws2, wv1, fX6_shown_l49])
    (S.2.2.2 (6 * i + j)) 1 (nI 1, h) 3000 (by omega) ⟨h, [], rfl, fr_rf, rfl, rfl⟩
  refine ⟨g, ?_, fg⟩
  unfold fX6_shown_b46
  rw [n1_, he, eg]
  cases gUp (fun t d => gShow L t d w (S.2.1 i)) 1 (S.2.2.2 (6 * i + j)) <;> rfl
theorem c_shown (hx : CX h L k S) {i j w : Nat} (hi : i < gns L) (hj : j < 6) (hw : w ≤ 9) : ∃ h2, fX6_shown h k (nI i) (nI j) (nI w) = some (rI (gRead L S i j w), h2) ∧ fr sq h h2 := by
  obtain ⟨hW, hC, hV, hS, hk⟩ := id hx
  have n1 := hW.1
  have hp : 6 * i + j < 18 := by omega
  obtain ⟨v1, v2⟩ := hV.2.2.1 _ hp
  have hop := (hV.2.1 i (by omega)).2.1
  obtain ⟨s1, s2⟩ := hS.2.2 _ hp
  have s3 := (hS.2.1 i (by omega)).2
  obtain ⟨g, eg, fg⟩ := c_up hx hi hj hw
  unfold gRead
  cases hb : (S.2.2.1 i).testBit j with
  | false =>
    refine ⟨g, ?_, fg⟩
    by_cases h0 : (S.2.2.2 (6 * i + j)).length = 0
    · simp (disch := omega) only [↓reduceIte, wlet, Option.bind_some, true_and, and_true, not_true_eq_false, not_false_eq_true, reduceCtorEq, n0_, n1_, n2_, n3_, n4_, n5_, n6_, n7_, n8_, n9_, n10_, n12_, n16_, n18_, n20_, n21_, n22_, n24_, n25_, n26_, n27_, n28_, n29_, n30_, n31_, n32_, n40_, n41_, n42_, n43_, n45_, n48_, n54_, n57_, n58_, n59_, n60_, n61_, n63_, n96_, n97_, n99_, n100_, n122_, n126_, n200_, n255_, n375_, n400_, n1000_, n2000_, n9999_, n5764801_, n1000000_, n3000_, m1, m2, le_t, le_f, lt_t, lt_f, eq_t, eq_f, no_lt, no_le, le_no, lt_no, eq_no, no_eq, add_no, wib_t, clamp, nI_add, pk_mul, pk_sub, nor_, nand_, ndif_, shl_, sh1_, shr_, tbn, tb0, tb1, les_t, les_f, pk_div, rem_, remv, and31, wu1, wuc, wui, wu2, ws1, wsc, ws2, wv1, fX6_shown, s1, eg, Bool.false_eq_true]
    · simp (disch := omega) only [↓reduceIte, wlet, Option.bind_some, true_and, and_true, not_true_eq_false, not_false_eq_true, reduceCtorEq, n0_, n1_, n2_, n3_, n4_, n5_, n6_, n7_, n8_, n9_, n10_, n12_, n16_, n18_, n20_, n21_, n22_, n24_, n25_, n26_, n27_, n28_, n29_, n30_, n31_, n32_, n40_, n41_, n42_, n43_, n45_, n48_, n54_, n57_, n58_, n59_, n60_, n61_, n63_, n96_, n97_, n99_, n100_, n122_, n126_, n200_, n255_, n375_, n400_, n1000_, n2000_, n9999_, n5764801_, n1000000_, n3000_, m1, m2, le_t, le_f, lt_t, lt_f, eq_t, eq_f, no_lt, no_le, le_no, lt_no, eq_no, no_eq, add_no, wib_t, clamp, nI_add, pk_mul, pk_sub, nor_, nand_, ndif_, shl_, sh1_, shr_, tbn, tb0, tb1, les_t, les_f, pk_div, rem_, remv, and31, wu1, wuc, wui, wu2, ws1, wsc, ws2, wv1, fX6_shown, s1, s3, hb, eg, Bool.false_eq_true]
  | true =>
    have hne := hV.2.2.2.1 i j (by omega) hj hb
    cases hl : S.2.2.2 (6 * i + j) with
    | nil => exact absurd hl hne
    | cons t r =>
      have a1 := c_layerAt hx hp (l0 := []) (t := t) (l := r) (by rw [hl]; rfl)
      have hln : (S.2.2.2 (6 * i + j)).length - 1 = r.length := by rw [hl]; rfl
      have hln2 : 0 < (S.2.2.2 (6 * i + j)).length := by rw [hl, List.length_cons]; omega
      refine ⟨h, ?_, fr_rf⟩
      simp (disch := omega) only [↓reduceIte, wlet, Option.bind_some, true_and, and_true, not_true_eq_false, not_false_eq_true, reduceCtorEq, n0_, n1_, n2_, n3_, n4_, n5_, n6_, n7_, n8_, n9_, n10_, n12_, n16_, n18_, n20_, n21_, n22_, n24_, n25_, n26_, n27_, n28_, n29_, n30_, n31_, n32_, n40_, n41_, n42_, n43_, n45_, n48_, n54_, n57_, n58_, n59_, n60_, n61_, n63_, n96_, n97_, n99_, n100_, n122_, n126_, n200_, n255_, n375_, n400_, n1000_, n2000_, n9999_, n5764801_, n1000000_, n3000_, m1, m2, le_t, le_f, lt_t, lt_f, eq_t, eq_f, no_lt, no_le, le_no, lt_no, eq_no, no_eq, add_no, wib_t, clamp, nI_add, pk_mul, pk_sub, nor_, nand_, ndif_, shl_, sh1_, shr_, tbn, tb0, tb1, les_t, les_f, pk_div, rem_, remv, and31, wu1, wuc, wui, wu2, ws1, wsc, ws2, wv1, fX6_shown, s1, s3, hb, a1, hln, List.head?_cons, rI]
theorem r_up (hx : MX h L S) {i j w : Nat} (hi : i < gns L) (hj : j < 6) (hw : w ≤ 9) : ∃ e g, wit (fun v : (Int32 × Int32 × wSt) => fX11_readBy_l47 v.2.2 (nI i) (nI w) v.1 v.2.1) 3000 (nI 1, nI (e7 (S.2.2.2 (6 * i + j))), h) = some e ∧ fr sr h g ∧ e = (match gUp (fun t d => gShow L t d w (S.2.1 i)) 1 (S.2.2.2 (6 * i + j)) with | none => Sum.inl g | some t => Sum.inr (nI t, g)) := by
  obtain ⟨hW, hC, hV, hS⟩ := id hx
  have n1 := hW.1
  have n2 := hW.2.1
  have hp : 6 * i + j < 18 := by omega
  obtain ⟨v1, v2⟩ := hV.2.2.1 _ hp
  have hth := (hV.2.1 i (by omega)).1
  obtain ⟨e, he, g, fg, eg⟩ := wit_up (b := fun v : (Int32 × Int32 × wSt) => fX11_readBy_l47 v.2.2 (nI i) (nI w) v.1 v.2.1) (fun t d => gShow L t d w (S.2.1 i))
    (fun d r v => ∃ g l0, v = (nI d, nI (e7 r), g) ∧ fr sr h g ∧ S.2.2.2 (6 * i + j) = l0 ++ r ∧ d = l0.length + 1)
    (fun o e => ∃ g, fr sr h g ∧ e = (match o with | none => Sum.inl g | some t => Sum.inr (nI t, g)))
    (by
      rintro d t r v ⟨g, l0, rfl, fg, hl, hd⟩
      have hx2 := MX_sr hx fg
      have ht : t < gnt L := v2 t (by rw [hl]; simp)
      have hln : (S.2.2.2 (6 * i + j)).length = l0.length + (r.length + 1) := by rw [hl, List.length_append, List.length_cons]
      have hlt := e7_lt9 (l := t :: r) (by rw [List.length_cons]; omega) (fun u hu => by have := v2 u (by rw [hl]; exact List.mem_append_right _ hu); omega)
      have m1' : e7 (t :: r) % 7 = t + 1 := by rw [e7]; omega
      have m2' : e7 (t :: r) / 7 = e7 r := by rw [e7]; omega
      have m3' : 0 < e7 (t :: r) := by rw [e7]; omega
      obtain ⟨g2, e2, f2⟩ := r_shows hx2.1 hx2.2.1 ht (d := d) (w := w) (th := S.2.1 i) (by omega) (by omega) hw hth
      have a2 := (hx2.2.2.2.2.1 i (by omega)).1
      rw [Nat.zero_add] at a2
      have m5' : e7 (t :: r) - e7 r * 7 - 1 = t := by rw [e7]; omega
      refine ⟨fun hq => ?_, fun hq => ?_⟩
      · have hq : gShow L t d w (S.2.1 i) = true := hq
        rw [hq] at e2
        refine ⟨.inr (nI t, g2), ?_, g2, fr_tr fg f2, rfl⟩
        simp (disch := omega) only [↓reduceIte, wlet, Option.bind_some, true_and, and_true, not_true_eq_false, not_false_eq_true, reduceCtorEq, n0_, n1_, n2_, n3_, n4_, n5_, n6_, n7_, n8_, n9_, n10_, n12_, n16_, n18_, n20_, n21_, n22_, n24_, n25_, n26_, n27_, n28_, n29_, n30_, n31_, n32_, n40_, n41_, n42_, n43_, n45_, n48_, n54_, n57_, n58_, n59_, n60_, n61_, n63_, n96_, n97_, n99_, n100_, n122_, n126_, n200_, n255_, n375_, n400_, n1000_, n2000_, n9999_, n5764801_, n1000000_, n3000_, m1, m2, le_t, le_f, lt_t, lt_f, eq_t, eq_f, no_lt, no_le, le_no, lt_no, eq_no, no_eq, add_no, wib_t, clamp, nI_add, pk_mul, pk_sub, nor_, nand_, ndif_, shl_, sh1_, shr_, tbn, tb0, tb1, les_t, les_f, pk_div, rem_, remv, and31, wu1, wuc, wui, wu2, ws1, wsc, ws2, wv1, fX11_readBy_l47, m1', a2, e2, Nat.add_sub_cancel]
      · have hq : gShow L t d w (S.2.1 i) = false := hq
        rw [hq] at e2
        refine ⟨(nI (d + 1), nI (e7 r), g2), ?_, g2, l0 ++ [t], rfl, fr_tr fg f2, by rw [hl]; simp, by rw [List.length_append, hd]; rfl⟩
        simp (disch := omega) only [↓reduceIte, wlet, Option.bind_some, true_and, and_true, not_true_eq_false, not_false_eq_true, reduceCtorEq, n0_, n1_, n2_, n3_, n4_, n5_, n6_, n7_, n8_, n9_, n10_, n12_, n16_, n18_, n20_, n21_, n22_, n24_, n25_, n26_, n27_, n28_, n29_, n30_, n31_, n32_, n40_, n41_, n42_, n43_, n45_, n48_, n54_, n57_, n58_, n59_, n60_, n61_, n63_, n96_, n97_, n99_, n100_, n122_, n126_, n200_, n255_, n375_, n400_, n1000_, n2000_, n9999_, n5764801_, n1000000_, n3000_, m1, m2, le_t, le_f, lt_t, lt_f, eq_t, eq_f, no_lt, no_le, le_no, lt_no, eq_no, no_eq, add_no, wib_t, clamp, nI_add, pk_mul, pk_sub, nor_, nand_, ndif_, shl_, sh1_, shr_, tbn, tb0, tb1, les_t, les_f, pk_div, rem_, remv, and31, wu1, wuc, wui, wu2, ws1, wsc, ws2, wv1, fX11_readBy_l47, m1', m2', m5', a2, e2, Nat.add_sub_cancel, Bool.false_eq_true])
    (by
      rintro d v ⟨g, l0, rfl, fg, hl, hd⟩
      refine ⟨.inl g, ?_, g, fg, rfl⟩
      simp (disch := omega) only [↓reduceIte, wlet, Option.bind_some, true_and, and_true, not_true_eq_false, not_false_eq_true, reduceCtorEq, n0_, n1_, n2_, n3_, n4_, n5_, n6_, n7_, n8_, n9_, n10_, n12_, n16_, n18_, n20_, n21_, n22_, n24_, n25_, n26_, n27_, n28_, n29_, n30_, n31_, n32_, n40_, n41_, n42_, n43_, n45_, n48_, n54_, n57_, n58_, n59_, n60_, n61_, n63_, n96_, n97_, n99_, n100_, n122_, n126_, n200_, n255_, n375_, n400_, n1000_, n2000_, n9999_, n5764801_, n1000000_, n3000_, m1, m2, le_t, le_f, lt_t, lt_f, eq_t, eq_f, no_lt, no_le, le_no, lt_no, eq_no, no_eq, add_no, wib_t, clamp, nI_add, pk_mul, pk_sub, nor_, nand_, ndif_, shl_, sh1_, shr_, tbn, tb0, tb1, les_t, les_f, pk_div, rem_, remv, and31, wu1, wuc, wui, wu2, ws1, wsc, ws2, wv1, fX11_readBy_l47, e7])
    (S.2.2.2 (6 * i + j)) 1 (nI 1, nI (e7 (S.2.2.2 (6 * i + j))), h) 3000 (by omega) ⟨h, [], rfl, fr_rf, rfl, rfl⟩
  exact ⟨e, g, he, fg, eg⟩
theorem r_shown (hx : MX h L S) {i j w : Nat} (hi : i < gns L) (hj : j < 6) (hw : w ≤ 9) : ∃ h2, fX11_readBy h (nI i) (nI j) (nI w) = some (rI (gRead L S i j w), h2) ∧ fr sr h h2 := by
  obtain ⟨hW, hC, hV, hS⟩ := id hx
  have n1 := hW.1
  have n2 := hW.2.1
  have hp : 6 * i + j < 18 := by omega
  obtain ⟨v1, v2⟩ := hV.2.2.1 _ hp
  have hop := (hV.2.1 i (by omega)).2.1
  have hlt := e7_lt9 v1 (fun u hu => by have := v2 u hu; omega)
  have s1 := hS.2.2 _ hp
  rw [show 0 + 7 + (6 * i + j) = 7 + 6 * i + j by omega] at s1
  have s3 := (hS.2.1 i (by omega)).2
  rw [Nat.zero_add] at s3
  unfold gRead
  cases hb : (S.2.2.1 i).testBit j with
  | false =>
    obtain ⟨e, g, he, fg, eg⟩ := r_up hx hi hj hw
    refine ⟨g, ?_, fg⟩
    simp (disch := omega) only [↓reduceIte, wlet, Option.bind_some, true_and, and_true, not_true_eq_false, not_false_eq_true, reduceCtorEq, n0_, n1_, n2_, n3_, n4_, n5_, n6_, n7_, n8_, n9_, n10_, n12_, n16_, n18_, n20_, n21_, n22_, n24_, n25_, n26_, n27_, n28_, n29_, n30_, n31_, n32_, n40_, n41_, n42_, n43_, n45_, n48_, n54_, n57_, n58_, n59_, n60_, n61_, n63_, n96_, n97_, n99_, n100_, n122_, n126_, n200_, n255_, n375_, n400_, n1000_, n2000_, n9999_, n5764801_, n1000000_, n3000_, m1, m2, le_t, le_f, lt_t, lt_f, eq_t, eq_f, no_lt, no_le, le_no, lt_no, eq_no, no_eq, add_no, wib_t, clamp, nI_add, pk_mul, pk_sub, nor_, nand_, ndif_, shl_, sh1_, shr_, tbn, tb0, tb1, les_t, les_f, pk_div, rem_, remv, and31, wu1, wuc, wui, wu2, ws1, wsc, ws2, wv1, fX11_readBy, s1, s3, hb, he, eg, Bool.false_eq_true]
    cases gUp (fun t d => gShow L t d w (S.2.1 i)) 1 (S.2.2.2 (6 * i + j)) <;> rfl
  | true =>
    have hne := hV.2.2.2.1 i j (by omega) hj hb
    cases hl : S.2.2.2 (6 * i + j) with
    | nil => exact absurd hl hne
    | cons t r =>
      have ht : t < gnt L := v2 t (by rw [hl]; simp)
      rw [hl] at s1 hlt
      have m1' : e7 (t :: r) % 7 = t + 1 := by rw [e7]; omega
      refine ⟨h, ?_, fr_rf⟩
      simp (disch := omega) only [↓reduceIte, wlet, Option.bind_some, true_and, and_true, not_true_eq_false, not_false_eq_true, reduceCtorEq, n0_, n1_, n2_, n3_, n4_, n5_, n6_, n7_, n8_, n9_, n10_, n12_, n16_, n18_, n20_, n21_, n22_, n24_, n25_, n26_, n27_, n28_, n29_, n30_, n31_, n32_, n40_, n41_, n42_, n43_, n45_, n48_, n54_, n57_, n58_, n59_, n60_, n61_, n63_, n96_, n97_, n99_, n100_, n122_, n126_, n200_, n255_, n375_, n400_, n1000_, n2000_, n9999_, n5764801_, n1000000_, n3000_, m1, m2, le_t, le_f, lt_t, lt_f, eq_t, eq_f, no_lt, no_le, le_no, lt_no, eq_no, no_eq, add_no, wib_t, clamp, nI_add, pk_mul, pk_sub, nor_, nand_, ndif_, shl_, sh1_, shr_, tbn, tb0, tb1, les_t, les_f, pk_div, rem_, remv, and31, wu1, wuc, wui, wu2, ws1, wsc, ws2, wv1, fX11_readBy, s1, s3, hb, m1', Nat.add_sub_cancel, List.head?_cons, rI]
theorem gRead_lt (hW : WL L) (hV : WS L S) {i j w t : Nat} (hi : i < gns L) (hj : j < 6) (h : gRead L S i j w = some t) : t < gnt L := by
  have n1 := hW.1
  have v2 := (hV.2.2.1 (6 * i + j) (by omega)).2
  unfold gRead at h
  split at h
  · exact v2 t (List.mem_of_head? h)
  · exact v2 t (gUp_mem h)
end G32

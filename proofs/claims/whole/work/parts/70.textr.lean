/-! A TEXT'S LINE, whole -/
section G70
variable {h : wSt} {T : gTp} {b : Nat} {D : gLib}
theorem c_readText (hW : WL D) (hD : DC h D) (hs : SC h T b 0) : ∃ g, fX4_readText h 16 = some g ∧ SCs g T (gTx D T (b, 0)).1 ∧ fr sl h g ∧ ((gTx D T (b, 0)).1.2 = 0 → DC g (gTx D T (b, 0)).2) := by
  have d0 := hD.2.1
  have hss : SCs h T (b, 0) := hs
  have n3 := hW.2.1
  by_cases hn : gnt D < 6
  · rw [gTx_s hn]; dsimp only; exact c_readText0 hW hD hs hn
  · rw [gTx_f hn]; dsimp only
    obtain ⟨g, e1, s1', f1⟩ := c_fl hss (k := 5) (by omega) (by omega)
    refine ⟨g, ?_, s1', fr_mono f1 (fun c q => Or.inl q), fun q => absurd q (fl_ne (by omega))⟩
    simp (disch := omega) only [↓reduceIte, wlet, Option.bind_some, true_and, and_true, not_true_eq_false, not_false_eq_true, reduceCtorEq, n0_, n1_, n2_, n3_, n4_, n5_, n6_, n7_, n8_, n9_, n10_, n12_, n16_, n18_, n20_, n21_, n22_, n24_, n25_, n26_, n27_, n28_, n29_, n30_, n31_, n32_, n40_, n41_, n42_, n43_, n45_, n48_, n54_, n57_, n58_, n59_, n60_, n61_, n63_, n96_, n97_, n99_, n100_, n122_, n126_, n200_, n255_, n375_, n400_, n1000_, n2000_, n9999_, n5764801_, n1000000_, n3000_, m1, m2, le_t, le_f, lt_t, lt_f, eq_t, eq_f, no_lt, no_le, le_no, lt_no, eq_no, no_eq, add_no, wib_t, clamp, nI_add, pk_mul, pk_sub, nor_, nand_, ndif_, shl_, sh1_, shr_, tbn, tb0, tb1, les_t, les_f, pk_div, rem_, remv, and31, wu1, wuc, wui, wu2, ws1, wsc, ws2, wv1, n11_, n13_, n14_, n15_, n17_, n19_, n23_, n56_, n64_, fX4_readText, d0, e1]
theorem gIs_ne {i j : Nat} (hij : kWd i ≠ kWd j) (hi : gIs T b i = true) : gIs T b j = false := by
  unfold gIs at hi ⊢
  simp only [Bool.and_eq_true, decide_eq_true_eq] at hi
  rw [hi.2, decide_eq_false hij, Bool.and_false]
theorem r_kind (hs : SM h T b) {x : Int32} : ((fX11_isWord h (1277953191 : Int64)).bind (fun yr23 => if yr23 = true then fX11_readsText_b97 h x x (0 : Int32) else (fX11_isWord h (8878099 : Int64)).bind (fun yr24 => if yr24 = true then fX11_readsText_b97 h x x (1 : Int32) else (fX11_isWord h (261003578 : Int64)).bind (fun yr25 => if yr25 = true then fX11_readsText_b97 h x x (2 : Int32) else (fX11_isWord h (296522 : Int64)).bind (fun yr26 => if yr26 = true then fX11_readsText_b97 h x x (3 : Int32) else fX11_readsText_b97 h x x (-1 : Int32)))))) = fX11_readsText_b97 h x x (rI (gKd T b)) := by
  rw [r_w14 hs, r_w15 hs, r_w16 hs, r_w17 hs]
  simp only [Option.bind_some]
  unfold gKd
  cases h1 : gIs T b 14 with
  | true => rw [gIs_ne (j := 15) (by decide) h1, gIs_ne (j := 16) (by decide) h1, gIs_ne (j := 17) (by decide) h1]; rfl
  | false => cases gIs T b 15 <;> cases gIs T b 16 <;> cases gIs T b 17 <;> rfl
theorem DM_tx {g : wSt} (hD : DM h D) {a c e : Nat} {w : List Nat} (g0 : g.1 190 4 = nI (gnt D + 1)) (gi : ∀ i, i ≠ 4 → g.1 190 i = h.1 190 i) (g22 : ∀ i, g.1 196 i = if i = 6 + gnt D then nI a else h.1 196 i) (g23 : ∀ i, g.1 197 i = if i = 6 + gnt D then nI c else h.1 197 i) (g24 : ∀ i, g.1 198 i = if i = 6 + gnt D then nI e else h.1 198 i) (g21 : ∀ i, g.2 192 i = if i = 6 + gnt D then lN (eN 27 w) else h.2 192 i) (go : ∀ c, 193 ≤ c → c ≤ 195 → g.1 c = h.1 c) (g2 : g.2 191 = h.2 191) (g25 : g.1 199 = h.1 199) : DM g (dTx D a c e w) := by
  obtain ⟨d1, d2, d3, d4, d5, d6⟩ := hD
  refine ⟨by rw [gi 3 (by omega)]; exact d1, g0, by rw [gi 5 (by omega)]; exact d3, fun i hi => ?_, fun t ht => ?_, fun i hi => ?_⟩
  · have hi : i < gns D := hi
    rw [go 193 (by omega) (by omega), go 194 (by omega) (by omega), go 195 (by omega) (by omega), g2]
    have := d4 i hi
    unfold gln gtk gho gnm dTx
    simp only [if_false, false_and, Nat.reduceEqDiff, ite_self]
    exact this
  · have ht : t < gnt D + 1 := ht
    rw [g22, g23, g24, g21]
    by_cases e : t = gnt D
    · have e3 : 6 + t = 6 + gnt D := by omega
      rw [if_pos e3, if_pos e3, if_pos e3, if_pos e3]
      unfold gkd gga gtl gnm dTx
      simp only [e, if_true, and_self, if_false, Nat.reduceEqDiff, and_true]
    · have e3 : ¬ 6 + t = 6 + gnt D := by omega
      rw [if_neg e3, if_neg e3, if_neg e3, if_neg e3]
      have := d5 t (by omega)
      unfold gkd gga gtl gnm dTx
      simp only [e, if_false, and_false, Nat.reduceEqDiff]
      exact this
  · have hi : i < gnd D := hi
    rw [g25]
    have := d6 i hi
    unfold gdm dTx
    simp only [if_false, Nat.reduceEqDiff, ite_self]
    exact this
theorem r_readsText0 (hW : WL D) (hD : DM h D) (hs : SM h T b) (hn : gnt D < 6) : ∃ r g, fX11_readsText h = some (r, g) ∧ OK g T (gTs T 59 (gU5 D T (b, 0))) r ∧ RTd h g ∧ (r = true → DM g (dTx D ((gKd T (gS1 D T (b, 0)).1).getD 0) ((gIk T (gU2 D T (b, 0)).1).getD 0) (gTn T (gU4 D T (b, 0)).1) (gTw T (nx T (b, 0)).1))) := by
  have d0 := hD.2.1
  obtain ⟨g1, e1, s1', j1⟩ := r_next hs
  have k1 := RK_J j1
  have en : nx T (b, 0) = (gTe T b, 0) := by unfold nx; rfl
  have D1 := DM_fr hD k1.1 (fun c _ _ => by unfold s188; omega)
  obtain ⟨r2, g2, e2, o2, v2, k2⟩ := r_needsNew s1' (nm := gnm D 0) (nt := gnm D 1) D1.1 (fun i hi => ⟨(hW.2.2.2.1 i hi).2.2.2.2.2, (D1.2.2.2.1 i hi).2.2.2⟩) hW.1 D1.2.1 (fun i hi => ⟨(hW.2.2.2.2.1 i hi).2.2.2.2, (D1.2.2.2.2.1 i hi).2.2.2⟩) hW.2.1
  have eS1 : gNew T (gnm D 0) (gns D) (gnm D 1) (gnt D) (gTe T b, 0) = gS1 D T (b, 0) := by unfold gS1; rw [en]
  rw [eS1] at o2
  have c2 : ∀ c, c ≠ 188 → g2.1 c = h.1 c ∧ g2.2 c = h.2 c := fun c hc => ⟨by rw [(k2.1 c (by unfold s188; exact hc)).1, (k1.1 c (by unfold s188; exact hc)).1], by rw [(k2.1 c (by unfold s188; exact hc)).2, (k1.1 c (by unfold s188; exact hc)).2]⟩
  by_cases q1 : (gS1 D T (b, 0)).2 = 0
  · obtain ⟨hr2, s2⟩ := o2.1 q1
    subst hr2
    obtain ⟨v2, w2⟩ := v2 rfl
    obtain ⟨r, g, e3, o3, r3, gg⟩ := r_t97 s2 hn (o := gKd T (gS1 D T (b, 0)).1) (fun i q => by have := gKd_lt q; omega) v2 (by rw [(c2 190 (by omega)).1]; exact d0)
    rw [← eta0 q1] at o3 gg
    have rk := r_kind s2 (x := nI (6 + gnt D))
    rw [e3] at rk
    refine ⟨r, g, ?_, o3, RTd_tr (RTd_K (RK_tr k1 k2)) r3, fun q => ?_⟩
    · simp (disch := omega) only [↓reduceIte, wlet, Option.bind_some, true_and, and_true, not_true_eq_false, not_false_eq_true, reduceCtorEq, n0_, n1_, n2_, n3_, n4_, n5_, n6_, n7_, n8_, n9_, n10_, n12_, n16_, n18_, n20_, n21_, n22_, n24_, n25_, n26_, n27_, n28_, n29_, n30_, n31_, n32_, n40_, n41_, n42_, n43_, n45_, n48_, n54_, n57_, n58_, n59_, n60_, n61_, n63_, n96_, n97_, n99_, n100_, n122_, n126_, n200_, n255_, n375_, n400_, n1000_, n2000_, n9999_, n5764801_, n1000000_, n3000_, m1, m2, le_t, le_f, lt_t, lt_f, eq_t, eq_f, no_lt, no_le, le_no, lt_no, eq_no, no_eq, add_no, wib_t, clamp, nI_add, pk_mul, pk_sub, nor_, nand_, ndif_, shl_, sh1_, shr_, tbn, tb0, tb1, les_t, les_f, pk_div, rem_, remv, and31, wu1, wuc, wui, wu2, ws1, wsc, ws2, wv1, n11_, n13_, n14_, n15_, n17_, n19_, n23_, n56_, n64_, fX11_readsText, d0, e1, e2]
      simp only [n0_, n1_, n2_, n3_] at rk
      exact rk
    · obtain ⟨a1, a2, a3, a4, a5, a6, a7, a8⟩ := gg q
      rw [en]
      exact DM_tx hD a1 (fun i hi => by rw [a2 i hi, (c2 190 (by omega)).1]) (fun i => by rw [a3, (c2 196 (by omega)).1]) (fun i => by rw [a4, (c2 197 (by omega)).1]; rfl) (fun i => by rw [a5, (c2 198 (by omega)).1]; rfl) (fun i => by rw [a6, (c2 192 (by omega)).2]) (fun c h1 h2 => by rw [a7 c (by omega) (by omega) (by omega) (by omega) (by omega), (c2 c (by omega)).1]) (by rw [a8 191 (by omega) (by omega), (c2 191 (by omega)).2]) (by rw [a7 199 (by omega) (by omega) (by omega) (by omega) (by omega), (c2 199 (by omega)).1])
  · obtain ⟨hr2, s9⟩ := o2.2 q1
    subst hr2
    have e5' : gU5 D T (b, 0) = gS1 D T (b, 0) := by unfold gU5 gU4 gU3 gU2; rw [gTq_f q1, gTq_f q1, gTd_f q1, gNw_f q1, nx_f q1]
    rw [e5', gTs_f q1]
    refine ⟨false, g2, ?_, o2, RTd_K (RK_tr k1 k2), (by intro q; cases q)⟩
    simp (disch := omega) only [↓reduceIte, wlet, Option.bind_some, true_and, and_true, not_true_eq_false, not_false_eq_true, reduceCtorEq, n0_, n1_, n2_, n3_, n4_, n5_, n6_, n7_, n8_, n9_, n10_, n12_, n16_, n18_, n20_, n21_, n22_, n24_, n25_, n26_, n27_, n28_, n29_, n30_, n31_, n32_, n40_, n41_, n42_, n43_, n45_, n48_, n54_, n57_, n58_, n59_, n60_, n61_, n63_, n96_, n97_, n99_, n100_, n122_, n126_, n200_, n255_, n375_, n400_, n1000_, n2000_, n9999_, n5764801_, n1000000_, n3000_, m1, m2, le_t, le_f, lt_t, lt_f, eq_t, eq_f, no_lt, no_le, le_no, lt_no, eq_no, no_eq, add_no, wib_t, clamp, nI_add, pk_mul, pk_sub, nor_, nand_, ndif_, shl_, sh1_, shr_, tbn, tb0, tb1, les_t, les_f, pk_div, rem_, remv, and31, wu1, wuc, wui, wu2, ws1, wsc, ws2, wv1, n11_, n13_, n14_, n15_, n17_, n19_, n23_, n56_, n64_, fX11_readsText, d0, e1, e2, Option.isSome_none, Option.isSome_some, Bool.false_eq_true]
end G70

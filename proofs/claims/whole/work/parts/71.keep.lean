/-! THE DRAFT STAYS WELL -/
section G71
variable {h : wSt} {T : gTp} {b : Nat} {D : gLib}
theorem r_readsText (hW : WL D) (hD : DM h D) (hs : SM h T b) : ∃ r g, fX11_readsText h = some (r, g) ∧ OK g T (gTx D T (b, 0)).1 r ∧ RTd h g ∧ (r = true → DM g (gTx D T (b, 0)).2) := by
  have d0 := hD.2.1
  have n3 := hW.2.1
  by_cases hn : gnt D < 6
  · rw [gTx_s hn]; dsimp only; exact r_readsText0 hW hD hs hn
  · rw [gTx_f hn]; dsimp only
    obtain ⟨g, e1, g9, k1⟩ := r_fails hs 5
    refine ⟨false, g, ?_, ⟨fun q => absurd q (fl_ne (by omega)), fun _ => ⟨rfl, g9⟩⟩, RTd_K k1, (by intro q; cases q)⟩
    have hn3 : gnt D = 6 := by omega
    rw [hn3] at d0
    simp (disch := omega) only [↓reduceIte, wlet, Option.bind_some, true_and, and_true, not_true_eq_false, not_false_eq_true, reduceCtorEq, n0_, n1_, n2_, n3_, n4_, n5_, n6_, n7_, n8_, n9_, n10_, n12_, n16_, n18_, n20_, n21_, n22_, n24_, n25_, n26_, n27_, n28_, n29_, n30_, n31_, n32_, n40_, n41_, n42_, n43_, n45_, n48_, n54_, n57_, n58_, n59_, n60_, n61_, n63_, n96_, n97_, n99_, n100_, n122_, n126_, n200_, n255_, n375_, n400_, n1000_, n2000_, n9999_, n5764801_, n1000000_, n3000_, m1, m2, le_t, le_f, lt_t, lt_f, eq_t, eq_f, no_lt, no_le, le_no, lt_no, eq_no, no_eq, add_no, wib_t, clamp, nI_add, pk_mul, pk_sub, nor_, nand_, ndif_, shl_, sh1_, shr_, tbn, tb0, tb1, les_t, les_f, pk_div, rem_, remv, and31, wu1, wuc, wui, wu2, ws1, wsc, ws2, wv1, n11_, n13_, n14_, n15_, n17_, n19_, n23_, n56_, n64_, fX11_readsText, d0, e1, Nat.reduceAdd]
theorem WL_sk (hW : WL D) (hn : gns D < 3) {a c : Nat} {w : List Nat} (ha : 1 ≤ a ∧ a ≤ 6) (hc : 1 ≤ c ∧ c ≤ 30) (hw : WN w) : WL (dSk D a c w) := by
  obtain ⟨w1, w2, w3, w4, w5, w6⟩ := hW
  refine ⟨by show gns D + 1 ≤ 3; omega, w2, w3, fun i hi => ?_, fun t ht => ?_, fun i hi => ?_⟩
  · have hi : i < gns D + 1 := hi
    by_cases e : i = gns D
    · unfold gln gtk gho gnm dSk
      simp only [e, if_true, and_self, if_false, Nat.reduceEqDiff, and_true]
      exact ⟨ha.1, ha.2, hc.1, hc.2, Nat.two_pow_pos a, hw⟩
    · have := w4 i (by omega)
      unfold gln gtk gho gnm dSk
      simp only [e, if_false, and_false, Nat.reduceEqDiff]
      exact this
  · have := w5 t ht
    unfold gkd gga gtl gnm dSk
    simp only [if_false, false_and, Nat.reduceEqDiff, ite_self]
    exact this
  · have := w6 i hi
    unfold gdm dSk
    simp only [if_false, Nat.reduceEqDiff, ite_self]
    exact this
theorem WL_tx (hW : WL D) (hn : gnt D < 6) {a c e : Nat} {w : List Nat} (ha : a ≤ 3) (hc : c ≤ 1) (he : 1 ≤ e ∧ e ≤ 6) (hw : WN w) : WL (dTx D a c e w) := by
  obtain ⟨w1, w2, w3, w4, w5, w6⟩ := hW
  refine ⟨w1, by show gnt D + 1 ≤ 6; omega, w3, fun i hi => ?_, fun t ht => ?_, fun i hi => ?_⟩
  · have := w4 i hi
    unfold gln gtk gho gnm dTx
    simp only [if_false, false_and, Nat.reduceEqDiff, ite_self]
    exact this
  · have ht : t < gnt D + 1 := ht
    by_cases e : t = gnt D
    · unfold gkd gga gtl gnm dTx
      simp only [e, if_true, and_self, if_false, Nat.reduceEqDiff, and_true]
      exact ⟨ha, hc, he.1, he.2, hw⟩
    · have := w5 t (by omega)
      unfold gkd gga gtl gnm dTx
      simp only [e, if_false, and_false, Nat.reduceEqDiff]
      exact this
  · have := w6 i hi
    unfold gdm dTx
    simp only [if_false, Nat.reduceEqDiff, ite_self]
    exact this
end G71

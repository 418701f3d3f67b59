/-! A TEXT'S LINE, whole -/
section G70
variable {h : wSt} {T : gTp} {b : Nat} {D : gLib}
theorem c_readText (hW : WL D) (hD : DC h D) (hs : SC h T b 0) : ∃ g, fX4_readText h 16 = some g ∧ SCs g T (gTx D T (b, 0)).1 ∧ fr sl h g ∧ ((gTx D T (b, 0)).1.2 = 0 → DC g (gTx D T (b, 0)).2) := by
  have d0 := hD.2.1
  have hss : SCs h T (b, 0) := hs
  have n3 := hW.2.1
  by_cases hn : gnt D < 6
  · rw [gTx_s hn]; dsimp only; exact c_readText0 hW hD hs hn
  · rw [gTx_f hn]; dsimp only
    obtain ⟨g, e1, s1', f1⟩ := c_fl hss (k := 5) (by omega) (by omega)
    refine ⟨g, ?_, s1', fr_mono f1 (fun c q => Or.inl q), fun q => absurd q (fl_ne (by omega))⟩
    simp (disch := omega) only [↓reduceIte, wlet, Option.bind_some, true_and, and_true, not_true_eq_false, not_false_eq_true, reduceCtorEq, n0_, n1_, n2_, n3_, n4_, n5_, n6_, n7_, n8_, n9_, n10_, n12_, n16_, n18_, n20_, n21_, n22_, n24_, n25_, n26_, n27_, n28_, n29_, n30_, n31_, n32_, n40_, n41_, n42_, n43_, n45_, n48_, n54_, n57_, n58_, n59_, n60_, n61_, n63_, n96_, n97_, n99_, n100_, n122_, n126_, n200_, n255_, n375_, n400_, n1000_, n2000_, n9999_, n5764801_, n1000000_, n3000_, m1, m2, le_t, le_f, lt_t, lt_f, eq_t, eq_f, no_lt, no_le, le_no, lt_no, eq_no, no_eq, add_no, wib_t, clamp, nI_add, pk_mul, pk_sub, nor_, nand_, ndif_, shl_, sh1_, shr_, tbn, tb0, tb1, les_t, les_f, pk_div, rem_, remv, and31, wu1, wuc, wui, wu2, ws1, wsc, ws2, wv1, n11_, n13_, n14_, n15_, n17_, n19_, n23_, n56_, n64_, fX4_readText, d0, e1]
theorem gIs_ne {i j : Nat} (hij : kWd i ≠ kWd j) (hi : gIs T b i = true) : gIs T b j = false := by
  unfold gIs at hi ⊢
  simp only [Bool.and_eq_true, decide_eq_true_eq] at hi
  rw [hi.2, decide_eq_false hij, Bool.and_false]
theorem r_kind (hs : SM h T b) {x : Int32} : ((fX11_isWord h (1277953191 : Int64)).bind (fun yr23 => if yr23 = true then fX11_readsText_b97 h x x (0 : Int32) else (fX11_isWord h (8878099 : Int64)).bind (fun yr24 => if yr24 = true then fX11_readsText_b97 h x x (1 : Int32) else (fX11_isWord h (261003578 : Int64)).bind (fun yr25 => if yr25 = true then fX11_readsText_b97 h x x (2 : Int32) else (fX11_isWord h (296522 : Int64)).bind (fun yr26 => if yr26 = true then fX11_readsText_b97 h x x (3 : Int32) else fX11_readsText_b97 h x x (-1 : Int32)))))) = fX11_readsText_b97 h x x (rI (gKd T b)) := by
  rw [r_w14 hs, r_w15 hs, r_w16 hs, r_w17 hs]
  simp only [Option.bind_some]
  unfold gKd
  cases h1 : gIs T b 14 with
  | true => rw [gIs_ne (j := 15) (by decide) h1, gIs_ne (j := 16) (by decide) h1, gIs_ne (j := 17) (by decide) h1]; rfl
  | false => cases gIs T b 15 <;> cases gIs T b 16 <;> cases gIs T b 17 <;> rfl
end G70

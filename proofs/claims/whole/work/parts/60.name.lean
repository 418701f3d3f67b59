/-! NAMES, and what the readers need -/
def gNf (nm : Nat → List Nat) (n : Nat) (w : List Nat) : Option Nat := gFn (fun i => decide (nm i = w)) n 0
theorem nx_f {T : gTp} {s : Nat × Nat} (h : s.2 ≠ 0) : nx T s = s := by unfold nx; rw [if_neg h]
theorem fl_f {T : gTp} {k : Nat} {s : Nat × Nat} (h : s.2 ≠ 0) : fl T k s = s := by unfold fl; rw [if_neg h]
theorem gNw_f {T : gTp} {lo hi : Nat} {s : Nat × Nat} (h : s.2 ≠ 0) : gNw T lo hi s = s := by
  unfold gNw
  rw [fl_f h, fl_f h]
  split
  · split <;> rfl
  · rfl
theorem fl_ne {T : gTp} {k : Nat} {s : Nat × Nat} (hk : 1 ≤ k) : (fl T k s).2 ≠ 0 := by
  unfold fl
  split
  · show k + 16 * _ ≠ 0; omega
  · rename_i h; exact h
theorem nx_2 (T : gTp) (s : Nat × Nat) : (nx T s).2 = s.2 := by
  unfold nx
  split
  · rename_i h; exact h.symm
  · rfl
/-- a sign or a word that must stand here -/
def gTs (T : gTp) (x : Nat) (s : Nat × Nat) : Nat × Nat := if gIg T s.1 x then nx T s else fl T 1 s
def gTd (T : gTp) (i : Nat) (s : Nat × Nat) : Nat × Nat := if gIs T s.1 i then nx T s else fl T 1 s
theorem gTs_f {T : gTp} {x : Nat} {s : Nat × Nat} (h : s.2 ≠ 0) : gTs T x s = s := by unfold gTs; rw [nx_f h, fl_f h, ite_self]
theorem gTd_f {T : gTp} {x : Nat} {s : Nat × Nat} (h : s.2 ≠ 0) : gTd T x s = s := by unfold gTd; rw [nx_f h, fl_f h, ite_self]
def gNew (T : gTp) (a : Nat → List Nat) (n : Nat) (c : Nat → List Nat) (m : Nat) (s : Nat × Nat) : Nat × Nat := nx T (if gNa T s.1 then (if (gNf a n (gTw T s.1)).isNone && (gNf c m (gTw T s.1)).isNone then s else fl T 3 s) else fl T 1 s)
def gTo (T : gTp) (a : Nat → List Nat) (n : Nat) (s : Nat × Nat) : Nat × Nat := nx T (if gNa T s.1 then (if (gNf a n (gTw T s.1)).isSome then s else fl T 2 s) else fl T 1 s)
theorem gNew_f {T : gTp} {a c : Nat → List Nat} {n m : Nat} {s : Nat × Nat} (h : s.2 ≠ 0) : gNew T a n c m s = s := by unfold gNew; rw [fl_f h, fl_f h, ite_self, ite_self, nx_f h]
theorem gTo_f {T : gTp} {a : Nat → List Nat} {n : Nat} {s : Nat × Nat} (h : s.2 ≠ 0) : gTo T a n s = s := by unfold gTo; rw [fl_f h, fl_f h, ite_self, ite_self, nx_f h]
/-- what the other side's reading leaves alone -/
def RK (h g : wSt) : Prop := fr s188 h g ∧ (∀ j, j ≠ 4 → j ≠ 5 → j ≠ 6 → j ≠ 8 → j ≠ 9 → j ≠ 36 → g.1 188 j = h.1 188 j) ∧ ∀ j, j ≠ 7 → j ≠ 37 → g.2 188 j = h.2 188 j
theorem RK_rf {h : wSt} : RK h h := ⟨fr_rf, fun _ _ _ _ _ _ _ => rfl, fun _ _ _ => rfl⟩
theorem RK_tr {h g f : wSt} (a : RK h g) (b : RK g f) : RK h f := ⟨fr_tr a.1 b.1, fun j h1 h2 h3 h4 h5 h6 => (b.2.1 j h1 h2 h3 h4 h5 h6).trans (a.2.1 j h1 h2 h3 h4 h5 h6), fun j hj hj2 => (b.2.2 j hj hj2).trans (a.2.2 j hj hj2)⟩
theorem RK_J {h g : wSt} (a : RJ h g) : RK h g := ⟨a.1, fun j h1 h2 h3 h4 _ _ => a.2.1 j h1 h2 h3 h4, fun j hj _ => a.2.2 j hj⟩
theorem RK_9 {h : wSt} {x : Int32} : RK h (wuI h 188 9 x) := ⟨fr_wuI rfl, fun j h1 h2 h3 h4 h5 h6 => wui h5, fun _ _ _ => rfl⟩
theorem RK_36 {h : wSt} {x : Int32} : RK h (wuI h 188 36 x) := ⟨fr_wuI rfl, fun j h1 h2 h3 h4 h5 h6 => wui h6, fun _ _ _ => rfl⟩
theorem RK_37 {h : wSt} {x : Int64} : RK h (wuJ h 188 37 x) := ⟨fr_wuJ rfl, fun j _ _ _ _ _ _ => rfl, fun j h1 h2 => wvi h2⟩
section G60
variable {h : wSt} {T : gTp} {b f : Nat}
theorem SM_u {h g : wSt} (hs : SM h T b) (e : ∀ j, j = 3 ∨ j = 4 ∨ j = 5 ∨ j = 6 ∨ j = 8 → g.1 188 j = h.1 188 j) (e2 : g.2 188 7 = h.2 188 7) (e3 : g.1 189 = h.1 189) : SM g T b := by
  obtain ⟨⟨t0, t1⟩, hW, hb, s6, s5, s4, s8, s7⟩ := hs
  exact ⟨⟨by rw [e 3 (by omega)]; exact t0, fun i hi => by rw [e3]; exact t1 i hi⟩, hW, hb, by rw [e 6 (by omega)]; exact s6, by rw [e 5 (by omega)]; exact s5, by rw [e 4 (by omega)]; exact s4, fun q => by rw [e 8 (by omega)]; exact s8 q, fun q => by rw [e2]; exact s7 q⟩
theorem SM_fr {h g : wSt} {P : Nat → Prop} (hs : SM h T b) (f : fr P h g) (h1 : ¬ P 188) (h2 : ¬ P 189) : SM g T b := SM_u hs (fun j _ => by rw [fr_at f h1]) (by rw [(f 188 h1).2]) (fr_at f h2)
theorem SC_fr {h g : wSt} {P : Nat → Prop} (hs : SC h T b f) (fg : fr P h g) (h1 : ¬ P 1) (h2 : ¬ P 2) : SC g T b f := by
  obtain ⟨⟨t0, t1⟩, hW, hb, s2, s3, s4, s7, s8, s9, s10⟩ := hs
  have e1 := fr_at fg h1
  have e2 := fr_at fg h2
  exact ⟨⟨by rw [e1]; exact t0, fun i hi => by rw [e2]; exact t1 i hi⟩, hW, hb, by rw [e1]; exact s2, by rw [e1]; exact s3, by rw [e1]; exact s4, by rw [e1]; exact s7, s8, fun q => by rw [e1]; exact s9 q, fun q => by rw [(fg 1 h1).2]; exact s10 q⟩
theorem r_fails (hs : SM h T b) (k : Nat) : ∃ g, fX11_fails h (nI k) = some (false, g) ∧ g.1 188 9 = nI (fl T k (b, 0)).2 ∧ RK h g := by
  have s5 := hs.2.2.2.2.1
  refine ⟨wuI h 188 9 (nI (k + 16 * gPl T b)), ?_, wu1, RK_9⟩
  simp (disch := omega) only [↓reduceIte, wlet, Option.bind_some, true_and, and_true, not_true_eq_false, not_false_eq_true, reduceCtorEq, n0_, n1_, n2_, n3_, n4_, n5_, n6_, n7_, n8_, n9_, n10_, n12_, n16_, n18_, n20_, n21_, n22_, n24_, n25_, n26_, n27_, n28_, n29_, n30_, n31_, n32_, n40_, n41_, n42_, n43_, n45_, n48_, n54_, n57_, n58_, n59_, n60_, n61_, n63_, n96_, n97_, n99_, n100_, n122_, n126_, n200_, n255_, n375_, n400_, n1000_, n2000_, n9999_, n5764801_, n1000000_, n3000_, m1, m2, le_t, le_f, lt_t, lt_f, eq_t, eq_f, no_lt, no_le, le_no, lt_no, eq_no, no_eq, add_no, wib_t, clamp, nI_add, pk_mul, pk_sub, nor_, nand_, ndif_, shl_, sh1_, shr_, tbn, tb0, tb1, les_t, les_f, pk_div, rem_, remv, and31, wu1, wuc, wui, wu2, ws1, wsc, ws2, wv1, n11_, n13_, n14_, n15_, n17_, n19_, n23_, n56_, n64_, fX11_fails, s5]
theorem c_isName (hs : SC h T b f) : fX7_isName h = some (gNa T b) := by
  have s2 := hs.2.2.2.1
  have hk0 := gTk_0 hs.2.2.1
  have e : ∀ i, i < 20 → fX7_isWord h (i + 1) = some (gIs T b (i + 1)) := fun i hi => c_isWord hs (by omega) (by omega)
  unfold gNa
  by_cases hk : gTk T b = 1
  · rw [decide_eq_true hk, Bool.true_and]
    obtain ⟨x, hx⟩ : ∃ x : Nat → Bool, x = fun i => decide (gTw T b = kWd (i + 1)) := ⟨_, rfl⟩
    rw [← hx]
    have e2 : ∀ i, i < 20 → fX7_isWord h (i + 1) = some (x i) := fun i hi => by rw [e i hi, hx]; unfold gIs; rw [decide_eq_true hk, Bool.true_and]
    have b0 : fX7_isName_b180 h = some false := by
      simp (disch := omega) only [↓reduceIte, wlet, Option.bind_some, true_and, and_true, not_true_eq_false, not_false_eq_true, reduceCtorEq, n0_, n1_, n2_, n3_, n4_, n5_, n6_, n7_, n8_, n9_, n10_, n12_, n16_, n18_, n20_, n21_, n22_, n24_, n25_, n26_, n27_, n28_, n29_, n30_, n31_, n32_, n40_, n41_, n42_, n43_, n45_, n48_, n54_, n57_, n58_, n59_, n60_, n61_, n63_, n96_, n97_, n99_, n100_, n122_, n126_, n200_, n255_, n375_, n400_, n1000_, n2000_, n9999_, n5764801_, n1000000_, n3000_, m1, m2, le_t, le_f, lt_t, lt_f, eq_t, eq_f, no_lt, no_le, le_no, lt_no, eq_no, no_eq, add_no, wib_t, clamp, nI_add, pk_mul, pk_sub, nor_, nand_, ndif_, shl_, sh1_, shr_, tbn, tb0, tb1, les_t, les_f, pk_div, rem_, remv, and31, wu1, wuc, wui, wu2, ws1, wsc, ws2, wv1, n11_, n13_, n14_, n15_, n17_, n19_, n23_, n56_, n64_, fX7_isName_b180, fX7_isName_b185, s2, hk]
    have b1 : fX7_isName_b185 h (nI 0) = some true := by
      simp (disch := omega) only [↓reduceIte, wlet, Option.bind_some, true_and, and_true, not_true_eq_false, not_false_eq_true, reduceCtorEq, n0_, n1_, n2_, n3_, n4_, n5_, n6_, n7_, n8_, n9_, n10_, n12_, n16_, n18_, n20_, n21_, n22_, n24_, n25_, n26_, n27_, n28_, n29_, n30_, n31_, n32_, n40_, n41_, n42_, n43_, n45_, n48_, n54_, n57_, n58_, n59_, n60_, n61_, n63_, n96_, n97_, n99_, n100_, n122_, n126_, n200_, n255_, n375_, n400_, n1000_, n2000_, n9999_, n5764801_, n1000000_, n3000_, m1, m2, le_t, le_f, lt_t, lt_f, eq_t, eq_f, no_lt, no_le, le_no, lt_no, eq_no, no_eq, add_no, wib_t, clamp, nI_add, pk_mul, pk_sub, nor_, nand_, ndif_, shl_, sh1_, shr_, tbn, tb0, tb1, les_t, les_f, pk_div, rem_, remv, and31, wu1, wuc, wui, wu2, ws1, wsc, ws2, wv1, n11_, n13_, n14_, n15_, n17_, n19_, n23_, n56_, n64_, fX7_isName_b185, s2, hk]
    have e0 := e2 0 (by omega)
    have e1 := e2 1 (by omega)
    have e3 := e2 2 (by omega)
    have e4 := e2 3 (by omega)
    have e5 := e2 4 (by omega)
    have e6 := e2 5 (by omega)
    have e7 := e2 6 (by omega)
    have e8 := e2 7 (by omega)
    have e9 := e2 8 (by omega)
    have e10 := e2 9 (by omega)
    have e11 := e2 10 (by omega)
    have e12 := e2 11 (by omega)
    have e13 := e2 12 (by omega)
    have e14 := e2 13 (by omega)
    have e15 := e2 14 (by omega)
    have e16 := e2 15 (by omega)
    have e17 := e2 16 (by omega)
    have e18 := e2 17 (by omega)
    have e19 := e2 18 (by omega)
    have e20 := e2 19 (by omega)
    simp only [Nat.reduceAdd] at e0 e1 e3 e4 e5 e6 e7 e8 e9 e10 e11 e12 e13 e14 e15 e16 e17 e18 e19 e20
    unfold fX7_isName
    rw [e0, e1, e3, e4, e5, e6, e7, e8, e9, e10, e11, e12, e13, e14, e15, e16, e17, e18, e19, e20, b0, n0_, b1]
    simp only [Option.bind_some, gFn, Nat.reduceAdd]
    generalize x 0 = x1
    generalize x 1 = x2
    generalize x 2 = x3
    generalize x 3 = x4
    generalize x 4 = x5
    generalize x 5 = x6
    generalize x 6 = x7
    generalize x 7 = x8
    generalize x 8 = x9
    generalize x 9 = x10
    generalize x 10 = x11
    generalize x 11 = x12
    generalize x 12 = x13
    generalize x 13 = x14
    generalize x 14 = x15
    generalize x 15 = x16
    generalize x 16 = x17
    generalize x 17 = x18
    generalize x 18 = x19
    generalize x 19 = x20
    cases x1 with
    | true => rfl
    | false => cases x2 with
      | true => rfl
      | false => cases x3 with
        | true => rfl
        | false => cases x4 with
          | true => rfl
          | false => cases x5 with
            | true => rfl
            | false => cases x6 with
              | true => rfl
              | false => cases x7 with
                | true => rfl
                | false => cases x8 with
                  | true => rfl
                  | false => cases x9 with
                    | true => rfl
                    | false => cases x10 with
                      | true => rfl
                      | false => cases x11 with
                        | true => rfl
                        | false => cases x12 with
                          | true => rfl
                          | false => cases x13 with
                            | true => rfl
                            | false => cases x14 with
                              | true => rfl
                              | false => cases x15 with
                                | true => rfl
                                | false => cases x16 with
                                  | true => rfl
                                  | false => cases x17 with
                                    | true => rfl
                                    | false => cases x18 with
                                      | true => rfl
                                      | false => cases x19 with
                                        | true => rfl
                                        | false => cases x20 with
                                          | true => rfl
                                          | false => rfl
  · rw [decide_eq_false hk, Bool.false_and]
    have e2 : ∀ i, i < 20 → fX7_isWord h (i + 1) = some false := fun i hi => by rw [e i hi]; unfold gIs; rw [decide_eq_false hk, Bool.false_and]
    have e0 := e2 0 (by omega)
    have e1 := e2 1 (by omega)
    have e3 := e2 2 (by omega)
    have e4 := e2 3 (by omega)
    have e5 := e2 4 (by omega)
    have e6 := e2 5 (by omega)
    have e7 := e2 6 (by omega)
    have e8 := e2 7 (by omega)
    have e9 := e2 8 (by omega)
    have e10 := e2 9 (by omega)
    have e11 := e2 10 (by omega)
    have e12 := e2 11 (by omega)
    have e13 := e2 12 (by omega)
    have e14 := e2 13 (by omega)
    have e15 := e2 14 (by omega)
    have e16 := e2 15 (by omega)
    have e17 := e2 16 (by omega)
    have e18 := e2 17 (by omega)
    have e19 := e2 18 (by omega)
    have e20 := e2 19 (by omega)
    simp only [Nat.reduceAdd] at e0 e1 e3 e4 e5 e6 e7 e8 e9 e10 e11 e12 e13 e14 e15 e16 e17 e18 e19 e20
    simp (disch := omega) only [↓reduceIte, wlet, Option.bind_some, true_and, and_true, not_true_eq_false, not_false_eq_true, reduceCtorEq, n0_, n1_, n2_, n3_, n4_, n5_, n6_, n7_, n8_, n9_, n10_, n12_, n16_, n18_, n20_, n21_, n22_, n24_, n25_, n26_, n27_, n28_, n29_, n30_, n31_, n32_, n40_, n41_, n42_, n43_, n45_, n48_, n54_, n57_, n58_, n59_, n60_, n61_, n63_, n96_, n97_, n99_, n100_, n122_, n126_, n200_, n255_, n375_, n400_, n1000_, n2000_, n9999_, n5764801_, n1000000_, n3000_, m1, m2, le_t, le_f, lt_t, lt_f, eq_t, eq_f, no_lt, no_le, le_no, lt_no, eq_no, no_eq, add_no, wib_t, clamp, nI_add, pk_mul, pk_sub, nor_, nand_, ndif_, shl_, sh1_, shr_, tbn, tb0, tb1, les_t, les_f, pk_div, rem_, remv, and31, wu1, wuc, wui, wu2, ws1, wsc, ws2, wv1, n11_, n13_, n14_, n15_, n17_, n19_, n23_, n56_, n64_, fX7_isName, fX7_isName_b185, e0, e1, e3, e4, e5, e6, e7, e8, e9, e10, e11, e12, e13, e14, e15, e16, e17, e18, e19, e20, s2, Option.isSome_none, Option.isSome_some, Bool.false_eq_true]
theorem r_isKept (hs : SM h T b) : fX11_isKept h = some (!gNa T b) := by
  obtain ⟨-, hW, hb, s6, -, -, -, s7⟩ := hs
  have hk0 := gTk_0 hb
  unfold gNa
  by_cases hk : gTk T b = 1
  · rw [decide_eq_true hk, Bool.true_and]
    have s7 := s7 hk
    obtain ⟨w1, w2, w3⟩ := gTw_W hb hk
    obtain ⟨x, hx⟩ : ∃ x : Nat → Bool, x = fun i => decide (gTw T b = kWd (i + 1)) := ⟨_, rfl⟩
    rw [← hx]
    have e : ∀ i, i < 20 → ∀ (y z : Option Bool), (if h.2 188 7 = lN (eN 27 (kWd (i + 1))) then y else z) = if x i = true then y else z := by
      intro i hi y z
      obtain ⟨kb1, kb2⟩ := kw_b (i + 1) (by omega)
      rw [s7, hx]
      show _ = if decide (gTw T b = kWd (i + 1)) = true then y else z
      by_cases hq : gTw T b = kWd (i + 1)
      · rw [if_pos (by rw [hq]), decide_eq_true hq, if_pos rfl]
      · rw [if_neg (fun q => hq (eN_inj (b := 27) (by omega) w3 kb2 ((pk_lEQ (eN_b (by omega) (by omega) w2 w3) (eN_b (by omega) (by omega) kb1 kb2)).mp q))), decide_eq_false hq, if_neg (by decide)]
    unfold fX11_isKept
    rw [s6, hk, if_pos (show nI 1 = 1 from rfl)]
    rw [kc1, kc2, kc3, kc4, kc5, kc6, kc7, kc8, kc9, kc10, kc11, kc12, kc13, kc14, kc15, kc16, kc17, kc18, kc19, kc20]
    have e0 := e 0 (by omega)
    have e1 := e 1 (by omega)
    have e2 := e 2 (by omega)
    have e3 := e 3 (by omega)
    have e4 := e 4 (by omega)
    have e5 := e 5 (by omega)
    have e6 := e 6 (by omega)
    have e7 := e 7 (by omega)
    have e8 := e 8 (by omega)
    have e9 := e 9 (by omega)
    have e10 := e 10 (by omega)
    have e11 := e 11 (by omega)
    have e12 := e 12 (by omega)
    have e13 := e 13 (by omega)
    have e14 := e 14 (by omega)
    have e15 := e 15 (by omega)
    have e16 := e 16 (by omega)
    have e17 := e 17 (by omega)
    have e18 := e 18 (by omega)
    have e19 := e 19 (by omega)
    simp only [Nat.reduceAdd] at e0 e1 e2 e3 e4 e5 e6 e7 e8 e9 e10 e11 e12 e13 e14 e15 e16 e17 e18 e19
    rw [e0, e1, e2, e3, e4, e5, e6, e7, e8, e9, e10, e11, e12, e13, e14, e15, e16, e17, e18, e19]
    simp only [gFn, Nat.reduceAdd, fX11_isKept_b230]
    generalize x 0 = x1
    generalize x 1 = x2
    generalize x 2 = x3
    generalize x 3 = x4
    generalize x 4 = x5
    generalize x 5 = x6
    generalize x 6 = x7
    generalize x 7 = x8
    generalize x 8 = x9
    generalize x 9 = x10
    generalize x 10 = x11
    generalize x 11 = x12
    generalize x 12 = x13
    generalize x 13 = x14
    generalize x 14 = x15
    generalize x 15 = x16
    generalize x 16 = x17
    generalize x 17 = x18
    generalize x 18 = x19
    generalize x 19 = x20
    cases x1 with
    | true => rfl
    | false => cases x2 with
      | true => rfl
      | false => cases x3 with
        | true => rfl
        | false => cases x4 with
          | true => rfl
          | false => cases x5 with
            | true => rfl
            | false => cases x6 with
              | true => rfl
              | false => cases x7 with
                | true => rfl
                | false => cases x8 with
                  | true => rfl
                  | false => cases x9 with
                    | true => rfl
                    | false => cases x10 with
                      | true => rfl
                      | false => cases x11 with
                        | true => rfl
                        | false => cases x12 with
                          | true => rfl
                          | false => cases x13 with
                            | true => rfl
                            | false => cases x14 with
                              | true => rfl
                              | false => cases x15 with
                                | true => rfl
                                | false => cases x16 with
                                  | true => rfl
                                  | false => cases x17 with
                                    | true => rfl
                                    | false => cases x18 with
                                      | true => rfl
                                      | false => cases x19 with
                                        | true => rfl
                                        | false => cases x20 with
                                          | true => rfl
                                          | false => rfl
  · rw [decide_eq_false hk, Bool.false_and, Bool.not_false]
    simp (disch := omega) only [↓reduceIte, wlet, Option.bind_some, true_and, and_true, not_true_eq_false, not_false_eq_true, reduceCtorEq, n0_, n1_, n2_, n3_, n4_, n5_, n6_, n7_, n8_, n9_, n10_, n12_, n16_, n18_, n20_, n21_, n22_, n24_, n25_, n26_, n27_, n28_, n29_, n30_, n31_, n32_, n40_, n41_, n42_, n43_, n45_, n48_, n54_, n57_, n58_, n59_, n60_, n61_, n63_, n96_, n97_, n99_, n100_, n122_, n126_, n200_, n255_, n375_, n400_, n1000_, n2000_, n9999_, n5764801_, n1000000_, n3000_, m1, m2, le_t, le_f, lt_t, lt_f, eq_t, eq_f, no_lt, no_le, le_no, lt_no, eq_no, no_eq, add_no, wib_t, clamp, nI_add, pk_mul, pk_sub, nor_, nand_, ndif_, shl_, sh1_, shr_, tbn, tb0, tb1, les_t, les_f, pk_div, rem_, remv, and31, wu1, wuc, wui, wu2, ws1, wsc, ws2, wv1, n11_, n13_, n14_, n15_, n17_, n19_, n23_, n56_, n64_, fX11_isKept, s6]
end G60

/-! READING A YEAR -/
def gAct (T : gTp) (b : Nat) : Option Nat := if gIs T b 8 then some 0 else if gIs T b 9 then some 1 else if gIs T b 10 then some 2 else if gIs T b 11 then some 3 else none
/-- one line: the token states, the line -/
def gY2 (L : gLib) (T : gTp) (a : Nat) (s : Nat × Nat) : Nat × Nat := if a = 0 then gTo T (gnm L 1) (gnt L) s else s
def gY3 (L : gLib) (T : gTp) (a : Nat) (s : Nat × Nat) : Nat × Nat := if a = 3 then s else gTo T (gnm L 0) (gns L) s
def gY4 (T : gTp) (a : Nat) (s : Nat × Nat) : Nat × Nat := if a = 0 then nx T (gNw T 0 5 s) else s
def gOs (L : gLib) (T : gTp) (a : Nat) (b : Nat) : Nat × Nat := gTs T 59 (gY4 T a (gY3 L T a (gY2 L T a (nx T (b, 0)))))
def gOe (L : gLib) (T : gTp) (a : Nat) (b : Nat) : Nat × Nat × Nat × Nat :=
  (a, (if a = 0 then (gNf (gnm L 1) (gnt L) (gTw T (nx T (b, 0)).1)).getD 0 else 0), (if a = 3 then 0 else (gNf (gnm L 0) (gns L) (gTw T (gY2 L T a (nx T (b, 0))).1)).getD 0), if a = 0 then gTn T (gY3 L T a (gY2 L T a (nx T (b, 0)))).1 else 0)
def gOne (L : gLib) (T : gTp) (x : (Nat × Nat) × gYr) : (Nat × Nat) × gYr := match gAct T x.1.1 with
  | none => (fl T 1 x.1, x.2)
  | some a => if 40 ≤ x.2.1 then (fl T 5 x.1, x.2) else (gOs L T a x.1.1, (x.2.1 + 1, fun i => if i = x.2.1 then gOe L T a x.1.1 else x.2.2 i))
def gYl (L : gLib) (T : gTp) : Nat → (Nat × Nat) × gYr → (Nat × Nat) × gYr
  | 0, x => x
  | n + 1, x => if x.1.2 ≠ 0 ∨ gTk T x.1.1 = 0 then x else gYl L T n (gOne L T x)
theorem gTs_2 {T : gTp} {x : Nat} {s : Nat × Nat} (h : (gTs T x s).2 = 0) : s.2 = 0 := by
  by_cases q : s.2 = 0
  · exact q
  · rw [gTs_f q] at h; exact h
theorem gTd_2 {T : gTp} {x : Nat} {s : Nat × Nat} (h : (gTd T x s).2 = 0) : s.2 = 0 := by
  by_cases q : s.2 = 0
  · exact q
  · rw [gTd_f q] at h; exact h
theorem gNw_2 {T : gTp} {lo hi : Nat} {s : Nat × Nat} (h : (gNw T lo hi s).2 = 0) : s.2 = 0 ∧ gTk T s.1 = 2 ∧ lo ≤ gTn T s.1 ∧ gTn T s.1 ≤ hi ∧ gNw T lo hi s = s := by
  have q : s.2 = 0 := by
    by_cases q : s.2 = 0
    · exact q
    · rw [gNw_f q] at h; exact h
  refine ⟨q, ?_⟩
  unfold gNw at h ⊢
  by_cases hk : gTk T s.1 = 2
  · rw [if_pos hk] at h ⊢
    by_cases hq : lo ≤ gTn T s.1 ∧ gTn T s.1 ≤ hi
    · rw [if_pos hq]; exact ⟨hk, hq.1, hq.2, rfl⟩
    · rw [if_neg hq] at h; exact absurd h (fl_ne (by omega))
  · rw [if_neg hk] at h; exact absurd h (fl_ne (by omega))
theorem gTo_2 {T : gTp} {a : Nat → List Nat} {n : Nat} {s : Nat × Nat} (h : (gTo T a n s).2 = 0) : s.2 = 0 ∧ ∃ i, gNf a n (gTw T s.1) = some i ∧ i < n := by
  have q : s.2 = 0 := by
    by_cases q : s.2 = 0
    · exact q
    · rw [gTo_f q] at h; exact h
  refine ⟨q, ?_⟩
  unfold gTo at h
  rw [nx_2] at h
  by_cases hq : gNa T s.1 = true
  · rw [if_pos hq] at h
    cases hx : gNf a n (gTw T s.1) with
    | none =>
      rw [hx, Option.isSome_none, if_neg (show ¬ false = true by decide)] at h
      exact absurd h (fl_ne (by omega))
    | some i => exact ⟨i, rfl, gNf_lt hx⟩
  · rw [if_neg hq] at h
    exact absurd h (fl_ne (by omega))
theorem nx_0 {T : gTp} {s : Nat × Nat} (h : s.2 = 0) : nx T s = (gTe T s.1, 0) := by unfold nx; rw [if_pos h]
def sy (c : Nat) : Prop := c = 1 ∨ c = 41 ∨ c = 42
section G62
variable {h : wSt} {T : gTp} {b : Nat} {L : gLib}
theorem c_b92 {s : Nat × Nat} (hs : SCs h T s) {n : Nat} (hn : n < 40) (h0 : h.1 41 0 = nI n) (v : Int32) : ∃ g, fX9_readOne_b92 h 41 3 v = some g ∧ SCs g T (gTs T 59 s) ∧ fr sy h g ∧ g.1 41 0 = nI (n + 1) ∧ ∀ i, g.1 42 i = if i = n then v else h.1 42 i := by
  obtain ⟨g, e1, s1', f1⟩ := c_takeSign hs (x := 59) (by omega)
  have g0 : g.1 41 0 = nI n := by rw [fr_at f1 (by unfold s1; omega)]; exact h0
  have f2 : fr (fun c => c = 41 ∨ c = 42) g (wuI (wuI g 42 n v) 41 0 (nI (n + 1))) := fr_tr (fr_wuI (Or.inr rfl)) (fr_wuI (Or.inl rfl))
  refine ⟨wuI (wuI g 42 n v) 41 0 (nI (n + 1)), ?_, SC_fr s1' f2 (by omega) (by omega), fr_tr (fr_mono f1 (fun c q => Or.inl q)) (fr_mono f2 (fun c q => Or.inr q)), wu1, fun i => ?_⟩
  · simp (disch := omega) only [↓reduceIte, wlet, Option.bind_some, true_and, and_true, not_true_eq_false, not_false_eq_true, reduceCtorEq, n0_, n1_, n2_, n3_, n4_, n5_, n6_, n7_, n8_, n9_, n10_, n12_, n16_, n18_, n20_, n21_, n22_, n24_, n25_, n26_, n27_, n28_, n29_, n30_, n31_, n32_, n40_, n41_, n42_, n43_, n45_, n48_, n54_, n57_, n58_, n59_, n60_, n61_, n63_, n96_, n97_, n99_, n100_, n122_, n126_, n200_, n255_, n375_, n400_, n1000_, n2000_, n9999_, n5764801_, n1000000_, n3000_, m1, m2, le_t, le_f, lt_t, lt_f, eq_t, eq_f, no_lt, no_le, le_no, lt_no, eq_no, no_eq, add_no, wib_t, clamp, nI_add, pk_mul, pk_sub, nor_, nand_, ndif_, shl_, sh1_, shr_, tbn, tb0, tb1, les_t, les_f, pk_div, rem_, remv, and31, wu1, wuc, wui, wu2, ws1, wsc, ws2, wv1, n11_, n13_, n14_, n15_, n17_, n19_, n23_, n56_, n64_, fX9_readOne_b92, e1, g0]
  · rw [wuc (by omega), wuS, fr_at f1 (by unfold s1; omega)]
theorem c_b77 {s : Nat × Nat} (hs : SCs h T s) {n a : Nat} (hn : n < 40) (ha : a < 4) (h0 : h.1 41 0 = nI n) (v : Int32) : ∃ g w, fX9_readOne_b77 h 41 3 (nI a) v = some g ∧ SCs g T (gTs T 59 (gY4 T a s)) ∧ fr sy h g ∧ g.1 41 0 = nI (n + 1) ∧ (∀ i, g.1 42 i = if i = n then w else h.1 42 i) ∧ ((gTs T 59 (gY4 T a s)).2 = 0 → w = if a = 0 then v + nI (gTn T s.1) else v) := by
  unfold gY4
  by_cases h1 : a = 0
  · rw [if_pos h1]
    obtain ⟨g1, e1, s1', f1⟩ := c_takeNumber hs (lo := 0) (hi := 5) (by omega) (by omega)
    obtain ⟨g, e2, s2, f2, g0, gq⟩ := c_b92 s1' hn (by rw [fr_at f1 (by unfold s1; omega)]; exact h0) (v + h.1 1 5)
    refine ⟨g, v + h.1 1 5, ?_, s2, fr_tr (fr_mono f1 (fun c q => Or.inl q)) f2, g0, fun i => by rw [gq, fr_at f1 (by unfold s1; omega)], fun q => ?_⟩
    · simp (disch := omega) only [↓reduceIte, wlet, Option.bind_some, true_and, and_true, not_true_eq_false, not_false_eq_true, reduceCtorEq, n0_, n1_, n2_, n3_, n4_, n5_, n6_, n7_, n8_, n9_, n10_, n12_, n16_, n18_, n20_, n21_, n22_, n24_, n25_, n26_, n27_, n28_, n29_, n30_, n31_, n32_, n40_, n41_, n42_, n43_, n45_, n48_, n54_, n57_, n58_, n59_, n60_, n61_, n63_, n96_, n97_, n99_, n100_, n122_, n126_, n200_, n255_, n375_, n400_, n1000_, n2000_, n9999_, n5764801_, n1000000_, n3000_, m1, m2, le_t, le_f, lt_t, lt_f, eq_t, eq_f, no_lt, no_le, le_no, lt_no, eq_no, no_eq, add_no, wib_t, clamp, nI_add, pk_mul, pk_sub, nor_, nand_, ndif_, shl_, sh1_, shr_, tbn, tb0, tb1, les_t, les_f, pk_div, rem_, remv, and31, wu1, wuc, wui, wu2, ws1, wsc, ws2, wv1, n11_, n13_, n14_, n15_, n17_, n19_, n23_, n56_, n64_, fX9_readOne_b77, h1, e1, e2]
    · have q1 := gTs_2 q
      rw [nx_2] at q1
      obtain ⟨-, hk, -⟩ := gNw_2 q1
      rw [if_pos h1, hs.2.2.2.2.2.2.2.2.1 hk]
  · rw [if_neg h1]
    obtain ⟨g, e2, s2, f2, g0, gq⟩ := c_b92 hs hn h0 v
    refine ⟨g, v, ?_, s2, f2, g0, gq, fun q => by rw [if_neg h1]⟩
    simp (disch := omega) only [↓reduceIte, wlet, Option.bind_some, true_and, and_true, not_true_eq_false, not_false_eq_true, reduceCtorEq, n0_, n1_, n2_, n3_, n4_, n5_, n6_, n7_, n8_, n9_, n10_, n12_, n16_, n18_, n20_, n21_, n22_, n24_, n25_, n26_, n27_, n28_, n29_, n30_, n31_, n32_, n40_, n41_, n42_, n43_, n45_, n48_, n54_, n57_, n58_, n59_, n60_, n61_, n63_, n96_, n97_, n99_, n100_, n122_, n126_, n200_, n255_, n375_, n400_, n1000_, n2000_, n9999_, n5764801_, n1000000_, n3000_, m1, m2, le_t, le_f, lt_t, lt_f, eq_t, eq_f, no_lt, no_le, le_no, lt_no, eq_no, no_eq, add_no, wib_t, clamp, nI_add, pk_mul, pk_sub, nor_, nand_, ndif_, shl_, sh1_, shr_, tbn, tb0, tb1, les_t, les_f, pk_div, rem_, remv, and31, wu1, wuc, wui, wu2, ws1, wsc, ws2, wv1, n11_, n13_, n14_, n15_, n17_, n19_, n23_, n56_, n64_, fX9_readOne_b77, e2]
theorem c_b59 {s : Nat × Nat} (hW : WL L) (hC : CL h L) (hs : SCs h T s) {n a : Nat} (hn : n < 40) (ha : a < 4) (h0 : h.1 41 0 = nI n) (v : Int32) : ∃ g w, fX9_readOne_b59 h 41 3 (nI a) v = some g ∧ SCs g T (gTs T 59 (gY4 T a (gY3 L T a s))) ∧ fr sy h g ∧ g.1 41 0 = nI (n + 1) ∧ (∀ i, g.1 42 i = if i = n then w else h.1 42 i) ∧ ((gTs T 59 (gY4 T a (gY3 L T a s))).2 = 0 → w = (if a = 3 then v else v + 10 * nI ((gNf (gnm L 0) (gns L) (gTw T s.1)).getD 0)) + (if a = 0 then nI (gTn T (gY3 L T a s).1) else nI 0)) := by
  have n1 := hW.1
  have z : ∀ x : Int32, x + nI 0 = x := fun x => by show x + 0 = x; simp
  unfold gY3
  by_cases h3 : a = 3
  · rw [if_pos h3]
    obtain ⟨g, w, e1, s1', f1, g0, gq, gw⟩ := c_b77 (a := a) hs hn ha h0 v
    refine ⟨g, w, ?_, s1', f1, g0, gq, fun q => ?_⟩
    · rw [h3] at e1
      simp (disch := omega) only [↓reduceIte, wlet, Option.bind_some, true_and, and_true, not_true_eq_false, not_false_eq_true, reduceCtorEq, n0_, n1_, n2_, n3_, n4_, n5_, n6_, n7_, n8_, n9_, n10_, n12_, n16_, n18_, n20_, n21_, n22_, n24_, n25_, n26_, n27_, n28_, n29_, n30_, n31_, n32_, n40_, n41_, n42_, n43_, n45_, n48_, n54_, n57_, n58_, n59_, n60_, n61_, n63_, n96_, n97_, n99_, n100_, n122_, n126_, n200_, n255_, n375_, n400_, n1000_, n2000_, n9999_, n5764801_, n1000000_, n3000_, m1, m2, le_t, le_f, lt_t, lt_f, eq_t, eq_f, no_lt, no_le, le_no, lt_no, eq_no, no_eq, add_no, wib_t, clamp, nI_add, pk_mul, pk_sub, nor_, nand_, ndif_, shl_, sh1_, shr_, tbn, tb0, tb1, les_t, les_f, pk_div, rem_, remv, and31, wu1, wuc, wui, wu2, ws1, wsc, ws2, wv1, n11_, n13_, n14_, n15_, n17_, n19_, n23_, n56_, n64_, fX9_readOne_b59, h3, e1]
    · have hne : ¬ a = 0 := by omega
      rw [gw q, if_neg hne, if_pos h3, if_neg hne, z]
  · rw [if_neg h3]
    have hc1 := hC.1
    obtain ⟨g1, e1, s1', f1⟩ := c_takeTold hs (nm := gnm L 0) (a := 4) (n := gns L) (g := 3) (fun i hi => ⟨(hW.2.2.2.1 i hi).2.2.2.2.2, (hC.2.2.2.1 i hi).2.2.2⟩) n1 (by omega)
    obtain ⟨g, w, e2, s2, f2, g0, gq, gw⟩ := c_b77 (a := a) s1' hn ha (by rw [fr_at f1 (by unfold s1; omega)]; exact h0) (v + 10 * rI (gTv T (gnm L 0) (gns L) s))
    refine ⟨g, w, ?_, s2, fr_tr (fr_mono f1 (fun c q => Or.inl q)) f2, g0, fun i => by rw [gq, fr_at f1 (by unfold s1; omega)], fun q => ?_⟩
    · rw [n10_] at e2
      simp (disch := omega) only [↓reduceIte, wlet, Option.bind_some, true_and, and_true, not_true_eq_false, not_false_eq_true, reduceCtorEq, n0_, n1_, n2_, n3_, n4_, n5_, n6_, n7_, n8_, n9_, n10_, n12_, n16_, n18_, n20_, n21_, n22_, n24_, n25_, n26_, n27_, n28_, n29_, n30_, n31_, n32_, n40_, n41_, n42_, n43_, n45_, n48_, n54_, n57_, n58_, n59_, n60_, n61_, n63_, n96_, n97_, n99_, n100_, n122_, n126_, n200_, n255_, n375_, n400_, n1000_, n2000_, n9999_, n5764801_, n1000000_, n3000_, m1, m2, le_t, le_f, lt_t, lt_f, eq_t, eq_f, no_lt, no_le, le_no, lt_no, eq_no, no_eq, add_no, wib_t, clamp, nI_add, pk_mul, pk_sub, nor_, nand_, ndif_, shl_, sh1_, shr_, tbn, tb0, tb1, les_t, les_f, pk_div, rem_, remv, and31, wu1, wuc, wui, wu2, ws1, wsc, ws2, wv1, n11_, n13_, n14_, n15_, n17_, n19_, n23_, n56_, n64_, fX9_readOne_b59, fX4_takeSkin, hc1, e1, e2, Nat.reduceAdd]
    · have q1 := gTs_2 q
      have q2 : (gTo T (gnm L 0) (gns L) s).2 = 0 := by
        unfold gY4 at q1
        by_cases ha0 : a = 0
        · rw [if_pos ha0, nx_2] at q1
          exact (gNw_2 q1).1
        · rw [if_neg ha0] at q1; exact q1
      obtain ⟨-, i, hi, -⟩ := gTo_2 q2
      have hv : rI (gTv T (gnm L 0) (gns L) s) = nI i := by unfold gTv; rw [if_pos q2, hi]; rfl
      rw [gw q, hv, hi, if_neg h3]
      by_cases ha0 : a = 0
      · rw [if_pos ha0, if_pos ha0]; rfl
      · rw [if_neg ha0, if_neg ha0, z]; rfl
theorem c_act {f : Nat} (hs : SC h T b f) : fX9_actAt h = some (rI (gAct T b)) := by
  have e1 := c_isWord hs (i := 8) (by omega) (by omega)
  have e2 := c_isWord hs (i := 9) (by omega) (by omega)
  have e3 := c_isWord hs (i := 10) (by omega) (by omega)
  have e4 := c_isWord hs (i := 11) (by omega) (by omega)
  unfold gAct fX9_actAt
  rw [e1, e2, e3, e4]
  simp only [Option.bind_some]
  cases gIs T b 8 <;> cases gIs T b 9 <;> cases gIs T b 10 <;> cases gIs T b 11 <;> rfl
theorem gAct_lt {a : Nat} (h : gAct T b = some a) : a < 4 := by
  unfold gAct at h
  repeat (split at h; · cases h; omega)
  cases h
theorem gOne_n {Y : gYr} (h : gAct T b = none) : gOne L T ((b, 0), Y) = (fl T 1 (b, 0), Y) := by
  unfold gOne; simp only [h]
theorem gOne_f {Y : gYr} {a : Nat} (h : gAct T b = some a) (h40 : 40 ≤ Y.1) : gOne L T ((b, 0), Y) = (fl T 5 (b, 0), Y) := by
  unfold gOne; simp only [h, if_pos h40]
theorem gOne_s {Y : gYr} {a : Nat} (h : gAct T b = some a) (h40 : ¬ 40 ≤ Y.1) : gOne L T ((b, 0), Y) = (gOs L T a b, (Y.1 + 1, fun i => if i = Y.1 then gOe L T a b else Y.2 i)) := by
  unfold gOne; simp only [h, if_neg h40]
theorem YC_add {g : wSt} {Y : gYr} {e : Nat × Nat × Nat × Nat} {w : Int32} (hY : YC h 41 Y) (g0 : g.1 41 0 = nI (Y.1 + 1)) (gq : ∀ i, g.1 42 i = if i = Y.1 then w else h.1 42 i) (hw : w = nI (gLine e)) : YC g 41 (Y.1 + 1, fun i => if i = Y.1 then e else Y.2 i) := by
  refine ⟨g0, fun i hi => ?_⟩
  have hi : i < Y.1 + 1 := hi
  show g.1 42 i = nI (gLine (if i = Y.1 then e else Y.2 i))
  rw [gq]
  by_cases e : i = Y.1
  · rw [if_pos e, if_pos e]; exact hw
  · rw [if_neg e, if_neg e]; exact hY.2 i (by omega)
theorem c_one0 (hW : WL L) (hC : CL h L) (hs : SC h T b 0) {Y : gYr} (hY : YC h 41 Y) (h40 : Y.1 < 40) {a : Nat} (ha : a < 4) (h1 : a = 0) (ea : fX9_actAt h = some (nI a)) : ∃ g, fX9_readOne h 41 3 = some g ∧ SCs g T (gOs L T a b) ∧ fr sy h g ∧ ((gOs L T a b).2 = 0 → YC g 41 (Y.1 + 1, fun i => if i = Y.1 then gOe L T a b else Y.2 i)) := by
  have n2 := hW.2.1
  have y0 := hY.1
  have hss : SCs h T (b, 0) := hs
  obtain ⟨g1, e1, s1', f1⟩ := c_nxt hss
  have hC1 := CL_fr hC f1 (fun c _ _ => by unfold s1; omega)
  have y1 : g1.1 41 0 = nI Y.1 := by rw [fr_at f1 (by unfold s1; omega)]; exact y0
  have hc2 := hC1.2.1
  have ht := c_takeTold s1' (nm := gnm L 1) (a := 8) (n := gnt L) (g := 6) (fun i hi => ⟨(hW.2.2.2.2.1 i hi).2.2.2.2, (hC1.2.2.2.2.1 i hi).2.2.2⟩) n2 (by omega)
  have e2' : gY2 L T a (nx T (b, 0)) = gTo T (gnm L 1) (gnt L) (nx T (b, 0)) := by unfold gY2; rw [if_pos h1]
  have eOs : gOs L T a b = gTs T 59 (gY4 T a (gY3 L T a (gTo T (gnm L 1) (gnt L) (nx T (b, 0))))) := by unfold gOs; rw [e2']
  have e3' : ∀ s, gY3 L T a s = gTo T (gnm L 0) (gns L) s := fun s => by unfold gY3; rw [if_neg (by omega)]
  have e4' : ∀ s, gY4 T a s = nx T (gNw T 0 5 s) := fun s => by unfold gY4; rw [if_pos h1]
  have eOe : gOe L T a b = (a, (gNf (gnm L 1) (gnt L) (gTw T (nx T (b, 0)).1)).getD 0, (gNf (gnm L 0) (gns L) (gTw T (gTo T (gnm L 1) (gnt L) (nx T (b, 0))).1)).getD 0, gTn T (gY3 L T a (gTo T (gnm L 1) (gnt L) (nx T (b, 0)))).1) := by
    unfold gOe; rw [e2', if_pos h1, if_neg (show ¬ a = 3 by omega), if_pos h1]
  have eTv : (gTo T (gnm L 1) (gnt L) (nx T (b, 0))).2 = 0 → rI (gTv T (gnm L 1) (gnt L) (nx T (b, 0))) = nI ((gNf (gnm L 1) (gnt L) (gTw T (nx T (b, 0)).1)).getD 0) := fun q => by
    obtain ⟨-, i, hi, -⟩ := gTo_2 q
    unfold gTv; rw [if_pos q, hi]; rfl
  rw [eOs, eOe]
  revert ht eTv e3' e4'
  generalize gTo T (gnm L 1) (gnt L) (nx T (b, 0)) = S2
  generalize gTv T (gnm L 1) (gnt L) (nx T (b, 0)) = V
  generalize (gNf (gnm L 1) (gnt L) (gTw T (nx T (b, 0)).1)).getD 0 = I1
  intro ht e3' e4' eTv
  obtain ⟨g2, e2, s2, f2⟩ := ht
  have hC2 := CL_fr hC1 f2 (fun c _ _ => by unfold s1; omega)
  obtain ⟨g, w, e3, s3, f3, g0, gq, gw⟩ := c_b59 (a := a) hW hC2 s2 (n := Y.1) h40 ha (by rw [fr_at f2 (by unfold s1; omega)]; exact y1) (1000 * nI a + 100 * rI V)
  refine ⟨g, ?_, s3, fr_tr (fr_mono (fr_tr f1 f2) (fun c q => Or.inl q)) f3, fun q => YC_add hY g0 (fun i => by rw [gq, fr_at f2 (by unfold s1; omega), fr_at f1 (by unfold s1; omega)]) ?_⟩
  · subst h1
    rw [n1000_, n100_] at e3
    simp (disch := omega) only [↓reduceIte, wlet, Option.bind_some, true_and, and_true, not_true_eq_false, not_false_eq_true, reduceCtorEq, n0_, n1_, n2_, n3_, n4_, n5_, n6_, n7_, n8_, n9_, n10_, n12_, n16_, n18_, n20_, n21_, n22_, n24_, n25_, n26_, n27_, n28_, n29_, n30_, n31_, n32_, n40_, n41_, n42_, n43_, n45_, n48_, n54_, n57_, n58_, n59_, n60_, n61_, n63_, n96_, n97_, n99_, n100_, n122_, n126_, n200_, n255_, n375_, n400_, n1000_, n2000_, n9999_, n5764801_, n1000000_, n3000_, m1, m2, le_t, le_f, lt_t, lt_f, eq_t, eq_f, no_lt, no_le, le_no, lt_no, eq_no, no_eq, add_no, wib_t, clamp, nI_add, pk_mul, pk_sub, nor_, nand_, ndif_, shl_, sh1_, shr_, tbn, tb0, tb1, les_t, les_f, pk_div, rem_, remv, and31, wu1, wuc, wui, wu2, ws1, wsc, ws2, wv1, n11_, n13_, n14_, n15_, n17_, n19_, n23_, n56_, n64_, fX9_readOne, fX4_takeText, ea, y0, e1, hc2, e2, Nat.reduceAdd]
    rw [pk_mul] at e3
    exact e3
  · have q1 := gTs_2 q
    have q2 : (gTo T (gnm L 0) (gns L) S2).2 = 0 := by
      rw [e4', e3', nx_2] at q1
      exact (gNw_2 q1).1
    obtain ⟨q3, j, hj, -⟩ := gTo_2 q2
    rw [gw q, eTv q3, hj, if_neg (show ¬ a = 3 by omega), if_pos h1]
    unfold gLine
    show 1000 * nI a + 100 * nI I1 + 10 * nI j + nI (gTn T (gY3 L T a S2).1) = nI (1000 * a + 100 * I1 + 10 * j + gTn T (gY3 L T a S2).1)
    rw [n1000_, n100_, n10_]
    simp only [pk_mul, nI_add]
theorem c_one1 (hW : WL L) (hC : CL h L) (hs : SC h T b 0) {Y : gYr} (hY : YC h 41 Y) (h40 : Y.1 < 40) {a : Nat} (ha : a < 4) (h1 : ¬ a = 0) (ea : fX9_actAt h = some (nI a)) : ∃ g, fX9_readOne h 41 3 = some g ∧ SCs g T (gOs L T a b) ∧ fr sy h g ∧ ((gOs L T a b).2 = 0 → YC g 41 (Y.1 + 1, fun i => if i = Y.1 then gOe L T a b else Y.2 i)) := by
  have y0 := hY.1
  have hss : SCs h T (b, 0) := hs
  obtain ⟨g1, e1, s1', f1⟩ := c_nxt hss
  have hC1 := CL_fr hC f1 (fun c _ _ => by unfold s1; omega)
  have y1 : g1.1 41 0 = nI Y.1 := by rw [fr_at f1 (by unfold s1; omega)]; exact y0
  have e2' : gY2 L T a (nx T (b, 0)) = nx T (b, 0) := by unfold gY2; rw [if_neg h1]
  have eOs : gOs L T a b = gTs T 59 (gY4 T a (gY3 L T a (nx T (b, 0)))) := by unfold gOs; rw [e2']
  have eOe : gOe L T a b = (a, 0, if a = 3 then 0 else (gNf (gnm L 0) (gns L) (gTw T (nx T (b, 0)).1)).getD 0, 0) := by
    unfold gOe; rw [e2', if_neg h1, if_neg h1]
  obtain ⟨g, w, e3, s3, f3, g0, gq, gw⟩ := c_b59 (a := a) hW hC1 s1' (n := Y.1) h40 ha y1 (1000 * nI a)
  rw [eOs, eOe]
  refine ⟨g, ?_, s3, fr_tr (fr_mono f1 (fun c q => Or.inl q)) f3, fun q => YC_add hY g0 (fun i => by rw [gq, fr_at f1 (by unfold s1; omega)]) ?_⟩
  · simp (disch := omega) only [↓reduceIte, wlet, Option.bind_some, true_and, and_true, not_true_eq_false, not_false_eq_true, reduceCtorEq, n0_, n1_, n2_, n3_, n4_, n5_, n6_, n7_, n8_, n9_, n10_, n12_, n16_, n18_, n20_, n21_, n22_, n24_, n25_, n26_, n27_, n28_, n29_, n30_, n31_, n32_, n40_, n41_, n42_, n43_, n45_, n48_, n54_, n57_, n58_, n59_, n60_, n61_, n63_, n96_, n97_, n99_, n100_, n122_, n126_, n200_, n255_, n375_, n400_, n1000_, n2000_, n9999_, n5764801_, n1000000_, n3000_, m1, m2, le_t, le_f, lt_t, lt_f, eq_t, eq_f, no_lt, no_le, le_no, lt_no, eq_no, no_eq, add_no, wib_t, clamp, nI_add, pk_mul, pk_sub, nor_, nand_, ndif_, shl_, sh1_, shr_, tbn, tb0, tb1, les_t, les_f, pk_div, rem_, remv, and31, wu1, wuc, wui, wu2, ws1, wsc, ws2, wv1, n11_, n13_, n14_, n15_, n17_, n19_, n23_, n56_, n64_, fX9_readOne, ea, y0, e1]
    rw [n1000_, pk_mul] at e3
    exact e3
  · rw [gw q, if_neg h1]
    unfold gLine
    rw [n1000_, n10_]
    by_cases h3 : a = 3
    · simp only [if_pos h3, pk_mul, nI_add, Nat.mul_zero, Nat.add_zero]
    · simp only [if_neg h3, pk_mul, nI_add, Nat.mul_zero, Nat.add_zero]
theorem c_one (hW : WL L) (hC : CL h L) (hs : SC h T b 0) {Y : gYr} (hY : YC h 41 Y) (hy : Y.1 ≤ 40) : ∃ g, fX9_readOne h 41 3 = some g ∧ SCs g T (gOne L T ((b, 0), Y)).1 ∧ fr sy h g ∧ ((gOne L T ((b, 0), Y)).1.2 = 0 → YC g 41 (gOne L T ((b, 0), Y)).2) := by
  have ea := c_act hs
  have y0 := hY.1
  have hss : SCs h T (b, 0) := hs
  cases hq : gAct T b with
  | none =>
    rw [hq] at ea
    rw [gOne_n hq]
    obtain ⟨g, e1, s1', f1⟩ := c_fl hss (k := 1) (by omega) (by omega)
    refine ⟨g, ?_, s1', fr_mono f1 (fun c q => Or.inl q), fun q => absurd q (fl_ne (by omega))⟩
    have ea : fX9_actAt h = some wno := ea
    simp (disch := omega) only [↓reduceIte, wlet, Option.bind_some, true_and, and_true, not_true_eq_false, not_false_eq_true, reduceCtorEq, n0_, n1_, n2_, n3_, n4_, n5_, n6_, n7_, n8_, n9_, n10_, n12_, n16_, n18_, n20_, n21_, n22_, n24_, n25_, n26_, n27_, n28_, n29_, n30_, n31_, n32_, n40_, n41_, n42_, n43_, n45_, n48_, n54_, n57_, n58_, n59_, n60_, n61_, n63_, n96_, n97_, n99_, n100_, n122_, n126_, n200_, n255_, n375_, n400_, n1000_, n2000_, n9999_, n5764801_, n1000000_, n3000_, m1, m2, le_t, le_f, lt_t, lt_f, eq_t, eq_f, no_lt, no_le, le_no, lt_no, eq_no, no_eq, add_no, wib_t, clamp, nI_add, pk_mul, pk_sub, nor_, nand_, ndif_, shl_, sh1_, shr_, tbn, tb0, tb1, les_t, les_f, pk_div, rem_, remv, and31, wu1, wuc, wui, wu2, ws1, wsc, ws2, wv1, n11_, n13_, n14_, n15_, n17_, n19_, n23_, n56_, n64_, fX9_readOne, ea, e1]
  | some a =>
    rw [hq] at ea
    have ha := gAct_lt hq
    have ea : fX9_actAt h = some (nI a) := ea
    by_cases h40 : 40 ≤ Y.1
    · rw [gOne_f hq h40]
      obtain ⟨g, e1, s1', f1⟩ := c_fl hss (k := 5) (by omega) (by omega)
      refine ⟨g, ?_, s1', fr_mono f1 (fun c q => Or.inl q), fun q => absurd q (fl_ne (by omega))⟩
      simp (disch := omega) only [↓reduceIte, wlet, Option.bind_some, true_and, and_true, not_true_eq_false, not_false_eq_true, reduceCtorEq, n0_, n1_, n2_, n3_, n4_, n5_, n6_, n7_, n8_, n9_, n10_, n12_, n16_, n18_, n20_, n21_, n22_, n24_, n25_, n26_, n27_, n28_, n29_, n30_, n31_, n32_, n40_, n41_, n42_, n43_, n45_, n48_, n54_, n57_, n58_, n59_, n60_, n61_, n63_, n96_, n97_, n99_, n100_, n122_, n126_, n200_, n255_, n375_, n400_, n1000_, n2000_, n9999_, n5764801_, n1000000_, n3000_, m1, m2, le_t, le_f, lt_t, lt_f, eq_t, eq_f, no_lt, no_le, le_no, lt_no, eq_no, no_eq, add_no, wib_t, clamp, nI_add, pk_mul, pk_sub, nor_, nand_, ndif_, shl_, sh1_, shr_, tbn, tb0, tb1, les_t, les_f, pk_div, rem_, remv, and31, wu1, wuc, wui, wu2, ws1, wsc, ws2, wv1, n11_, n13_, n14_, n15_, n17_, n19_, n23_, n56_, n64_, fX9_readOne, ea, y0, e1]
    · rw [gOne_s hq h40]
      by_cases h1 : a = 0
      · exact c_one0 hW hC hs hY (by omega) ha h1 ea
      · exact c_one1 hW hC hs hY (by omega) ha h1 ea
end G62

/-! OTHER QUESTIONS of a shelf -/
/-- two loops side by side -/
theorem wit2 {V1 E1 V2 E2 : Type} {b1 : V1 → Option (V1 ⊕ E1)} {b2 : V2 → Option (V2 ⊕ E2)} (n : Nat) (I : Nat → V1 → V2 → Prop) (P : E1 → E2 → Prop)
    (hs : ∀ i v1 v2, i < n → I i v1 v2 → (∃ w1 w2, b1 v1 = some (.inl w1) ∧ b2 v2 = some (.inl w2) ∧ I (i + 1) w1 w2) ∨ ∃ e1 e2, b1 v1 = some (.inr e1) ∧ b2 v2 = some (.inr e2) ∧ P e1 e2)
    (he : ∀ v1 v2, I n v1 v2 → ∃ e1 e2, b1 v1 = some (.inr e1) ∧ b2 v2 = some (.inr e2) ∧ P e1 e2) {N : Nat} (hN : n < N) {v1 : V1} {v2 : V2} (h0 : I 0 v1 v2) :
    ∃ e1 e2, wit b1 N v1 = some e1 ∧ wit b2 N v2 = some e2 ∧ P e1 e2 := by
  have key : ∀ (k i : Nat) (M : Nat) (v1 : V1) (v2 : V2), i + k = n → k < M → I i v1 v2 → ∃ e1 e2, wit b1 M v1 = some e1 ∧ wit b2 M v2 = some e2 ∧ P e1 e2 := by
    intro k
    induction k with
    | zero =>
      intro i M v1 v2 hi hM hI
      obtain ⟨M, rfl⟩ : ∃ m, M = m + 1 := ⟨M - 1, by omega⟩
      have hi2 : i = n := by omega
      rw [hi2] at hI
      obtain ⟨e1, e2, h1, h2, h3⟩ := he v1 v2 hI
      exact ⟨e1, e2, by rw [wit, h1], by rw [wit, h2], h3⟩
    | succ k ih =>
      intro i M v1 v2 hi hM hI
      obtain ⟨M, rfl⟩ : ∃ m, M = m + 1 := ⟨M - 1, by omega⟩
      rcases hs i v1 v2 (by omega) hI with ⟨w1, w2, h1, h2, h3⟩ | ⟨e1, e2, h1, h2, h3⟩
      · obtain ⟨e1, e2, a1, a2, a3⟩ := ih (i + 1) M w1 w2 (by omega) (by omega) h3
        exact ⟨e1, e2, by rw [wit, h1]; exact a1, by rw [wit, h2]; exact a2, a3⟩
      · exact ⟨e1, e2, by rw [wit, h1], by rw [wit, h2], h3⟩
  exact key n 0 N v1 v2 (by omega) hN h0
/-- a loop that joins sets -/
def gOr (x : Nat → Nat) (n a : Nat) : Nat := gF (fun i a => a ||| x i) n a
theorem gOr_bit {x : Nat → Nat} (a b : Nat) : ∀ n, (gOr x n a).testBit b = true ↔ a.testBit b = true ∨ ∃ i, i < n ∧ (x i).testBit b = true
  | 0 => by
    constructor
    · exact fun q => Or.inl q
    · rintro (q | ⟨i, q, -⟩)
      · exact q
      · omega
  | n + 1 => by
    have ih := gOr_bit (x := x) a b n
    unfold gOr at ih ⊢
    rw [gF, Nat.testBit_or, Bool.or_eq_true, ih]
    constructor
    · rintro ((q | ⟨i, q1, q2⟩) | q)
      · exact Or.inl q
      · exact Or.inr ⟨i, by omega, q2⟩
      · exact Or.inr ⟨n, by omega, q⟩
    · rintro (q | ⟨i, q1, q2⟩)
      · exact Or.inl (Or.inl q)
      · by_cases e : i = n
        · rw [e] at q2; exact Or.inr q2
        · exact Or.inl (Or.inr ⟨i, by omega, q2⟩)
theorem bit_ext {a b : Nat} (h : ∀ i, a.testBit i = true ↔ b.testBit i = true) : a = b := Nat.eq_of_testBit_eq (fun i => by
  have := h i
  cases ha : a.testBit i <;> cases hb : b.testBit i <;> simp_all)
theorem gOr_acc (x : Nat → Nat) (n a : Nat) : gOr x n a = a ||| gOr x n 0 := bit_ext (fun i => by
  rw [Nat.testBit_or, Bool.or_eq_true, gOr_bit, gOr_bit, Nat.zero_testBit]
  simp)
def tB : Option Nat → Nat
  | none => 0
  | some t => 2 ^ t
theorem tB_bit (o : Option Nat) (b : Nat) : (tB o).testBit b = true ↔ o = some b := by
  cases o with
  | none => simp [tB]
  | some t =>
    rw [tB, Nat.testBit_two_pow]
    simp
def lB : List Nat → Nat
  | [] => 0
  | t :: l => 2 ^ t ||| lB l
theorem lB_bit (b : Nat) : ∀ l : List Nat, (lB l).testBit b = true ↔ b ∈ l
  | [] => by simp [lB]
  | t :: l => by
    rw [lB, Nat.testBit_or, Bool.or_eq_true, lB_bit b l, Nat.testBit_two_pow, List.mem_cons]
    simp
    constructor
    · rintro (q | q)
      · exact Or.inl q.symm
      · exact Or.inr q
    · rintro (q | q)
      · exact Or.inl q.symm
      · exact Or.inr q
/-- what lies over t -/
def gOv (t : Nat) : List Nat → Nat
  | [] => 0
  | u :: l => gOv t l ||| if t ∈ l then 2 ^ u else 0
def rOv (t : Nat) : Nat → List Nat → Nat
  | _, [] => 0
  | a, u :: l => (if u = t then a else 0) ||| rOv t (a ||| 2 ^ u) l
theorem rOv_eq (t : Nat) : ∀ (l : List Nat) (a : Nat), rOv t a l = (if t ∈ l then a else 0) ||| gOv t l
  | [], a => by simp [rOv, gOv]
  | u :: l, a => by
    rw [rOv, rOv_eq t l, gOv]
    apply bit_ext
    intro i
    by_cases h1 : u = t
    · subst h1
      by_cases h2 : u ∈ l
      · simp [h2, Nat.testBit_or]; grind
      · simp [h2, Nat.testBit_or]
    · have h3 : (t ∈ u :: l) ↔ t ∈ l := by simp [Ne.symm h1]
      by_cases h2 : t ∈ l
      · simp [h1, h2, Nat.testBit_or]; grind
      · simp [h1, h2, h3, Nat.testBit_or]
theorem e7_step {t : Nat} {l : List Nat} (ht : t < 6) : e7 (t :: l) % 7 = t + 1 ∧ e7 (t :: l) / 7 = e7 l ∧ 0 < e7 (t :: l) ∧ e7 (t :: l) - e7 l * 7 - 1 = t := by
  rw [e7]
  omega
section G36
variable {h : wSt} {L : gLib} {k : Nat} {S : gSh}
theorem gWst_lt (hW : WL L) (hV : WS L S) {i w : Nat} (hi : i < gns L) (a : Nat × Option Nat × Nat) (ha : a.1 < 64) : ∀ n, n ≤ 6 → (gF (gWst L S w i) n a).1 < 64
  | 0, _ => ha
  | n + 1, hn => by
    have ih := gWst_lt hW hV (w := w) hi a ha n (by omega)
    have n2 := hW.2.1
    rw [gF]
    show (match gRead L S i n w with | none => (gF (gWst L S w i) n a).1 | some t => if gtl L t ≤ (if gRead L S i n w = (gF (gWst L S w i) n a).2.1 then (gF (gWst L S w i) n a).2.2 + 1 else 1) then (gF (gWst L S w i) n a).1 ||| 2 ^ t else (gF (gWst L S w i) n a).1) < 64
    cases hr : gRead L S i n w with
    | none => exact ih
    | some t =>
      have ht := gRead_lt hW hV hi (by omega) hr
      have h2 : 2 ^ t < 2 ^ 6 := Nat.pow_lt_pow_right (by decide) (by omega)
      have key : ∀ (c : Prop) [Decidable c] (x : Nat), x < 64 → (if c then x ||| 2 ^ t else x) < 64 := by
        intro c _ x hx
        split
        · exact Nat.or_lt_two_pow (n := 6) hx h2
        · exact hx
      exact key _ _ ih
theorem gWhole_lt (hW : WL L) (hV : WS L S) (w : Nat) : gWhole L S w < 64 := by
  have key : ∀ n, n ≤ gns L → gF (fun i a => (gF (gWst L S w i) (gln L i) (a, none, 0)).1) n 0 < 64 := by
    intro n
    induction n with
    | zero => intro _; exact Nat.zero_lt_succ _
    | succ n ih =>
      intro hn
      rw [gF]
      exact gWst_lt hW hV (by omega) _ (ih (by omega)) _ (hW.2.2.2.1 n (by omega)).2.1
  exact key _ (Nat.le_refl _)
theorem c_isWhole (hx : CX h L k S) {t w : Nat} (ht : t < gnt L) (hw : w ≤ 9) : ∃ g, fX6_isWhole h k (nI t) (nI w) = some ((gWhole L S w).testBit t, g) ∧ fr sq h g := by
  have n2 := hx.1.2.1
  obtain ⟨g, e, f⟩ := c_whole hx hw
  have hb := gWhole_lt hx.1 hx.2.2.1 w
  refine ⟨g, ?_, f⟩
  cases hq : (gWhole L S w).testBit t
  · simp (disch := omega) only [↓reduceIte, wlet, Option.bind_some, true_and, and_true, not_true_eq_false, not_false_eq_true, reduceCtorEq, n0_, n1_, n2_, n3_, n4_, n5_, n6_, n7_, n8_, n9_, n10_, n12_, n16_, n18_, n20_, n21_, n22_, n24_, n25_, n26_, n27_, n28_, n29_, n30_, n31_, n32_, n40_, n41_, n42_, n43_, n45_, n48_, n54_, n57_, n58_, n59_, n60_, n61_, n63_, n96_, n97_, n99_, n100_, n122_, n126_, n200_, n255_, n375_, n400_, n1000_, n2000_, n9999_, n5764801_, n1000000_, n3000_, m1, m2, le_t, le_f, lt_t, lt_f, eq_t, eq_f, no_lt, no_le, le_no, lt_no, eq_no, no_eq, add_no, wib_t, clamp, nI_add, pk_mul, pk_sub, nor_, nand_, ndif_, shl_, sh1_, shr_, tbn, tb0, tb1, les_t, les_f, pk_div, rem_, remv, and31, wu1, wuc, wui, wu2, ws1, wsc, ws2, wv1, n11_, n13_, n14_, n15_, n17_, n19_, n23_, n56_, n64_, fX6_isWhole, e, hq]
  · simp (disch := omega) only [↓reduceIte, wlet, Option.bind_some, true_and, and_true, not_true_eq_false, not_false_eq_true, reduceCtorEq, n0_, n1_, n2_, n3_, n4_, n5_, n6_, n7_, n8_, n9_, n10_, n12_, n16_, n18_, n20_, n21_, n22_, n24_, n25_, n26_, n27_, n28_, n29_, n30_, n31_, n32_, n40_, n41_, n42_, n43_, n45_, n48_, n54_, n57_, n58_, n59_, n60_, n61_, n63_, n96_, n97_, n99_, n100_, n122_, n126_, n200_, n255_, n375_, n400_, n1000_, n2000_, n9999_, n5764801_, n1000000_, n3000_, m1, m2, le_t, le_f, lt_t, lt_f, eq_t, eq_f, no_lt, no_le, le_no, lt_no, eq_no, no_eq, add_no, wib_t, clamp, nI_add, pk_mul, pk_sub, nor_, nand_, ndif_, shl_, sh1_, shr_, tbn, tb0, tb1, les_t, les_f, pk_div, rem_, remv, and31, wu1, wuc, wui, wu2, ws1, wsc, ws2, wv1, n11_, n13_, n14_, n15_, n17_, n19_, n23_, n56_, n64_, fX6_isWhole, e, hq, Bool.true_eq_false]
theorem c_gone (hx : CX h L k S) : fX6_goneSkins h k = some (nI (gOr (fun i => if S.2.1 i = 0 then 2 ^ i else 0) (gns L) 0)) := by
  obtain ⟨hW, hC, hV, hS, hk⟩ := id hx
  have n1 := hW.1
  have c1 := hC.1
  obtain ⟨e, he, eg⟩ := wit_for (b := fun v : (Int32 × Int32) => fX6_goneSkins_l4 h k v.1 v.2) (fun i a => a ||| (if S.2.1 i = 0 then 2 ^ i else 0)) (gns L)
    (fun i a v => v = (nI a, nI i)) (fun a e => e = nI a)
    (by
      rintro i a v hi rfl
      have s1 := (hS.2.1 i (by omega)).1
      have v1 := (hV.2.1 i (by omega)).1
      refine ⟨_, ?_, rfl⟩
      by_cases h0 : S.2.1 i = 0
      · rw [if_pos h0]
        simp (disch := omega) only [↓reduceIte, wlet, Option.bind_some, true_and, and_true, not_true_eq_false, not_false_eq_true, reduceCtorEq, n0_, n1_, n2_, n3_, n4_, n5_, n6_, n7_, n8_, n9_, n10_, n12_, n16_, n18_, n20_, n21_, n22_, n24_, n25_, n26_, n27_, n28_, n29_, n30_, n31_, n32_, n40_, n41_, n42_, n43_, n45_, n48_, n54_, n57_, n58_, n59_, n60_, n61_, n63_, n96_, n97_, n99_, n100_, n122_, n126_, n200_, n255_, n375_, n400_, n1000_, n2000_, n9999_, n5764801_, n1000000_, n3000_, m1, m2, le_t, le_f, lt_t, lt_f, eq_t, eq_f, no_lt, no_le, le_no, lt_no, eq_no, no_eq, add_no, wib_t, clamp, nI_add, pk_mul, pk_sub, nor_, nand_, ndif_, shl_, sh1_, shr_, tbn, tb0, tb1, les_t, les_f, pk_div, rem_, remv, and31, wu1, wuc, wui, wu2, ws1, wsc, ws2, wv1, n11_, n13_, n14_, n15_, n17_, n19_, n23_, n56_, n64_, fX6_goneSkins_l4, fX6_goneSkins_b32_4, c1, s1, h0]
      · rw [if_neg h0]
        simp (disch := omega) only [↓reduceIte, wlet, Option.bind_some, true_and, and_true, not_true_eq_false, not_false_eq_true, reduceCtorEq, n0_, n1_, n2_, n3_, n4_, n5_, n6_, n7_, n8_, n9_, n10_, n12_, n16_, n18_, n20_, n21_, n22_, n24_, n25_, n26_, n27_, n28_, n29_, n30_, n31_, n32_, n40_, n41_, n42_, n43_, n45_, n48_, n54_, n57_, n58_, n59_, n60_, n61_, n63_, n96_, n97_, n99_, n100_, n122_, n126_, n200_, n255_, n375_, n400_, n1000_, n2000_, n9999_, n5764801_, n1000000_, n3000_, m1, m2, le_t, le_f, lt_t, lt_f, eq_t, eq_f, no_lt, no_le, le_no, lt_no, eq_no, no_eq, add_no, wib_t, clamp, nI_add, pk_mul, pk_sub, nor_, nand_, ndif_, shl_, sh1_, shr_, tbn, tb0, tb1, les_t, les_f, pk_div, rem_, remv, and31, wu1, wuc, wui, wu2, ws1, wsc, ws2, wv1, n11_, n13_, n14_, n15_, n17_, n19_, n23_, n56_, n64_, fX6_goneSkins_l4, fX6_goneSkins_b32_4, c1, s1])
    (by
      rintro a v rfl
      refine ⟨_, ?_, rfl⟩
      simp (disch := omega) only [↓reduceIte, wlet, Option.bind_some, true_and, and_true, not_true_eq_false, not_false_eq_true, reduceCtorEq, n0_, n1_, n2_, n3_, n4_, n5_, n6_, n7_, n8_, n9_, n10_, n12_, n16_, n18_, n20_, n21_, n22_, n24_, n25_, n26_, n27_, n28_, n29_, n30_, n31_, n32_, n40_, n41_, n42_, n43_, n45_, n48_, n54_, n57_, n58_, n59_, n60_, n61_, n63_, n96_, n97_, n99_, n100_, n122_, n126_, n200_, n255_, n375_, n400_, n1000_, n2000_, n9999_, n5764801_, n1000000_, n3000_, m1, m2, le_t, le_f, lt_t, lt_f, eq_t, eq_f, no_lt, no_le, le_no, lt_no, eq_no, no_eq, add_no, wib_t, clamp, nI_add, pk_mul, pk_sub, nor_, nand_, ndif_, shl_, sh1_, shr_, tbn, tb0, tb1, les_t, les_f, pk_div, rem_, remv, and31, wu1, wuc, wui, wu2, ws1, wsc, ws2, wv1, n11_, n13_, n14_, n15_, n17_, n19_, n23_, n56_, n64_, fX6_goneSkins_l4, c1])
    (N := 3000) (by omega) (a0 := 0) (v0 := (nI 0, nI 0)) rfl
  simp (disch := omega) only [↓reduceIte, wlet, Option.bind_some, true_and, and_true, not_true_eq_false, not_false_eq_true, reduceCtorEq, n0_, n1_, n2_, n3_, n4_, n5_, n6_, n7_, n8_, n9_, n10_, n12_, n16_, n18_, n20_, n21_, n22_, n24_, n25_, n26_, n27_, n28_, n29_, n30_, n31_, n32_, n40_, n41_, n42_, n43_, n45_, n48_, n54_, n57_, n58_, n59_, n60_, n61_, n63_, n96_, n97_, n99_, n100_, n122_, n126_, n200_, n255_, n375_, n400_, n1000_, n2000_, n9999_, n5764801_, n1000000_, n3000_, m1, m2, le_t, le_f, lt_t, lt_f, eq_t, eq_f, no_lt, no_le, le_no, lt_no, eq_no, no_eq, add_no, wib_t, clamp, nI_add, pk_mul, pk_sub, nor_, nand_, ndif_, shl_, sh1_, shr_, tbn, tb0, tb1, les_t, les_f, pk_div, rem_, remv, and31, wu1, wuc, wui, wu2, ws1, wsc, ws2, wv1, n11_, n13_, n14_, n15_, n17_, n19_, n23_, n56_, n64_, fX6_goneSkins, he, eg]
  rfl
theorem r_gone (hx : MX h L S) : fX11_gones h = some (nI (gOr (fun i => if S.2.1 i = 0 then 2 ^ i else 0) (gns L) 0)) := by
  obtain ⟨hW, hC, hV, hS⟩ := id hx
  have n1 := hW.1
  have c1 := hC.1
  obtain ⟨e, he, eg⟩ := wit_for (b := fun v : (Int32 × Int32) => fX11_gones_l4 h v.1 v.2) (fun i a => a ||| (if S.2.1 i = 0 then 2 ^ i else 0)) (gns L)
    (fun i a v => v = (nI a, nI i)) (fun a e => e = nI a)
    (by
      rintro i a v hi rfl
      have s1 := (hS.2.1 i (by omega)).1
      rw [Nat.zero_add] at s1
      have v1 := (hV.2.1 i (by omega)).1
      refine ⟨_, ?_, rfl⟩
      by_cases h0 : S.2.1 i = 0
      · rw [if_pos h0]
        simp (disch := omega) only [↓reduceIte, wlet, Option.bind_some, true_and, and_true, not_true_eq_false, not_false_eq_true, reduceCtorEq, n0_, n1_, n2_, n3_, n4_, n5_, n6_, n7_, n8_, n9_, n10_, n12_, n16_, n18_, n20_, n21_, n22_, n24_, n25_, n26_, n27_, n28_, n29_, n30_, n31_, n32_, n40_, n41_, n42_, n43_, n45_, n48_, n54_, n57_, n58_, n59_, n60_, n61_, n63_, n96_, n97_, n99_, n100_, n122_, n126_, n200_, n255_, n375_, n400_, n1000_, n2000_, n9999_, n5764801_, n1000000_, n3000_, m1, m2, le_t, le_f, lt_t, lt_f, eq_t, eq_f, no_lt, no_le, le_no, lt_no, eq_no, no_eq, add_no, wib_t, clamp, nI_add, pk_mul, pk_sub, nor_, nand_, ndif_, shl_, sh1_, shr_, tbn, tb0, tb1, les_t, les_f, pk_div, rem_, remv, and31, wu1, wuc, wui, wu2, ws1, wsc, ws2, wv1, n11_, n13_, n14_, n15_, n17_, n19_, n23_, n56_, n64_, fX11_gones_l4, fX11_gones_b33_4, c1, s1, h0]
      · rw [if_neg h0]
        simp (disch := omega) only [↓reduceIte, wlet, Option.bind_some, true_and, and_true, not_true_eq_false, not_false_eq_true, reduceCtorEq, n0_, n1_, n2_, n3_, n4_, n5_, n6_, n7_, n8_, n9_, n10_, n12_, n16_, n18_, n20_, n21_, n22_, n24_, n25_, n26_, n27_, n28_, n29_, n30_, n31_, n32_, n40_, n41_, n42_, n43_, n45_, n48_, n54_, n57_, n58_, n59_, n60_, n61_, n63_, n96_, n97_, n99_, n100_, n122_, n126_, n200_, n255_, n375_, n400_, n1000_, n2000_, n9999_, n5764801_, n1000000_, n3000_, m1, m2, le_t, le_f, lt_t, lt_f, eq_t, eq_f, no_lt, no_le, le_no, lt_no, eq_no, no_eq, add_no, wib_t, clamp, nI_add, pk_mul, pk_sub, nor_, nand_, ndif_, shl_, sh1_, shr_, tbn, tb0, tb1, les_t, les_f, pk_div, rem_, remv, and31, wu1, wuc, wui, wu2, ws1, wsc, ws2, wv1, n11_, n13_, n14_, n15_, n17_, n19_, n23_, n56_, n64_, fX11_gones_l4, fX11_gones_b33_4, c1, s1])
    (by
      rintro a v rfl
      refine ⟨_, ?_, rfl⟩
      simp (disch := omega) only [↓reduceIte, wlet, Option.bind_some, true_and, and_true, not_true_eq_false, not_false_eq_true, reduceCtorEq, n0_, n1_, n2_, n3_, n4_, n5_, n6_, n7_, n8_, n9_, n10_, n12_, n16_, n18_, n20_, n21_, n22_, n24_, n25_, n26_, n27_, n28_, n29_, n30_, n31_, n32_, n40_, n41_, n42_, n43_, n45_, n48_, n54_, n57_, n58_, n59_, n60_, n61_, n63_, n96_, n97_, n99_, n100_, n122_, n126_, n200_, n255_, n375_, n400_, n1000_, n2000_, n9999_, n5764801_, n1000000_, n3000_, m1, m2, le_t, le_f, lt_t, lt_f, eq_t, eq_f, no_lt, no_le, le_no, lt_no, eq_no, no_eq, add_no, wib_t, clamp, nI_add, pk_mul, pk_sub, nor_, nand_, ndif_, shl_, sh1_, shr_, tbn, tb0, tb1, les_t, les_f, pk_div, rem_, remv, and31, wu1, wuc, wui, wu2, ws1, wsc, ws2, wv1, n11_, n13_, n14_, n15_, n17_, n19_, n23_, n56_, n64_, fX11_gones_l4, c1])
    (N := 3000) (by omega) (a0 := 0) (v0 := (nI 0, nI 0)) rfl
  simp (disch := omega) only [↓reduceIte, wlet, Option.bind_some, true_and, and_true, not_true_eq_false, not_false_eq_true, reduceCtorEq, n0_, n1_, n2_, n3_, n4_, n5_, n6_, n7_, n8_, n9_, n10_, n12_, n16_, n18_, n20_, n21_, n22_, n24_, n25_, n26_, n27_, n28_, n29_, n30_, n31_, n32_, n40_, n41_, n42_, n43_, n45_, n48_, n54_, n57_, n58_, n59_, n60_, n61_, n63_, n96_, n97_, n99_, n100_, n122_, n126_, n200_, n255_, n375_, n400_, n1000_, n2000_, n9999_, n5764801_, n1000000_, n3000_, m1, m2, le_t, le_f, lt_t, lt_f, eq_t, eq_f, no_lt, no_le, le_no, lt_no, eq_no, no_eq, add_no, wib_t, clamp, nI_add, pk_mul, pk_sub, nor_, nand_, ndif_, shl_, sh1_, shr_, tbn, tb0, tb1, les_t, les_f, pk_div, rem_, remv, and31, wu1, wuc, wui, wu2, ws1, wsc, ws2, wv1, n11_, n13_, n14_, n15_, n17_, n19_, n23_, n56_, n64_, fX11_gones, he, eg]
  rfl
theorem c_thick (hx : CX h L k S) : fX6_thickTogether h k = some (nI (S.2.1 0 + S.2.1 1 + S.2.1 2)) := by
  obtain ⟨hW, hC, hV, hS, hk⟩ := id hx
  have n1 := hW.1
  have c1 := hC.1
  obtain ⟨e, he, eg⟩ := wit_for (b := fun v : (Int32 × Int32) => fX6_thickTogether_l4 h k v.1 v.2) (fun i a => a + S.2.1 i) (gns L)
    (fun i a v => v = (nI a, nI i)) (fun a e => e = nI a)
    (by
      rintro i a v hi rfl
      have s1 := (hS.2.1 i (by omega)).1
      refine ⟨_, ?_, rfl⟩
      simp (disch := omega) only [↓reduceIte, wlet, Option.bind_some, true_and, and_true, not_true_eq_false, not_false_eq_true, reduceCtorEq, n0_, n1_, n2_, n3_, n4_, n5_, n6_, n7_, n8_, n9_, n10_, n12_, n16_, n18_, n20_, n21_, n22_, n24_, n25_, n26_, n27_, n28_, n29_, n30_, n31_, n32_, n40_, n41_, n42_, n43_, n45_, n48_, n54_, n57_, n58_, n59_, n60_, n61_, n63_, n96_, n97_, n99_, n100_, n122_, n126_, n200_, n255_, n375_, n400_, n1000_, n2000_, n9999_, n5764801_, n1000000_, n3000_, m1, m2, le_t, le_f, lt_t, lt_f, eq_t, eq_f, no_lt, no_le, le_no, lt_no, eq_no, no_eq, add_no, wib_t, clamp, nI_add, pk_mul, pk_sub, nor_, nand_, ndif_, shl_, sh1_, shr_, tbn, tb0, tb1, les_t, les_f, pk_div, rem_, remv, and31, wu1, wuc, wui, wu2, ws1, wsc, ws2, wv1, n11_, n13_, n14_, n15_, n17_, n19_, n23_, n56_, n64_, fX6_thickTogether_l4, c1, s1])
    (by
      rintro a v rfl
      refine ⟨_, ?_, rfl⟩
      simp (disch := omega) only [↓reduceIte, wlet, Option.bind_some, true_and, and_true, not_true_eq_false, not_false_eq_true, reduceCtorEq, n0_, n1_, n2_, n3_, n4_, n5_, n6_, n7_, n8_, n9_, n10_, n12_, n16_, n18_, n20_, n21_, n22_, n24_, n25_, n26_, n27_, n28_, n29_, n30_, n31_, n32_, n40_, n41_, n42_, n43_, n45_, n48_, n54_, n57_, n58_, n59_, n60_, n61_, n63_, n96_, n97_, n99_, n100_, n122_, n126_, n200_, n255_, n375_, n400_, n1000_, n2000_, n9999_, n5764801_, n1000000_, n3000_, m1, m2, le_t, le_f, lt_t, lt_f, eq_t, eq_f, no_lt, no_le, le_no, lt_no, eq_no, no_eq, add_no, wib_t, clamp, nI_add, pk_mul, pk_sub, nor_, nand_, ndif_, shl_, sh1_, shr_, tbn, tb0, tb1, les_t, les_f, pk_div, rem_, remv, and31, wu1, wuc, wui, wu2, ws1, wsc, ws2, wv1, n11_, n13_, n14_, n15_, n17_, n19_, n23_, n56_, n64_, fX6_thickTogether_l4, c1])
    (N := 3000) (by omega) (a0 := 0) (v0 := (nI 0, nI 0)) rfl
  have hsum : gF (fun i a => a + S.2.1 i) (gns L) 0 = S.2.1 0 + S.2.1 1 + S.2.1 2 := by
    have z := fun i hi hi2 => ((hV.2.1 i hi).2.2 hi2).1
    have z0 := z 0 (by omega)
    have z1 := z 1 (by omega)
    have z2 := z 2 (by omega)
    rcases (show gns L = 0 ∨ gns L = 1 ∨ gns L = 2 ∨ gns L = 3 by omega) with q | q | q | q <;> rw [q] <;> simp only [gF] <;> omega
  rw [hsum] at eg
  simp (disch := omega) only [↓reduceIte, wlet, Option.bind_some, true_and, and_true, not_true_eq_false, not_false_eq_true, reduceCtorEq, n0_, n1_, n2_, n3_, n4_, n5_, n6_, n7_, n8_, n9_, n10_, n12_, n16_, n18_, n20_, n21_, n22_, n24_, n25_, n26_, n27_, n28_, n29_, n30_, n31_, n32_, n40_, n41_, n42_, n43_, n45_, n48_, n54_, n57_, n58_, n59_, n60_, n61_, n63_, n96_, n97_, n99_, n100_, n122_, n126_, n200_, n255_, n375_, n400_, n1000_, n2000_, n9999_, n5764801_, n1000000_, n3000_, m1, m2, le_t, le_f, lt_t, lt_f, eq_t, eq_f, no_lt, no_le, le_no, lt_no, eq_no, no_eq, add_no, wib_t, clamp, nI_add, pk_mul, pk_sub, nor_, nand_, ndif_, shl_, sh1_, shr_, tbn, tb0, tb1, les_t, les_f, pk_div, rem_, remv, and31, wu1, wuc, wui, wu2, ws1, wsc, ws2, wv1, n11_, n13_, n14_, n15_, n17_, n19_, n23_, n56_, n64_, fX6_thickTogether, he, eg]
theorem r_thick (hx : MX h L S) : fX11_allThick h = some (nI (S.2.1 0 + S.2.1 1 + S.2.1 2)) := by
  have s := hx.2.2.2.2.1
  have s0 := (s 0 (by omega)).1
  have s1 := (s 1 (by omega)).1
  have s2 := (s 2 (by omega)).1
  simp only [Nat.reduceAdd] at s0 s1 s2
  simp (disch := omega) only [↓reduceIte, wlet, Option.bind_some, true_and, and_true, not_true_eq_false, not_false_eq_true, reduceCtorEq, n0_, n1_, n2_, n3_, n4_, n5_, n6_, n7_, n8_, n9_, n10_, n12_, n16_, n18_, n20_, n21_, n22_, n24_, n25_, n26_, n27_, n28_, n29_, n30_, n31_, n32_, n40_, n41_, n42_, n43_, n45_, n48_, n54_, n57_, n58_, n59_, n60_, n61_, n63_, n96_, n97_, n99_, n100_, n122_, n126_, n200_, n255_, n375_, n400_, n1000_, n2000_, n9999_, n5764801_, n1000000_, n3000_, m1, m2, le_t, le_f, lt_t, lt_f, eq_t, eq_f, no_lt, no_le, le_no, lt_no, eq_no, no_eq, add_no, wib_t, clamp, nI_add, pk_mul, pk_sub, nor_, nand_, ndif_, shl_, sh1_, shr_, tbn, tb0, tb1, les_t, les_f, pk_div, rem_, remv, and31, wu1, wuc, wui, wu2, ws1, wsc, ws2, wv1, n11_, n13_, n14_, n15_, n17_, n19_, n23_, n56_, n64_, fX11_allThick, s0, s1, s2]
theorem r_deepOf (h : wSt) {l : List Nat} (hl : l.length ≤ 9) (ht : ∀ t ∈ l, t < 6) : fX11_deepOf h (nI (e7 l)) = some (nI l.length) := by
  obtain ⟨e, he, eg⟩ := wit_list (b := fun v : (Int32 × Int32) => fX11_deepOf_l4 h v.1 v.2) (fun (_ : Nat) (n : Nat) => n + 1)
    (fun r n v => v = (nI n, nI (e7 r)) ∧ r.length ≤ 9 ∧ ∀ t ∈ r, t < 6) (fun n e => e = nI n)
    (by
      rintro t r n v ⟨rfl, h1, h2⟩
      have ht := h2 t (by simp)
      obtain ⟨q1, q2, q3, q5⟩ := e7_step (l := r) ht
      have q4 := e7_lt9 h1 h2
      refine ⟨_, ?_, rfl, by rw [List.length_cons] at h1; omega, fun u hu => h2 u (List.mem_cons_of_mem _ hu)⟩
      simp (disch := omega) only [↓reduceIte, wlet, Option.bind_some, true_and, and_true, not_true_eq_false, not_false_eq_true, reduceCtorEq, n0_, n1_, n2_, n3_, n4_, n5_, n6_, n7_, n8_, n9_, n10_, n12_, n16_, n18_, n20_, n21_, n22_, n24_, n25_, n26_, n27_, n28_, n29_, n30_, n31_, n32_, n40_, n41_, n42_, n43_, n45_, n48_, n54_, n57_, n58_, n59_, n60_, n61_, n63_, n96_, n97_, n99_, n100_, n122_, n126_, n200_, n255_, n375_, n400_, n1000_, n2000_, n9999_, n5764801_, n1000000_, n3000_, m1, m2, le_t, le_f, lt_t, lt_f, eq_t, eq_f, no_lt, no_le, le_no, lt_no, eq_no, no_eq, add_no, wib_t, clamp, nI_add, pk_mul, pk_sub, nor_, nand_, ndif_, shl_, sh1_, shr_, tbn, tb0, tb1, les_t, les_f, pk_div, rem_, remv, and31, wu1, wuc, wui, wu2, ws1, wsc, ws2, wv1, n11_, n13_, n14_, n15_, n17_, n19_, n23_, n56_, n64_, fX11_deepOf_l4, q2])
    (by
      rintro n v ⟨rfl, -⟩
      refine ⟨_, ?_, rfl⟩
      simp (disch := omega) only [↓reduceIte, wlet, Option.bind_some, true_and, and_true, not_true_eq_false, not_false_eq_true, reduceCtorEq, n0_, n1_, n2_, n3_, n4_, n5_, n6_, n7_, n8_, n9_, n10_, n12_, n16_, n18_, n20_, n21_, n22_, n24_, n25_, n26_, n27_, n28_, n29_, n30_, n31_, n32_, n40_, n41_, n42_, n43_, n45_, n48_, n54_, n57_, n58_, n59_, n60_, n61_, n63_, n96_, n97_, n99_, n100_, n122_, n126_, n200_, n255_, n375_, n400_, n1000_, n2000_, n9999_, n5764801_, n1000000_, n3000_, m1, m2, le_t, le_f, lt_t, lt_f, eq_t, eq_f, no_lt, no_le, le_no, lt_no, eq_no, no_eq, add_no, wib_t, clamp, nI_add, pk_mul, pk_sub, nor_, nand_, ndif_, shl_, sh1_, shr_, tbn, tb0, tb1, les_t, les_f, pk_div, rem_, remv, and31, wu1, wuc, wui, wu2, ws1, wsc, ws2, wv1, n11_, n13_, n14_, n15_, n17_, n19_, n23_, n56_, n64_, fX11_deepOf_l4, e7])
    l 0 (nI 0, nI (e7 l)) 3000 (by omega) ⟨rfl, hl, ht⟩
  have hlen : ∀ (l : List Nat) (n : Nat), l.foldl (fun a (_ : Nat) => a + 1) n = n + l.length := by
    intro l
    induction l with
    | nil => intro n; rfl
    | cons t l ih => intro n; rw [List.foldl_cons, ih, List.length_cons]; omega
  rw [hlen, Nat.zero_add] at eg
  simp (disch := omega) only [↓reduceIte, wlet, Option.bind_some, true_and, and_true, not_true_eq_false, not_false_eq_true, reduceCtorEq, n0_, n1_, n2_, n3_, n4_, n5_, n6_, n7_, n8_, n9_, n10_, n12_, n16_, n18_, n20_, n21_, n22_, n24_, n25_, n26_, n27_, n28_, n29_, n30_, n31_, n32_, n40_, n41_, n42_, n43_, n45_, n48_, n54_, n57_, n58_, n59_, n60_, n61_, n63_, n96_, n97_, n99_, n100_, n122_, n126_, n200_, n255_, n375_, n400_, n1000_, n2000_, n9999_, n5764801_, n1000000_, n3000_, m1, m2, le_t, le_f, lt_t, lt_f, eq_t, eq_f, no_lt, no_le, le_no, lt_no, eq_no, no_eq, add_no, wib_t, clamp, nI_add, pk_mul, pk_sub, nor_, nand_, ndif_, shl_, sh1_, shr_, tbn, tb0, tb1, les_t, les_f, pk_div, rem_, remv, and31, wu1, wuc, wui, wu2, ws1, wsc, ws2, wv1, n11_, n13_, n14_, n15_, n17_, n19_, n23_, n56_, n64_, fX11_deepOf, he, eg]
theorem c_layers (hx : CX h L k S) : fX6_layersTogether h k = some (nI (gF (fun p a => a + (S.2.2.2 p).length) 18 0)) := by
  obtain ⟨hW, hC, hV, hS, hk⟩ := id hx
  obtain ⟨e, he, eg⟩ := wit_for (b := fun v : (Int32 × Int32) => fX6_layersTogether_l4 h k v.1 v.2) (fun p a => a + (S.2.2.2 p).length) 18
    (fun i a v => v = (nI a, nI i)) (fun a e => e = nI a)
    (by
      rintro i a v hi rfl
      have s1 := (hS.2.2 i (by omega)).1
      refine ⟨_, ?_, rfl⟩
      simp (disch := omega) only [↓reduceIte, wlet, Option.bind_some, true_and, and_true, not_true_eq_false, not_false_eq_true, reduceCtorEq, n0_, n1_, n2_, n3_, n4_, n5_, n6_, n7_, n8_, n9_, n10_, n12_, n16_, n18_, n20_, n21_, n22_, n24_, n25_, n26_, n27_, n28_, n29_, n30_, n31_, n32_, n40_, n41_, n42_, n43_, n45_, n48_, n54_, n57_, n58_, n59_, n60_, n61_, n63_, n96_, n97_, n99_, n100_, n122_, n126_, n200_, n255_, n375_, n400_, n1000_, n2000_, n9999_, n5764801_, n1000000_, n3000_, m1, m2, le_t, le_f, lt_t, lt_f, eq_t, eq_f, no_lt, no_le, le_no, lt_no, eq_no, no_eq, add_no, wib_t, clamp, nI_add, pk_mul, pk_sub, nor_, nand_, ndif_, shl_, sh1_, shr_, tbn, tb0, tb1, les_t, les_f, pk_div, rem_, remv, and31, wu1, wuc, wui, wu2, ws1, wsc, ws2, wv1, n11_, n13_, n14_, n15_, n17_, n19_, n23_, n56_, n64_, fX6_layersTogether_l4, s1])
    (by
      rintro a v rfl
      refine ⟨_, ?_, rfl⟩
      simp (disch := omega) only [↓reduceIte, wlet, Option.bind_some, true_and, and_true, not_true_eq_false, not_false_eq_true, reduceCtorEq, n0_, n1_, n2_, n3_, n4_, n5_, n6_, n7_, n8_, n9_, n10_, n12_, n16_, n18_, n20_, n21_, n22_, n24_, n25_, n26_, n27_, n28_, n29_, n30_, n31_, n32_, n40_, n41_, n42_, n43_, n45_, n48_, n54_, n57_, n58_, n59_, n60_, n61_, n63_, n96_, n97_, n99_, n100_, n122_, n126_, n200_, n255_, n375_, n400_, n1000_, n2000_, n9999_, n5764801_, n1000000_, n3000_, m1, m2, le_t, le_f, lt_t, lt_f, eq_t, eq_f, no_lt, no_le, le_no, lt_no, eq_no, no_eq, add_no, wib_t, clamp, nI_add, pk_mul, pk_sub, nor_, nand_, ndif_, shl_, sh1_, shr_, tbn, tb0, tb1, les_t, les_f, pk_div, rem_, remv, and31, wu1, wuc, wui, wu2, ws1, wsc, ws2, wv1, n11_, n13_, n14_, n15_, n17_, n19_, n23_, n56_, n64_, fX6_layersTogether_l4])
    (N := 3000) (by omega) (a0 := 0) (v0 := (nI 0, nI 0)) rfl
  simp (disch := omega) only [↓reduceIte, wlet, Option.bind_some, true_and, and_true, not_true_eq_false, not_false_eq_true, reduceCtorEq, n0_, n1_, n2_, n3_, n4_, n5_, n6_, n7_, n8_, n9_, n10_, n12_, n16_, n18_, n20_, n21_, n22_, n24_, n25_, n26_, n27_, n28_, n29_, n30_, n31_, n32_, n40_, n41_, n42_, n43_, n45_, n48_, n54_, n57_, n58_, n59_, n60_, n61_, n63_, n96_, n97_, n99_, n100_, n122_, n126_, n200_, n255_, n375_, n400_, n1000_, n2000_, n9999_, n5764801_, n1000000_, n3000_, m1, m2, le_t, le_f, lt_t, lt_f, eq_t, eq_f, no_lt, no_le, le_no, lt_no, eq_no, no_eq, add_no, wib_t, clamp, nI_add, pk_mul, pk_sub, nor_, nand_, ndif_, shl_, sh1_, shr_, tbn, tb0, tb1, les_t, les_f, pk_div, rem_, remv, and31, wu1, wuc, wui, wu2, ws1, wsc, ws2, wv1, n11_, n13_, n14_, n15_, n17_, n19_, n23_, n56_, n64_, fX6_layersTogether, he, eg]
theorem pile_lt (hW : WL L) (hV : WS L S) {p : Nat} (hp : p < 18) : (S.2.2.2 p).length ≤ 9 ∧ ∀ t ∈ S.2.2.2 p, t < 6 := by
  have n2 := hW.2.1
  obtain ⟨a1, a2⟩ := hV.2.2.1 p hp
  exact ⟨a1, fun t ht => by have := a2 t ht; omega⟩
theorem r_pile (hx : MX h L S) {p : Nat} (hp : p < 18) : h.1 225 (7 + p) = nI (e7 (S.2.2.2 p)) := by
  have := hx.2.2.2.2.2 p hp
  rw [Nat.zero_add] at this
  exact this
theorem r_layers (hx : MX h L S) : fX11_allLayers h = some (nI (gF (fun p a => a + (S.2.2.2 p).length) 18 0)) := by
  obtain ⟨hW, hC, hV, hS⟩ := id hx
  obtain ⟨e, he, eg⟩ := wit_for (b := fun v : (Int32 × Int32) => fX11_allLayers_l4 h v.1 v.2) (fun p a => a + (S.2.2.2 p).length) 18
    (fun i a v => v = (nI a, nI i)) (fun a e => e = nI a)
    (by
      rintro i a v hi rfl
      have s1 := r_pile hx hi
      obtain ⟨p1, p2⟩ := pile_lt hW hV hi
      have s2 := r_deepOf h p1 p2
      refine ⟨_, ?_, rfl⟩
      simp (disch := omega) only [↓reduceIte, wlet, Option.bind_some, true_and, and_true, not_true_eq_false, not_false_eq_true, reduceCtorEq, n0_, n1_, n2_, n3_, n4_, n5_, n6_, n7_, n8_, n9_, n10_, n12_, n16_, n18_, n20_, n21_, n22_, n24_, n25_, n26_, n27_, n28_, n29_, n30_, n31_, n32_, n40_, n41_, n42_, n43_, n45_, n48_, n54_, n57_, n58_, n59_, n60_, n61_, n63_, n96_, n97_, n99_, n100_, n122_, n126_, n200_, n255_, n375_, n400_, n1000_, n2000_, n9999_, n5764801_, n1000000_, n3000_, m1, m2, le_t, le_f, lt_t, lt_f, eq_t, eq_f, no_lt, no_le, le_no, lt_no, eq_no, no_eq, add_no, wib_t, clamp, nI_add, pk_mul, pk_sub, nor_, nand_, ndif_, shl_, sh1_, shr_, tbn, tb0, tb1, les_t, les_f, pk_div, rem_, remv, and31, wu1, wuc, wui, wu2, ws1, wsc, ws2, wv1, n11_, n13_, n14_, n15_, n17_, n19_, n23_, n56_, n64_, fX11_allLayers_l4, s1, s2])
    (by
      rintro a v rfl
      refine ⟨_, ?_, rfl⟩
      simp (disch := omega) only [↓reduceIte, wlet, Option.bind_some, true_and, and_true, not_true_eq_false, not_false_eq_true, reduceCtorEq, n0_, n1_, n2_, n3_, n4_, n5_, n6_, n7_, n8_, n9_, n10_, n12_, n16_, n18_, n20_, n21_, n22_, n24_, n25_, n26_, n27_, n28_, n29_, n30_, n31_, n32_, n40_, n41_, n42_, n43_, n45_, n48_, n54_, n57_, n58_, n59_, n60_, n61_, n63_, n96_, n97_, n99_, n100_, n122_, n126_, n200_, n255_, n375_, n400_, n1000_, n2000_, n9999_, n5764801_, n1000000_, n3000_, m1, m2, le_t, le_f, lt_t, lt_f, eq_t, eq_f, no_lt, no_le, le_no, lt_no, eq_no, no_eq, add_no, wib_t, clamp, nI_add, pk_mul, pk_sub, nor_, nand_, ndif_, shl_, sh1_, shr_, tbn, tb0, tb1, les_t, les_f, pk_div, rem_, remv, and31, wu1, wuc, wui, wu2, ws1, wsc, ws2, wv1, n11_, n13_, n14_, n15_, n17_, n19_, n23_, n56_, n64_, fX11_allLayers_l4])
    (N := 3000) (by omega) (a0 := 0) (v0 := (nI 0, nI 0)) rfl
  simp (disch := omega) only [↓reduceIte, wlet, Option.bind_some, true_and, and_true, not_true_eq_false, not_false_eq_true, reduceCtorEq, n0_, n1_, n2_, n3_, n4_, n5_, n6_, n7_, n8_, n9_, n10_, n12_, n16_, n18_, n20_, n21_, n22_, n24_, n25_, n26_, n27_, n28_, n29_, n30_, n31_, n32_, n40_, n41_, n42_, n43_, n45_, n48_, n54_, n57_, n58_, n59_, n60_, n61_, n63_, n96_, n97_, n99_, n100_, n122_, n126_, n200_, n255_, n375_, n400_, n1000_, n2000_, n9999_, n5764801_, n1000000_, n3000_, m1, m2, le_t, le_f, lt_t, lt_f, eq_t, eq_f, no_lt, no_le, le_no, lt_no, eq_no, no_eq, add_no, wib_t, clamp, nI_add, pk_mul, pk_sub, nor_, nand_, ndif_, shl_, sh1_, shr_, tbn, tb0, tb1, les_t, les_f, pk_div, rem_, remv, and31, wu1, wuc, wui, wu2, ws1, wsc, ws2, wv1, n11_, n13_, n14_, n15_, n17_, n19_, n23_, n56_, n64_, fX11_allLayers, he, eg]
/-- from below -/
theorem last_split {l l0 r : List Nat} (hl : l = l0 ++ r) (hr : r.length < l.length) : ∃ l1 u, l = l1 ++ u :: r := by
  rcases List.eq_nil_or_concat l0 with e | ⟨l1, u, e⟩
  · rw [e, List.nil_append] at hl
    rw [hl] at hr
    omega
  · exact ⟨l1, u, by rw [hl, e]; simp⟩
theorem c_over1 (hx : CX h L k S) {t p : Nat} (ht : t < gnt L) (hp : p < 18) (a : Nat) : wit (fun v : (Int32 × Int32 × Int32) => fX6_textsOver_l16 h k (nI t) (nI p) v.1 v.2.1 v.2.2) 3000 (nI a, nI 0, nI 0) = some (nI (a ||| gOv t (S.2.2.2 p))) := by
  obtain ⟨hW, hC, hV, hS, hk⟩ := id hx
  have n2 := hW.2.1
  have s1 := (hS.2.2 p hp).1
  obtain ⟨p1, p2⟩ := hV.2.2.1 p hp
  obtain ⟨e, he, eg⟩ := wit_for (b := fun v : (Int32 × Int32 × Int32) => fX6_textsOver_l16 h k (nI t) (nI p) v.1 v.2.1 v.2.2) (fun _ (u : Unit) => u) (S.2.2.2 p).length
    (fun i _ v => ∃ l0 r, S.2.2.2 p = l0 ++ r ∧ r.length = i ∧ v = (nI (a ||| gOv t r), nI (if t ∈ r then 1 else 0), nI i)) (fun _ e => e = nI (a ||| gOv t (S.2.2.2 p)))
    (by
      rintro i _ v hi ⟨l0, r, hl, hr, rfl⟩
      obtain ⟨l1, u, hl2⟩ := last_split hl (by omega)
      have hu := p2 u (by rw [hl2]; simp)
      have a1 := c_layerAt hx hp hl2
      rw [hr] at a1
      refine ⟨(nI (a ||| gOv t (u :: r)), nI (if t ∈ u :: r then 1 else 0), nI (i + 1)), ?_, l1, u :: r, hl2, by rw [List.length_cons, hr], rfl⟩
      rw [gOv]
      by_cases h1 : t ∈ r
      · rw [if_pos h1, if_pos h1, if_pos (List.mem_cons_of_mem _ h1), ← Nat.or_assoc]
        by_cases h2 : u = t
        · simp (disch := omega) only [↓reduceIte, wlet, Option.bind_some, true_and, and_true, not_true_eq_false, not_false_eq_true, reduceCtorEq, n0_, n1_, n2_, n3_, n4_, n5_, n6_, n7_, n8_, n9_, n10_, n12_, n16_, n18_, n20_, n21_, n22_, n24_, n25_, n26_, n27_, n28_, n29_, n30_, n31_, n32_, n40_, n41_, n42_, n43_, n45_, n48_, n54_, n57_, n58_, n59_, n60_, n61_, n63_, n96_, n97_, n99_, n100_, n122_, n126_, n200_, n255_, n375_, n400_, n1000_, n2000_, n9999_, n5764801_, n1000000_, n3000_, m1, m2, le_t, le_f, lt_t, lt_f, eq_t, eq_f, no_lt, no_le, le_no, lt_no, eq_no, no_eq, add_no, wib_t, clamp, nI_add, pk_mul, pk_sub, nor_, nand_, ndif_, shl_, sh1_, shr_, tbn, tb0, tb1, les_t, les_f, pk_div, rem_, remv, and31, wu1, wuc, wui, wu2, ws1, wsc, ws2, wv1, n11_, n13_, n14_, n15_, n17_, n19_, n23_, n56_, n64_, fX6_textsOver_l16, fX6_textsOver_b50_16, fX6_textsOver_b65_16, s1, a1, h2]
          rfl
        · simp (disch := omega) only [↓reduceIte, wlet, Option.bind_some, true_and, and_true, not_true_eq_false, not_false_eq_true, reduceCtorEq, n0_, n1_, n2_, n3_, n4_, n5_, n6_, n7_, n8_, n9_, n10_, n12_, n16_, n18_, n20_, n21_, n22_, n24_, n25_, n26_, n27_, n28_, n29_, n30_, n31_, n32_, n40_, n41_, n42_, n43_, n45_, n48_, n54_, n57_, n58_, n59_, n60_, n61_, n63_, n96_, n97_, n99_, n100_, n122_, n126_, n200_, n255_, n375_, n400_, n1000_, n2000_, n9999_, n5764801_, n1000000_, n3000_, m1, m2, le_t, le_f, lt_t, lt_f, eq_t, eq_f, no_lt, no_le, le_no, lt_no, eq_no, no_eq, add_no, wib_t, clamp, nI_add, pk_mul, pk_sub, nor_, nand_, ndif_, shl_, sh1_, shr_, tbn, tb0, tb1, les_t, les_f, pk_div, rem_, remv, and31, wu1, wuc, wui, wu2, ws1, wsc, ws2, wv1, n11_, n13_, n14_, n15_, n17_, n19_, n23_, n56_, n64_, fX6_textsOver_l16, fX6_textsOver_b50_16, fX6_textsOver_b65_16, s1, a1]
          rfl
      · rw [if_neg h1, if_neg h1]
        by_cases h2 : u = t
        · rw [if_pos (by rw [h2]; simp)]
          simp (disch := omega) only [↓reduceIte, wlet, Option.bind_some, true_and, and_true, not_true_eq_false, not_false_eq_true, reduceCtorEq, n0_, n1_, n2_, n3_, n4_, n5_, n6_, n7_, n8_, n9_, n10_, n12_, n16_, n18_, n20_, n21_, n22_, n24_, n25_, n26_, n27_, n28_, n29_, n30_, n31_, n32_, n40_, n41_, n42_, n43_, n45_, n48_, n54_, n57_, n58_, n59_, n60_, n61_, n63_, n96_, n97_, n99_, n100_, n122_, n126_, n200_, n255_, n375_, n400_, n1000_, n2000_, n9999_, n5764801_, n1000000_, n3000_, m1, m2, le_t, le_f, lt_t, lt_f, eq_t, eq_f, no_lt, no_le, le_no, lt_no, eq_no, no_eq, add_no, wib_t, clamp, nI_add, pk_mul, pk_sub, nor_, nand_, ndif_, shl_, sh1_, shr_, tbn, tb0, tb1, les_t, les_f, pk_div, rem_, remv, and31, wu1, wuc, wui, wu2, ws1, wsc, ws2, wv1, n11_, n13_, n14_, n15_, n17_, n19_, n23_, n56_, n64_, fX6_textsOver_l16, fX6_textsOver_b50_16, fX6_textsOver_b65_16, s1, a1, h2, Nat.or_zero]
          rfl
        · rw [if_neg (by rw [List.mem_cons]; rintro (q | q); exact h2 q.symm; exact h1 q)]
          simp (disch := omega) only [↓reduceIte, wlet, Option.bind_some, true_and, and_true, not_true_eq_false, not_false_eq_true, reduceCtorEq, n0_, n1_, n2_, n3_, n4_, n5_, n6_, n7_, n8_, n9_, n10_, n12_, n16_, n18_, n20_, n21_, n22_, n24_, n25_, n26_, n27_, n28_, n29_, n30_, n31_, n32_, n40_, n41_, n42_, n43_, n45_, n48_, n54_, n57_, n58_, n59_, n60_, n61_, n63_, n96_, n97_, n99_, n100_, n122_, n126_, n200_, n255_, n375_, n400_, n1000_, n2000_, n9999_, n5764801_, n1000000_, n3000_, m1, m2, le_t, le_f, lt_t, lt_f, eq_t, eq_f, no_lt, no_le, le_no, lt_no, eq_no, no_eq, add_no, wib_t, clamp, nI_add, pk_mul, pk_sub, nor_, nand_, ndif_, shl_, sh1_, shr_, tbn, tb0, tb1, les_t, les_f, pk_div, rem_, remv, and31, wu1, wuc, wui, wu2, ws1, wsc, ws2, wv1, n11_, n13_, n14_, n15_, n17_, n19_, n23_, n56_, n64_, fX6_textsOver_l16, fX6_textsOver_b50_16, fX6_textsOver_b65_16, s1, a1, Nat.or_zero])
    (by
      rintro _ v ⟨l0, r, hl, hr, rfl⟩
      have : l0 = [] := by
        have := congrArg List.length hl
        rw [List.length_append] at this
        exact List.length_eq_zero_iff.mp (by omega)
      rw [this, List.nil_append] at hl
      refine ⟨_, ?_, rfl⟩
      rw [← hl]
      simp (disch := omega) only [↓reduceIte, wlet, Option.bind_some, true_and, and_true, not_true_eq_false, not_false_eq_true, reduceCtorEq, n0_, n1_, n2_, n3_, n4_, n5_, n6_, n7_, n8_, n9_, n10_, n12_, n16_, n18_, n20_, n21_, n22_, n24_, n25_, n26_, n27_, n28_, n29_, n30_, n31_, n32_, n40_, n41_, n42_, n43_, n45_, n48_, n54_, n57_, n58_, n59_, n60_, n61_, n63_, n96_, n97_, n99_, n100_, n122_, n126_, n200_, n255_, n375_, n400_, n1000_, n2000_, n9999_, n5764801_, n1000000_, n3000_, m1, m2, le_t, le_f, lt_t, lt_f, eq_t, eq_f, no_lt, no_le, le_no, lt_no, eq_no, no_eq, add_no, wib_t, clamp, nI_add, pk_mul, pk_sub, nor_, nand_, ndif_, shl_, sh1_, shr_, tbn, tb0, tb1, les_t, les_f, pk_div, rem_, remv, and31, wu1, wuc, wui, wu2, ws1, wsc, ws2, wv1, n11_, n13_, n14_, n15_, n17_, n19_, n23_, n56_, n64_, fX6_textsOver_l16, s1])
    (N := 3000) (by omega) (a0 := ()) (v0 := (nI a, nI 0, nI 0)) ⟨S.2.2.2 p, [], by simp, rfl, by simp [gOv]⟩
  rw [he, eg]
theorem c_over (hx : CX h L k S) {t : Nat} (ht : t < gnt L) : fX6_textsOver h k (nI t) = some (nI (gOr (fun p => gOv t (S.2.2.2 p)) 18 0)) := by
  obtain ⟨e, he, eg⟩ := wit_for (b := fun v : (Int32 × Int32) => fX6_textsOver_l4 h k (nI t) v.1 v.2) (fun p a => a ||| gOv t (S.2.2.2 p)) 18
    (fun i a v => v = (nI a, nI i)) (fun a e => e = nI a)
    (by
      rintro i a v hi rfl
      have e1 := c_over1 hx ht hi a
      refine ⟨_, ?_, rfl⟩
      simp (disch := omega) only [↓reduceIte, wlet, Option.bind_some, true_and, and_true, not_true_eq_false, not_false_eq_true, reduceCtorEq, n0_, n1_, n2_, n3_, n4_, n5_, n6_, n7_, n8_, n9_, n10_, n12_, n16_, n18_, n20_, n21_, n22_, n24_, n25_, n26_, n27_, n28_, n29_, n30_, n31_, n32_, n40_, n41_, n42_, n43_, n45_, n48_, n54_, n57_, n58_, n59_, n60_, n61_, n63_, n96_, n97_, n99_, n100_, n122_, n126_, n200_, n255_, n375_, n400_, n1000_, n2000_, n9999_, n5764801_, n1000000_, n3000_, m1, m2, le_t, le_f, lt_t, lt_f, eq_t, eq_f, no_lt, no_le, le_no, lt_no, eq_no, no_eq, add_no, wib_t, clamp, nI_add, pk_mul, pk_sub, nor_, nand_, ndif_, shl_, sh1_, shr_, tbn, tb0, tb1, les_t, les_f, pk_div, rem_, remv, and31, wu1, wuc, wui, wu2, ws1, wsc, ws2, wv1, n11_, n13_, n14_, n15_, n17_, n19_, n23_, n56_, n64_, fX6_textsOver_l4, e1])
    (by
      rintro a v rfl
      refine ⟨_, ?_, rfl⟩
      simp (disch := omega) only [↓reduceIte, wlet, Option.bind_some, true_and, and_true, not_true_eq_false, not_false_eq_true, reduceCtorEq, n0_, n1_, n2_, n3_, n4_, n5_, n6_, n7_, n8_, n9_, n10_, n12_, n16_, n18_, n20_, n21_, n22_, n24_, n25_, n26_, n27_, n28_, n29_, n30_, n31_, n32_, n40_, n41_, n42_, n43_, n45_, n48_, n54_, n57_, n58_, n59_, n60_, n61_, n63_, n96_, n97_, n99_, n100_, n122_, n126_, n200_, n255_, n375_, n400_, n1000_, n2000_, n9999_, n5764801_, n1000000_, n3000_, m1, m2, le_t, le_f, lt_t, lt_f, eq_t, eq_f, no_lt, no_le, le_no, lt_no, eq_no, no_eq, add_no, wib_t, clamp, nI_add, pk_mul, pk_sub, nor_, nand_, ndif_, shl_, sh1_, shr_, tbn, tb0, tb1, les_t, les_f, pk_div, rem_, remv, and31, wu1, wuc, wui, wu2, ws1, wsc, ws2, wv1, n11_, n13_, n14_, n15_, n17_, n19_, n23_, n56_, n64_, fX6_textsOver_l4])
    (N := 3000) (by omega) (a0 := 0) (v0 := (nI 0, nI 0)) rfl
  simp (disch := omega) only [↓reduceIte, wlet, Option.bind_some, true_and, and_true, not_true_eq_false, not_false_eq_true, reduceCtorEq, n0_, n1_, n2_, n3_, n4_, n5_, n6_, n7_, n8_, n9_, n10_, n12_, n16_, n18_, n20_, n21_, n22_, n24_, n25_, n26_, n27_, n28_, n29_, n30_, n31_, n32_, n40_, n41_, n42_, n43_, n45_, n48_, n54_, n57_, n58_, n59_, n60_, n61_, n63_, n96_, n97_, n99_, n100_, n122_, n126_, n200_, n255_, n375_, n400_, n1000_, n2000_, n9999_, n5764801_, n1000000_, n3000_, m1, m2, le_t, le_f, lt_t, lt_f, eq_t, eq_f, no_lt, no_le, le_no, lt_no, eq_no, no_eq, add_no, wib_t, clamp, nI_add, pk_mul, pk_sub, nor_, nand_, ndif_, shl_, sh1_, shr_, tbn, tb0, tb1, les_t, les_f, pk_div, rem_, remv, and31, wu1, wuc, wui, wu2, ws1, wsc, ws2, wv1, n11_, n13_, n14_, n15_, n17_, n19_, n23_, n56_, n64_, fX6_textsOver, he, eg]
  rfl
theorem r_over1 (h : wSt) {t p : Nat} (ht : t < 6) : ∀ (l : List Nat) (a b : Nat) (N : Nat), l.length < N → (l.length ≤ 9 ∧ ∀ u ∈ l, u < 6) → wit (fun v : (Int32 × Int32 × Int32) => fX11_over_l39 h (nI t) (nI p) v.1 v.2.1 v.2.2) N (nI a, nI b, nI (e7 l)) = some (nI (a ||| rOv t b l)) := by
  intro l
  induction l with
  | nil =>
    intro a b N hN hl
    obtain ⟨N, rfl⟩ : ∃ m, N = m + 1 := ⟨N - 1, by omega⟩
    have : fX11_over_l39 h (nI t) (nI p) (nI a) (nI b) (nI (e7 [])) = some (.inr (nI a)) := by simp (disch := omega) only [↓reduceIte, wlet, Option.bind_some, true_and, and_true, not_true_eq_false, not_false_eq_true, reduceCtorEq, n0_, n1_, n2_, n3_, n4_, n5_, n6_, n7_, n8_, n9_, n10_, n12_, n16_, n18_, n20_, n21_, n22_, n24_, n25_, n26_, n27_, n28_, n29_, n30_, n31_, n32_, n40_, n41_, n42_, n43_, n45_, n48_, n54_, n57_, n58_, n59_, n60_, n61_, n63_, n96_, n97_, n99_, n100_, n122_, n126_, n200_, n255_, n375_, n400_, n1000_, n2000_, n9999_, n5764801_, n1000000_, n3000_, m1, m2, le_t, le_f, lt_t, lt_f, eq_t, eq_f, no_lt, no_le, le_no, lt_no, eq_no, no_eq, add_no, wib_t, clamp, nI_add, pk_mul, pk_sub, nor_, nand_, ndif_, shl_, sh1_, shr_, tbn, tb0, tb1, les_t, les_f, pk_div, rem_, remv, and31, wu1, wuc, wui, wu2, ws1, wsc, ws2, wv1, n11_, n13_, n14_, n15_, n17_, n19_, n23_, n56_, n64_, fX11_over_l39, e7]
    rw [wit, this, rOv, Nat.or_zero]
  | cons u l ih =>
    intro a b N hN hl
    rw [List.length_cons] at hN
    obtain ⟨N, rfl⟩ : ∃ m, N = m + 1 := ⟨N - 1, by omega⟩
    have hu := hl.2 u (by simp)
    obtain ⟨q1, q2, q3, q5⟩ := e7_step (l := l) hu
    have q4 := e7_lt9 hl.1 hl.2
    have hl1 := hl.1
    rw [List.length_cons] at hl1
    have hl2 : l.length ≤ 9 ∧ ∀ u ∈ l, u < 6 := ⟨by omega, fun v hv => hl.2 v (List.mem_cons_of_mem _ hv)⟩
    rw [rOv]
    by_cases h2 : u = t
    · subst h2
      have : fX11_over_l39 h (nI u) (nI p) (nI a) (nI b) (nI (e7 (u :: l))) = some (.inl (nI (a ||| b), nI (b ||| 2 ^ u), nI (e7 l))) := by simp (disch := omega) only [↓reduceIte, wlet, Option.bind_some, true_and, and_true, not_true_eq_false, not_false_eq_true, reduceCtorEq, n0_, n1_, n2_, n3_, n4_, n5_, n6_, n7_, n8_, n9_, n10_, n12_, n16_, n18_, n20_, n21_, n22_, n24_, n25_, n26_, n27_, n28_, n29_, n30_, n31_, n32_, n40_, n41_, n42_, n43_, n45_, n48_, n54_, n57_, n58_, n59_, n60_, n61_, n63_, n96_, n97_, n99_, n100_, n122_, n126_, n200_, n255_, n375_, n400_, n1000_, n2000_, n9999_, n5764801_, n1000000_, n3000_, m1, m2, le_t, le_f, lt_t, lt_f, eq_t, eq_f, no_lt, no_le, le_no, lt_no, eq_no, no_eq, add_no, wib_t, clamp, nI_add, pk_mul, pk_sub, nor_, nand_, ndif_, shl_, sh1_, shr_, tbn, tb0, tb1, les_t, les_f, pk_div, rem_, remv, and31, wu1, wuc, wui, wu2, ws1, wsc, ws2, wv1, n11_, n13_, n14_, n15_, n17_, n19_, n23_, n56_, n64_, fX11_over_l39, fX11_over_b60_39, q2, q5]
      rw [wit, this, if_pos rfl, ← Nat.or_assoc]
      exact ih _ _ N (by omega) hl2
    · have : fX11_over_l39 h (nI t) (nI p) (nI a) (nI b) (nI (e7 (u :: l))) = some (.inl (nI a, nI (b ||| 2 ^ u), nI (e7 l))) := by simp (disch := omega) only [↓reduceIte, wlet, Option.bind_some, true_and, and_true, not_true_eq_false, not_false_eq_true, reduceCtorEq, n0_, n1_, n2_, n3_, n4_, n5_, n6_, n7_, n8_, n9_, n10_, n12_, n16_, n18_, n20_, n21_, n22_, n24_, n25_, n26_, n27_, n28_, n29_, n30_, n31_, n32_, n40_, n41_, n42_, n43_, n45_, n48_, n54_, n57_, n58_, n59_, n60_, n61_, n63_, n96_, n97_, n99_, n100_, n122_, n126_, n200_, n255_, n375_, n400_, n1000_, n2000_, n9999_, n5764801_, n1000000_, n3000_, m1, m2, le_t, le_f, lt_t, lt_f, eq_t, eq_f, no_lt, no_le, le_no, lt_no, eq_no, no_eq, add_no, wib_t, clamp, nI_add, pk_mul, pk_sub, nor_, nand_, ndif_, shl_, sh1_, shr_, tbn, tb0, tb1, les_t, les_f, pk_div, rem_, remv, and31, wu1, wuc, wui, wu2, ws1, wsc, ws2, wv1, n11_, n13_, n14_, n15_, n17_, n19_, n23_, n56_, n64_, fX11_over_l39, fX11_over_b60_39, q2, q5]
      rw [wit, this, if_neg h2, Nat.zero_or]
      exact ih _ _ N (by omega) hl2
theorem r_over (hx : MX h L S) {t : Nat} (ht : t < gnt L) : wit (fun v : (Int32 × Int32) => fX11_over_l19 h (nI t) v.1 v.2) 3000 (nI 0, nI 0) = some (nI (gOr (fun p => gOv t (S.2.2.2 p)) 18 0)) := by
  obtain ⟨hW, hC, hV, hS⟩ := id hx
  have n2 := hW.2.1
  obtain ⟨e, he, eg⟩ := wit_for (b := fun v : (Int32 × Int32) => fX11_over_l19 h (nI t) v.1 v.2) (fun p a => a ||| gOv t (S.2.2.2 p)) 18
    (fun i a v => v = (nI a, nI i)) (fun a e => e = nI a)
    (by
      rintro i a v hi rfl
      have s1 := r_pile hx hi
      have pl := pile_lt hW hV hi
      have pl1 := pl.1
      have e1 := r_over1 h (t := t) (p := i) (by omega) (S.2.2.2 i) a 0 3000 (by omega) pl
      rw [rOv_eq, ite_self, Nat.zero_or] at e1
      refine ⟨_, ?_, rfl⟩
      simp (disch := omega) only [↓reduceIte, wlet, Option.bind_some, true_and, and_true, not_true_eq_false, not_false_eq_true, reduceCtorEq, n0_, n1_, n2_, n3_, n4_, n5_, n6_, n7_, n8_, n9_, n10_, n12_, n16_, n18_, n20_, n21_, n22_, n24_, n25_, n26_, n27_, n28_, n29_, n30_, n31_, n32_, n40_, n41_, n42_, n43_, n45_, n48_, n54_, n57_, n58_, n59_, n60_, n61_, n63_, n96_, n97_, n99_, n100_, n122_, n126_, n200_, n255_, n375_, n400_, n1000_, n2000_, n9999_, n5764801_, n1000000_, n3000_, m1, m2, le_t, le_f, lt_t, lt_f, eq_t, eq_f, no_lt, no_le, le_no, lt_no, eq_no, no_eq, add_no, wib_t, clamp, nI_add, pk_mul, pk_sub, nor_, nand_, ndif_, shl_, sh1_, shr_, tbn, tb0, tb1, les_t, les_f, pk_div, rem_, remv, and31, wu1, wuc, wui, wu2, ws1, wsc, ws2, wv1, n11_, n13_, n14_, n15_, n17_, n19_, n23_, n56_, n64_, fX11_over_l19, s1, e1])
    (by
      rintro a v rfl
      refine ⟨_, ?_, rfl⟩
      simp (disch := omega) only [↓reduceIte, wlet, Option.bind_some, true_and, and_true, not_true_eq_false, not_false_eq_true, reduceCtorEq, n0_, n1_, n2_, n3_, n4_, n5_, n6_, n7_, n8_, n9_, n10_, n12_, n16_, n18_, n20_, n21_, n22_, n24_, n25_, n26_, n27_, n28_, n29_, n30_, n31_, n32_, n40_, n41_, n42_, n43_, n45_, n48_, n54_, n57_, n58_, n59_, n60_, n61_, n63_, n96_, n97_, n99_, n100_, n122_, n126_, n200_, n255_, n375_, n400_, n1000_, n2000_, n9999_, n5764801_, n1000000_, n3000_, m1, m2, le_t, le_f, lt_t, lt_f, eq_t, eq_f, no_lt, no_le, le_no, lt_no, eq_no, no_eq, add_no, wib_t, clamp, nI_add, pk_mul, pk_sub, nor_, nand_, ndif_, shl_, sh1_, shr_, tbn, tb0, tb1, les_t, les_f, pk_div, rem_, remv, and31, wu1, wuc, wui, wu2, ws1, wsc, ws2, wv1, n11_, n13_, n14_, n15_, n17_, n19_, n23_, n56_, n64_, fX11_over_l19])
    (N := 3000) (by omega) (a0 := 0) (v0 := (nI 0, nI 0)) rfl
  rw [he, eg]
  rfl
end G36

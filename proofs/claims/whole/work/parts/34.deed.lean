/-! DEEDS: what can be written and where, writing, scraping -/
theorem n11_ : (11 : Int32) = nI 11 := rfl
theorem n13_ : (13 : Int32) = nI 13 := rfl
theorem n14_ : (14 : Int32) = nI 14 := rfl
theorem n15_ : (15 : Int32) = nI 15 := rfl
theorem n17_ : (17 : Int32) = nI 17 := rfl
theorem n19_ : (19 : Int32) = nI 19 := rfl
theorem n23_ : (23 : Int32) = nI 23 := rfl
theorem n56_ : (56 : Int32) = nI 56 := rfl
theorem n64_ : (64 : Int32) = nI 64 := rfl
def gFr (L : gLib) (S : gSh) (i j : Nat) : Bool := decide (0 < S.2.1 i) && decide ((S.2.2.2 (6 * i + j)).length < 9) && !(gho L i).testBit j && !(S.2.2.1 i).testBit j
def gCan (L : gLib) (S : gSh) (t i j : Nat) : Bool := decide (j + gtl L t ≤ gln L i) && decide (∀ m, m < gtl L t → gFr L S i (j + m) = true)
def gPlace (L : gLib) (S : gSh) (t i : Nat) : Option Nat := gFn (fun j => gCan L S t i j) (gln L i) 0
def gPut1 (t i j : Nat) (S : gSh) : gSh := (S.1, S.2.1, (fun q => if q = i then S.2.2.1 i ||| 2 ^ j else S.2.2.1 q), fun q => if q = 6 * i + j then t :: S.2.2.2 q else S.2.2.2 q)
def gPut (L : gLib) (t i j : Nat) (S : gSh) : gSh := gF (fun m S => gPut1 t i (j + m) S) (gtl L t) S
def gWearSt (L : gLib) (S : gSh) (o i j : Nat) (a : Nat × Nat) : Nat × Nat := if o.testBit j then match S.2.2.2 (6 * i + j) with | [] => a | t :: _ => (a.1 ||| gga L t, a.2 ||| (if gkd L t = 3 then 1 else 0)) else a
def gWear (L : gLib) (S : gSh) (o i : Nat) : Nat := 1 + (gF (gWearSt L S o i) 6 (0, 0)).1 + (gF (gWearSt L S o i) 6 (0, 0)).2
def gRub (L : gLib) (i m : Nat) (S : gSh) : gSh :=
  if S.2.2.1 i &&& m = 0 then S
  else if S.2.1 i ≤ gWear L S (S.2.2.1 i &&& m) i then (S.1, (fun q => if q = i then 0 else S.2.1 q), (fun q => if q = i then 0 else S.2.2.1 q), fun q => if 6 * i ≤ q ∧ q < 6 * i + 6 then [] else S.2.2.2 q)
  else (S.1, (fun q => if q = i then S.2.1 i - gWear L S (S.2.2.1 i &&& m) i else S.2.1 q), (fun q => if q = i then bdf (S.2.2.1 i) m else S.2.2.1 q), S.2.2.2)
def gBegin (L : gLib) : gSh := (0, (fun i => if i < gns L then gtk L i else 0), (fun _ => 0), fun _ => [])
def sk (k c : Nat) : Prop := k ≤ c ∧ c ≤ k + 4
def s225 (c : Nat) : Prop := c = 225
theorem wit_e {V E : Type} {b : V → Option (V ⊕ E)} {v : V} {e : E} (h : b v = some (.inr e)) : wit b 3000 v = some e := by
  rw [show (3000 : Nat) = 2999 + 1 from rfl, wit, h]
theorem les_g {x a b : Nat} (h : a < x + b) (ha : a < 1073741824) (hb : b < 1073741824) (hx : x < 2147483648) : (nI x ≤ nI a - nI b) = False := eq_false (by
  rw [Int32.le_iff_toInt_le, nI_toInt (by omega), pk_sub_toInt (by omega) (by omega)]; omega)
theorem wuE {h : wSt} {c i d j : Nat} {x : Int32} : (wuI h c i x).1 d j = if d = c ∧ j = i then x else h.1 d j := by
  by_cases hd : d = c
  · subst hd
    by_cases hj : j = i
    · subst hj; rw [wu1, if_pos ⟨rfl, rfl⟩]
    · rw [wui hj, if_neg (fun q => hj q.2)]
  · rw [wuc hd, if_neg (fun q => hd q.1)]
theorem wuS {h : wSt} {c i j : Nat} {x : Int32} : (wuI h c i x).1 c j = if j = i then x else h.1 c j := by
  by_cases hj : j = i
  · subst hj; rw [wu1, if_pos rfl]
  · rw [wui hj, if_neg hj]
theorem bdf_0 {a b : Nat} : bdf a b = 0 ↔ ∀ i, a.testBit i = true → b.testBit i = true := by
  constructor
  · intro h i ha
    have h2 := bdf_bit a b i
    rw [h, Nat.zero_testBit, ha] at h2
    cases hb : b.testBit i
    · rw [hb] at h2; cases h2
    · rfl
  · intro h
    apply Nat.eq_of_testBit_eq
    intro i
    rw [bdf_bit, Nat.zero_testBit]
    cases ha : a.testBit i
    · rfl
    · rw [h i ha]; rfl
theorem bdf_lt {a b n : Nat} (h : a < 2 ^ n) : bdf a b < 2 ^ n := Nat.xor_lt_two_pow h (Nat.lt_of_le_of_lt Nat.and_le_left h)
theorem bdf_and (a m : Nat) : bdf a (a &&& m) = bdf a m := by
  unfold bdf
  rw [← Nat.and_assoc, Nat.and_self]
theorem wanted_bit (n j b : Nat) : ((2 ^ n - 1) * 2 ^ j).testBit b = (decide (j ≤ b) && decide (b < j + n)) := by
  rw [Nat.testBit_mul_two_pow, Nat.testBit_two_pow_sub_one]
  by_cases h : j ≤ b
  · rw [decide_eq_true h, Bool.true_and, Bool.true_and]
    exact decide_eq_decide.mpr (by omega)
  · rw [decide_eq_false h, Bool.false_and, Bool.false_and]
theorem e8_or {l : List Nat} (t : Nat) (h : ∀ u ∈ l, u < 8) : e8 l ||| t * 2 ^ (3 * l.length) = e8 (t :: l) := by
  have h1 := e8_lt h
  rw [show (8 : Nat) = 2 ^ 3 from rfl, ← Nat.pow_mul] at h1
  rw [e8, show (8 : Nat) = 2 ^ 3 from rfl, ← Nat.pow_mul, Nat.or_comm, Nat.mul_comm t, ← Nat.two_pow_add_eq_or_of_lt h1, Nat.add_comm]
theorem e7_low : ∀ {l : List Nat}, 7 ^ l.length ≤ 6 * e7 l + 1
  | [] => by simp [e7]
  | t :: l => by
    have h1 := e7_low (l := l)
    rw [e7, List.length_cons, Nat.pow_succ]
    omega
theorem e7_full {l : List Nat} (h : ∀ t ∈ l, t < 6) : e7 l < 5764801 ↔ l.length < 9 := by
  constructor
  · intro h1
    apply Nat.lt_of_not_le
    intro h2
    have h3 := e7_low (l := l)
    have h4 : 7 ^ 9 ≤ 7 ^ l.length := Nat.pow_le_pow_right (by decide) h2
    omega
  · intro h1
    have h3 := e7_lt (l := l) h
    have h4 : 7 ^ l.length ≤ 7 ^ 8 := Nat.pow_le_pow_right (by decide) (by omega)
    omega
theorem or_le1 {a b : Nat} (ha : a ≤ 1) (hb : b ≤ 1) : a ||| b ≤ 1 := by
  have := Nat.or_lt_two_pow (n := 1) (show a < 2 ^ 1 by omega) (show b < 2 ^ 1 by omega)
  omega
theorem fr_at {P : Nat → Prop} {h g : wSt} (f : fr P h g) {c : Nat} (hc : ¬ P c) : g.1 c = h.1 c := (f c hc).1
section G34
variable {h : wSt} {L : gLib} {k : Nat} {S : gSh}
theorem c_free (hx : CX h L k S) {i : Nat} (hi : i < gns L) : ∃ x, fX6_freeLinesOf h k (nI i) = some (nI x) ∧ x < 64 ∧ ∀ j, x.testBit j = (decide (j < gln L i) && gFr L S i j) := by
  obtain ⟨hW, hC, hV, hS, hk⟩ := id hx
  have n1 := hW.1
  obtain ⟨l1, l2, -, -, l5, -⟩ := hW.2.2.2.1 i hi
  obtain ⟨c1, -, c3, -⟩ := hC.2.2.2.1 i hi
  obtain ⟨s1, s2⟩ := hS.2.1 i (by omega)
  obtain ⟨v1, v2, -⟩ := hV.2.1 i (by omega)
  have key : ∃ y, wit (fun v : (Int32 × Int32) => fX6_freeLinesOf_l4 h k (nI i) v.1 v.2) 3000 (nI 0, nI 0) = some (nI y) ∧ ∀ j, y.testBit j = (decide (j < gln L i) && (decide (0 < S.2.1 i) && decide ((S.2.2.2 (6 * i + j)).length < 9))) := by
    by_cases h0 : S.2.1 i = 0
    · refine ⟨0, wit_e ?_, fun j => ?_⟩
      · simp (disch := omega) only [↓reduceIte, wlet, Option.bind_some, true_and, and_true, not_true_eq_false, not_false_eq_true, reduceCtorEq, n0_, n1_, n2_, n3_, n4_, n5_, n6_, n7_, n8_, n9_, n10_, n12_, n16_, n18_, n20_, n21_, n22_, n24_, n25_, n26_, n27_, n28_, n29_, n30_, n31_, n32_, n40_, n41_, n42_, n43_, n45_, n48_, n54_, n57_, n58_, n59_, n60_, n61_, n63_, n96_, n97_, n99_, n100_, n122_, n126_, n200_, n255_, n375_, n400_, n1000_, n2000_, n9999_, n5764801_, n1000000_, n3000_, m1, m2, le_t, le_f, lt_t, lt_f, eq_t, eq_f, no_lt, no_le, le_no, lt_no, eq_no, no_eq, add_no, wib_t, clamp, nI_add, pk_mul, pk_sub, nor_, nand_, ndif_, shl_, sh1_, shr_, tbn, tb0, tb1, les_t, les_f, pk_div, rem_, remv, and31, wu1, wuc, wui, wu2, ws1, wsc, ws2, wv1, n11_, n13_, n14_, n15_, n17_, n19_, n23_, n56_, n64_, fX6_freeLinesOf_l4, c1, s1]
      · rw [Nat.zero_testBit, decide_eq_false (show ¬ 0 < S.2.1 i by omega), Bool.false_and, Bool.and_false]
    · obtain ⟨e, he, eg⟩ := wit_for (b := fun v : (Int32 × Int32) => fX6_freeLinesOf_l4 h k (nI i) v.1 v.2) (fun j a => if decide ((S.2.2.2 (6 * i + j)).length < 9) then a ||| 2 ^ j else a) (gln L i)
        (fun j a v => v = (nI a, nI j)) (fun a e => e = nI a)
        (by
          rintro j a v hj rfl
          have s3 := (hS.2.2 (6 * i + j) (by omega)).1
          have s4 := (hV.2.2.1 (6 * i + j) (by omega)).1
          refine ⟨_, ?_, rfl⟩
          by_cases hq : (S.2.2.2 (6 * i + j)).length < 9
          · rw [decide_eq_true hq, if_pos rfl]
            simp (disch := omega) only [↓reduceIte, wlet, Option.bind_some, true_and, and_true, not_true_eq_false, not_false_eq_true, reduceCtorEq, n0_, n1_, n2_, n3_, n4_, n5_, n6_, n7_, n8_, n9_, n10_, n12_, n16_, n18_, n20_, n21_, n22_, n24_, n25_, n26_, n27_, n28_, n29_, n30_, n31_, n32_, n40_, n41_, n42_, n43_, n45_, n48_, n54_, n57_, n58_, n59_, n60_, n61_, n63_, n96_, n97_, n99_, n100_, n122_, n126_, n200_, n255_, n375_, n400_, n1000_, n2000_, n9999_, n5764801_, n1000000_, n3000_, m1, m2, le_t, le_f, lt_t, lt_f, eq_t, eq_f, no_lt, no_le, le_no, lt_no, eq_no, no_eq, add_no, wib_t, clamp, nI_add, pk_mul, pk_sub, nor_, nand_, ndif_, shl_, sh1_, shr_, tbn, tb0, tb1, les_t, les_f, pk_div, rem_, remv, and31, wu1, wuc, wui, wu2, ws1, wsc, ws2, wv1, n11_, n13_, n14_, n15_, n17_, n19_, n23_, n56_, n64_, fX6_freeLinesOf_l4, fX6_freeLinesOf_b48_4, c1, s1, s3]
          · rw [decide_eq_false hq, if_neg (by decide)]
            simp (disch := omega) only [↓reduceIte, wlet, Option.bind_some, true_and, and_true, not_true_eq_false, not_false_eq_true, reduceCtorEq, n0_, n1_, n2_, n3_, n4_, n5_, n6_, n7_, n8_, n9_, n10_, n12_, n16_, n18_, n20_, n21_, n22_, n24_, n25_, n26_, n27_, n28_, n29_, n30_, n31_, n32_, n40_, n41_, n42_, n43_, n45_, n48_, n54_, n57_, n58_, n59_, n60_, n61_, n63_, n96_, n97_, n99_, n100_, n122_, n126_, n200_, n255_, n375_, n400_, n1000_, n2000_, n9999_, n5764801_, n1000000_, n3000_, m1, m2, le_t, le_f, lt_t, lt_f, eq_t, eq_f, no_lt, no_le, le_no, lt_no, eq_no, no_eq, add_no, wib_t, clamp, nI_add, pk_mul, pk_sub, nor_, nand_, ndif_, shl_, sh1_, shr_, tbn, tb0, tb1, les_t, les_f, pk_div, rem_, remv, and31, wu1, wuc, wui, wu2, ws1, wsc, ws2, wv1, n11_, n13_, n14_, n15_, n17_, n19_, n23_, n56_, n64_, fX6_freeLinesOf_l4, fX6_freeLinesOf_b48_4, c1, s1, s3])
        (by
          rintro a v rfl
          refine ⟨_, ?_, rfl⟩
          simp (disch := omega) only [↓reduceIte, wlet, Option.bind_some, true_and, and_true, not_true_eq_false, not_false_eq_true, reduceCtorEq, n0_, n1_, n2_, n3_, n4_, n5_, n6_, n7_, n8_, n9_, n10_, n12_, n16_, n18_, n20_, n21_, n22_, n24_, n25_, n26_, n27_, n28_, n29_, n30_, n31_, n32_, n40_, n41_, n42_, n43_, n45_, n48_, n54_, n57_, n58_, n59_, n60_, n61_, n63_, n96_, n97_, n99_, n100_, n122_, n126_, n200_, n255_, n375_, n400_, n1000_, n2000_, n9999_, n5764801_, n1000000_, n3000_, m1, m2, le_t, le_f, lt_t, lt_f, eq_t, eq_f, no_lt, no_le, le_no, lt_no, eq_no, no_eq, add_no, wib_t, clamp, nI_add, pk_mul, pk_sub, nor_, nand_, ndif_, shl_, sh1_, shr_, tbn, tb0, tb1, les_t, les_f, pk_div, rem_, remv, and31, wu1, wuc, wui, wu2, ws1, wsc, ws2, wv1, n11_, n13_, n14_, n15_, n17_, n19_, n23_, n56_, n64_, fX6_freeLinesOf_l4, c1])
        (N := 3000) (by omega) (a0 := 0) (v0 := (nI 0, nI 0)) rfl
      refine ⟨_, by rw [he, eg], fun j => ?_⟩
      rw [setbit (p := fun j => decide ((S.2.2.2 (6 * i + j)).length < 9)), decide_eq_true (show 0 < S.2.1 i by omega), Bool.true_and]
  obtain ⟨y, he, hy⟩ := key
  have hb : ∀ j, (bdf (bdf y (gho L i)) (S.2.2.1 i)).testBit j = (decide (j < gln L i) && gFr L S i j) := by
    intro j
    rw [bdf_bit, bdf_bit, hy]
    unfold gFr
    simp only [Bool.and_assoc]
  refine ⟨bdf (bdf y (gho L i)) (S.2.2.1 i), ?_, ?_, hb⟩
  · simp (disch := omega) only [↓reduceIte, wlet, Option.bind_some, true_and, and_true, not_true_eq_false, not_false_eq_true, reduceCtorEq, n0_, n1_, n2_, n3_, n4_, n5_, n6_, n7_, n8_, n9_, n10_, n12_, n16_, n18_, n20_, n21_, n22_, n24_, n25_, n26_, n27_, n28_, n29_, n30_, n31_, n32_, n40_, n41_, n42_, n43_, n45_, n48_, n54_, n57_, n58_, n59_, n60_, n61_, n63_, n96_, n97_, n99_, n100_, n122_, n126_, n200_, n255_, n375_, n400_, n1000_, n2000_, n9999_, n5764801_, n1000000_, n3000_, m1, m2, le_t, le_f, lt_t, lt_f, eq_t, eq_f, no_lt, no_le, le_no, lt_no, eq_no, no_eq, add_no, wib_t, clamp, nI_add, pk_mul, pk_sub, nor_, nand_, ndif_, shl_, sh1_, shr_, tbn, tb0, tb1, les_t, les_f, pk_div, rem_, remv, and31, wu1, wuc, wui, wu2, ws1, wsc, ws2, wv1, n11_, n13_, n14_, n15_, n17_, n19_, n23_, n56_, n64_, fX6_freeLinesOf, he, c3, s2]
  · have := lt_pow_bits (x := bdf (bdf y (gho L i)) (S.2.2.1 i)) (m := 6) (fun b hb2 => by rw [hb, decide_eq_false (by omega), Bool.false_and])
    omega
theorem c_can (hx : CX h L k S) {t i j : Nat} (ht : t < gnt L) (hi : i < gns L) (hj : j < 2147483648) : fX6_canWrite h k (nI t) (nI i) (nI j) = some (gCan L S t i j) := by
  obtain ⟨hW, hC, hV, hS, hk⟩ := id hx
  have n1 := hW.1
  have n2 := hW.2.1
  obtain ⟨l1, l2, -⟩ := hW.2.2.2.1 i hi
  obtain ⟨-, -, t1, t2, -⟩ := hW.2.2.2.2.1 t ht
  have c1 := (hC.2.2.2.1 i hi).1
  have c2 := (hC.2.2.2.2.1 t ht).2.2.1
  obtain ⟨x, ex, bx, hx6⟩ := c_free hx hi
  unfold gCan
  by_cases hq : j + gtl L t ≤ gln L i
  · have p1 : 2 ^ gtl L t ≤ 64 := pow_le_64 t2
    have p2 : 1 ≤ 2 ^ gtl L t := Nat.one_le_two_pow
    have p3 : 2 ^ j ≤ 64 := pow_le_64 (by omega)
    have p4 : (2 ^ gtl L t - 1) * 2 ^ j ≤ 4096 := by
      have := Nat.mul_le_mul (show 2 ^ gtl L t - 1 ≤ 64 by omega) p3
      omega
    have p5 : bdf ((2 ^ gtl L t - 1) * 2 ^ j) x < 2 ^ 13 := bdf_lt (by omega)
    have hb : (bdf ((2 ^ gtl L t - 1) * 2 ^ j) x = 0) ↔ (∀ m, m < gtl L t → gFr L S i (j + m) = true) := by
      rw [bdf_0]
      constructor
      · intro q m hm
        have := q (j + m) (by rw [wanted_bit, decide_eq_true (show j ≤ j + m by omega), decide_eq_true (show j + m < j + gtl L t by omega)]; rfl)
        rw [hx6, decide_eq_true (show j + m < gln L i by omega), Bool.true_and] at this
        exact this
      · intro q b hb
        rw [wanted_bit] at hb
        simp only [Bool.and_eq_true, decide_eq_true_eq] at hb
        have := q (b - j) (by omega)
        rw [show j + (b - j) = b by omega] at this
        rw [hx6, this, decide_eq_true (show b < gln L i by omega)]; rfl
    by_cases hz : ∀ m, m < gtl L t → gFr L S i (j + m) = true
    · have hz2 := hb.mpr hz
      rw [decide_eq_true hq, decide_eq_true hz, Bool.and_self]
      simp (disch := omega) only [↓reduceIte, wlet, Option.bind_some, true_and, and_true, not_true_eq_false, not_false_eq_true, reduceCtorEq, n0_, n1_, n2_, n3_, n4_, n5_, n6_, n7_, n8_, n9_, n10_, n12_, n16_, n18_, n20_, n21_, n22_, n24_, n25_, n26_, n27_, n28_, n29_, n30_, n31_, n32_, n40_, n41_, n42_, n43_, n45_, n48_, n54_, n57_, n58_, n59_, n60_, n61_, n63_, n96_, n97_, n99_, n100_, n122_, n126_, n200_, n255_, n375_, n400_, n1000_, n2000_, n9999_, n5764801_, n1000000_, n3000_, m1, m2, le_t, le_f, lt_t, lt_f, eq_t, eq_f, no_lt, no_le, le_no, lt_no, eq_no, no_eq, add_no, wib_t, clamp, nI_add, pk_mul, pk_sub, nor_, nand_, ndif_, shl_, sh1_, shr_, tbn, tb0, tb1, les_t, les_f, pk_div, rem_, remv, and31, wu1, wuc, wui, wu2, ws1, wsc, ws2, wv1, n11_, n13_, n14_, n15_, n17_, n19_, n23_, n56_, n64_, fX6_canWrite, c1, c2, ex, hz2, Nat.one_mul]
    · have hz2 : bdf ((2 ^ gtl L t - 1) * 2 ^ j) x ≠ 0 := fun e => hz (hb.mp e)
      rw [decide_eq_false hz, Bool.and_false]
      simp (disch := omega) only [↓reduceIte, wlet, Option.bind_some, true_and, and_true, not_true_eq_false, not_false_eq_true, reduceCtorEq, n0_, n1_, n2_, n3_, n4_, n5_, n6_, n7_, n8_, n9_, n10_, n12_, n16_, n18_, n20_, n21_, n22_, n24_, n25_, n26_, n27_, n28_, n29_, n30_, n31_, n32_, n40_, n41_, n42_, n43_, n45_, n48_, n54_, n57_, n58_, n59_, n60_, n61_, n63_, n96_, n97_, n99_, n100_, n122_, n126_, n200_, n255_, n375_, n400_, n1000_, n2000_, n9999_, n5764801_, n1000000_, n3000_, m1, m2, le_t, le_f, lt_t, lt_f, eq_t, eq_f, no_lt, no_le, le_no, lt_no, eq_no, no_eq, add_no, wib_t, clamp, nI_add, pk_mul, pk_sub, nor_, nand_, ndif_, shl_, sh1_, shr_, tbn, tb0, tb1, les_t, les_f, pk_div, rem_, remv, and31, wu1, wuc, wui, wu2, ws1, wsc, ws2, wv1, n11_, n13_, n14_, n15_, n17_, n19_, n23_, n56_, n64_, fX6_canWrite, c1, c2, ex, Nat.one_mul]
  · rw [decide_eq_false hq, Bool.false_and]
    simp (disch := omega) only [↓reduceIte, wlet, Option.bind_some, true_and, and_true, not_true_eq_false, not_false_eq_true, reduceCtorEq, n0_, n1_, n2_, n3_, n4_, n5_, n6_, n7_, n8_, n9_, n10_, n12_, n16_, n18_, n20_, n21_, n22_, n24_, n25_, n26_, n27_, n28_, n29_, n30_, n31_, n32_, n40_, n41_, n42_, n43_, n45_, n48_, n54_, n57_, n58_, n59_, n60_, n61_, n63_, n96_, n97_, n99_, n100_, n122_, n126_, n200_, n255_, n375_, n400_, n1000_, n2000_, n9999_, n5764801_, n1000000_, n3000_, m1, m2, le_t, le_f, lt_t, lt_f, eq_t, eq_f, no_lt, no_le, le_no, lt_no, eq_no, no_eq, add_no, wib_t, clamp, nI_add, pk_mul, pk_sub, nor_, nand_, ndif_, shl_, sh1_, shr_, tbn, tb0, tb1, les_t, les_f, pk_div, rem_, remv, and31, wu1, wuc, wui, wu2, ws1, wsc, ws2, wv1, n11_, n13_, n14_, n15_, n17_, n19_, n23_, n56_, n64_, fX6_canWrite, c1, c2, les_g]
theorem c_place (hx : CX h L k S) {t i : Nat} (ht : t < gnt L) (hi : i < gns L) : fX6_firstPlace h k (nI t) (nI i) = some (rI (gPlace L S t i)) := by
  have n1 := hx.1.1
  obtain ⟨l1, l2, -⟩ := hx.1.2.2.2.1 i hi
  have c1 := (hx.2.1.2.2.2.1 i hi).1
  obtain ⟨e, he, eg⟩ := wit_find (b := fun v : (Int32) => fX6_firstPlace_l2 h k (nI t) (nI i) v) (fun j => gCan L S t i j) (gln L i) (fun j v => v = nI j) (fun o e => e = (match o with | none => Sum.inl () | some j => Sum.inr (nI j)))
    (by
      rintro j v hj rfl
      have e2 := c_can hx ht hi (j := j) (by omega)
      refine ⟨fun hq => ⟨.inr (nI j), ?_, rfl⟩, fun hq => ⟨nI (j + 1), ?_, rfl⟩⟩
      · have hq : gCan L S t i j = true := hq
        rw [hq] at e2
        simp (disch := omega) only [↓reduceIte, wlet, Option.bind_some, true_and, and_true, not_true_eq_false, not_false_eq_true, reduceCtorEq, n0_, n1_, n2_, n3_, n4_, n5_, n6_, n7_, n8_, n9_, n10_, n12_, n16_, n18_, n20_, n21_, n22_, n24_, n25_, n26_, n27_, n28_, n29_, n30_, n31_, n32_, n40_, n41_, n42_, n43_, n45_, n48_, n54_, n57_, n58_, n59_, n60_, n61_, n63_, n96_, n97_, n99_, n100_, n122_, n126_, n200_, n255_, n375_, n400_, n1000_, n2000_, n9999_, n5764801_, n1000000_, n3000_, m1, m2, le_t, le_f, lt_t, lt_f, eq_t, eq_f, no_lt, no_le, le_no, lt_no, eq_no, no_eq, add_no, wib_t, clamp, nI_add, pk_mul, pk_sub, nor_, nand_, ndif_, shl_, sh1_, shr_, tbn, tb0, tb1, les_t, les_f, pk_div, rem_, remv, and31, wu1, wuc, wui, wu2, ws1, wsc, ws2, wv1, n11_, n13_, n14_, n15_, n17_, n19_, n23_, n56_, n64_, fX6_firstPlace_l2, c1, e2]
      · have hq : gCan L S t i j = false := hq
        rw [hq] at e2
        simp (disch := omega) only [↓reduceIte, wlet, Option.bind_some, true_and, and_true, not_true_eq_false, not_false_eq_true, reduceCtorEq, n0_, n1_, n2_, n3_, n4_, n5_, n6_, n7_, n8_, n9_, n10_, n12_, n16_, n18_, n20_, n21_, n22_, n24_, n25_, n26_, n27_, n28_, n29_, n30_, n31_, n32_, n40_, n41_, n42_, n43_, n45_, n48_, n54_, n57_, n58_, n59_, n60_, n61_, n63_, n96_, n97_, n99_, n100_, n122_, n126_, n200_, n255_, n375_, n400_, n1000_, n2000_, n9999_, n5764801_, n1000000_, n3000_, m1, m2, le_t, le_f, lt_t, lt_f, eq_t, eq_f, no_lt, no_le, le_no, lt_no, eq_no, no_eq, add_no, wib_t, clamp, nI_add, pk_mul, pk_sub, nor_, nand_, ndif_, shl_, sh1_, shr_, tbn, tb0, tb1, les_t, les_f, pk_div, rem_, remv, and31, wu1, wuc, wui, wu2, ws1, wsc, ws2, wv1, n11_, n13_, n14_, n15_, n17_, n19_, n23_, n56_, n64_, fX6_firstPlace_l2, c1, e2, Bool.false_eq_true])
    (by
      rintro v rfl
      refine ⟨.inl (), ?_, rfl⟩
      simp (disch := omega) only [↓reduceIte, wlet, Option.bind_some, true_and, and_true, not_true_eq_false, not_false_eq_true, reduceCtorEq, n0_, n1_, n2_, n3_, n4_, n5_, n6_, n7_, n8_, n9_, n10_, n12_, n16_, n18_, n20_, n21_, n22_, n24_, n25_, n26_, n27_, n28_, n29_, n30_, n31_, n32_, n40_, n41_, n42_, n43_, n45_, n48_, n54_, n57_, n58_, n59_, n60_, n61_, n63_, n96_, n97_, n99_, n100_, n122_, n126_, n200_, n255_, n375_, n400_, n1000_, n2000_, n9999_, n5764801_, n1000000_, n3000_, m1, m2, le_t, le_f, lt_t, lt_f, eq_t, eq_f, no_lt, no_le, le_no, lt_no, eq_no, no_eq, add_no, wib_t, clamp, nI_add, pk_mul, pk_sub, nor_, nand_, ndif_, shl_, sh1_, shr_, tbn, tb0, tb1, les_t, les_f, pk_div, rem_, remv, and31, wu1, wuc, wui, wu2, ws1, wsc, ws2, wv1, n11_, n13_, n14_, n15_, n17_, n19_, n23_, n56_, n64_, fX6_firstPlace_l2, c1])
    (N := 3000) (by omega) (v0 := nI 0) rfl
  unfold fX6_firstPlace gPlace
  rw [n0_, he, eg]
  cases gFn (fun j => gCan L S t i j) (gln L i) 0 <;> rfl
theorem r_can (hx : MX h L S) {t i j : Nat} (ht : t < gnt L) (hi : i < gns L) (hj : j < 64) : fX11_canWrite h (nI t) (nI i) (nI j) = some (gCan L S t i j) := by
  obtain ⟨hW, hC, hV, hS⟩ := id hx
  have n1 := hW.1
  have n2 := hW.2.1
  obtain ⟨l1, l2, -, -, l5, -⟩ := hW.2.2.2.1 i hi
  obtain ⟨-, -, t1, t2, -⟩ := hW.2.2.2.2.1 t ht
  obtain ⟨c1, -, c3, -⟩ := hC.2.2.2.1 i hi
  have c2 := (hC.2.2.2.2.1 t ht).2.2.1
  obtain ⟨s1, s2⟩ := hS.2.1 i (by omega)
  rw [Nat.zero_add] at s1 s2
  obtain ⟨v1, v2, -⟩ := hV.2.1 i (by omega)
  have p6 := pow_le_64 l2
  unfold gCan
  by_cases h0 : S.2.1 i = 0
  · have hz : ¬ ∀ m, m < gtl L t → gFr L S i (j + m) = true := fun q => by
      have := q 0 (by omega)
      unfold gFr at this
      rw [decide_eq_false (show ¬ 0 < S.2.1 i by omega)] at this
      simp at this
    rw [decide_eq_false hz, Bool.and_false]
    simp (disch := omega) only [↓reduceIte, wlet, Option.bind_some, true_and, and_true, not_true_eq_false, not_false_eq_true, reduceCtorEq, n0_, n1_, n2_, n3_, n4_, n5_, n6_, n7_, n8_, n9_, n10_, n12_, n16_, n18_, n20_, n21_, n22_, n24_, n25_, n26_, n27_, n28_, n29_, n30_, n31_, n32_, n40_, n41_, n42_, n43_, n45_, n48_, n54_, n57_, n58_, n59_, n60_, n61_, n63_, n96_, n97_, n99_, n100_, n122_, n126_, n200_, n255_, n375_, n400_, n1000_, n2000_, n9999_, n5764801_, n1000000_, n3000_, m1, m2, le_t, le_f, lt_t, lt_f, eq_t, eq_f, no_lt, no_le, le_no, lt_no, eq_no, no_eq, add_no, wib_t, clamp, nI_add, pk_mul, pk_sub, nor_, nand_, ndif_, shl_, sh1_, shr_, tbn, tb0, tb1, les_t, les_f, pk_div, rem_, remv, and31, wu1, wuc, wui, wu2, ws1, wsc, ws2, wv1, n11_, n13_, n14_, n15_, n17_, n19_, n23_, n56_, n64_, fX11_canWrite, s1, h0]
  · by_cases hq : j + gtl L t ≤ gln L i
    · obtain ⟨e, he, eg⟩ := wit_find (b := fun v : (Int32) => fX11_canWrite_l33 h (nI t) (nI i) (nI j) v) (fun m => !gFr L S i (j + m)) (gtl L t) (fun m v => v = nI (j + m)) (fun o e => e = (match o with | none => Sum.inl () | some j => Sum.inr false))
        (by
          rintro m v hm rfl
          have s3 := hS.2.2 (6 * i + (j + m)) (by omega)
          rw [show 0 + 7 + (6 * i + (j + m)) = 7 + 6 * i + (j + m) by omega] at s3
          obtain ⟨s4, s5⟩ := hV.2.2.1 (6 * i + (j + m)) (by omega)
          have s6 : ∀ u ∈ S.2.2.2 (6 * i + (j + m)), u < 6 := fun u hu => by have := s5 u hu; omega
          have s7 := e7_full s6
          have s8 := e7_lt9 s4 s6
          have hF : gFr L S i (j + m) = (decide ((S.2.2.2 (6 * i + (j + m))).length < 9) && !(gho L i).testBit (j + m) && !(S.2.2.1 i).testBit (j + m)) := by
            unfold gFr
            rw [decide_eq_true (show 0 < S.2.1 i by omega), Bool.true_and]
          refine ⟨fun hq => ⟨.inr false, ?_, rfl⟩, fun hq => ⟨nI (j + (m + 1)), ?_, rfl⟩⟩
          · have hq : (!gFr L S i (j + m)) = true := hq
            rw [hF] at hq
            cases b1 : (gho L i).testBit (j + m) with
            | true => simp (disch := omega) only [↓reduceIte, wlet, Option.bind_some, true_and, and_true, not_true_eq_false, not_false_eq_true, reduceCtorEq, n0_, n1_, n2_, n3_, n4_, n5_, n6_, n7_, n8_, n9_, n10_, n12_, n16_, n18_, n20_, n21_, n22_, n24_, n25_, n26_, n27_, n28_, n29_, n30_, n31_, n32_, n40_, n41_, n42_, n43_, n45_, n48_, n54_, n57_, n58_, n59_, n60_, n61_, n63_, n96_, n97_, n99_, n100_, n122_, n126_, n200_, n255_, n375_, n400_, n1000_, n2000_, n9999_, n5764801_, n1000000_, n3000_, m1, m2, le_t, le_f, lt_t, lt_f, eq_t, eq_f, no_lt, no_le, le_no, lt_no, eq_no, no_eq, add_no, wib_t, clamp, nI_add, pk_mul, pk_sub, nor_, nand_, ndif_, shl_, sh1_, shr_, tbn, tb0, tb1, les_t, les_f, pk_div, rem_, remv, and31, wu1, wuc, wui, wu2, ws1, wsc, ws2, wv1, n11_, n13_, n14_, n15_, n17_, n19_, n23_, n56_, n64_, fX11_canWrite_l33, c2, c3, b1]
            | false =>
              cases b2 : (S.2.2.1 i).testBit (j + m) with
              | true => simp (disch := omega) only [↓reduceIte, wlet, Option.bind_some, true_and, and_true, not_true_eq_false, not_false_eq_true, reduceCtorEq, n0_, n1_, n2_, n3_, n4_, n5_, n6_, n7_, n8_, n9_, n10_, n12_, n16_, n18_, n20_, n21_, n22_, n24_, n25_, n26_, n27_, n28_, n29_, n30_, n31_, n32_, n40_, n41_, n42_, n43_, n45_, n48_, n54_, n57_, n58_, n59_, n60_, n61_, n63_, n96_, n97_, n99_, n100_, n122_, n126_, n200_, n255_, n375_, n400_, n1000_, n2000_, n9999_, n5764801_, n1000000_, n3000_, m1, m2, le_t, le_f, lt_t, lt_f, eq_t, eq_f, no_lt, no_le, le_no, lt_no, eq_no, no_eq, add_no, wib_t, clamp, nI_add, pk_mul, pk_sub, nor_, nand_, ndif_, shl_, sh1_, shr_, tbn, tb0, tb1, les_t, les_f, pk_div, rem_, remv, and31, wu1, wuc, wui, wu2, ws1, wsc, ws2, wv1, n11_, n13_, n14_, n15_, n17_, n19_, n23_, n56_, n64_, fX11_canWrite_l33, c2, c3, b1, s2, b2, Bool.false_eq_true]
              | false =>
                have b3 : ¬ (S.2.2.2 (6 * i + (j + m))).length < 9 := fun b3 => by
                  rw [b1, b2, decide_eq_true b3] at hq
                  cases hq
                have b4 : ¬ e7 (S.2.2.2 (6 * i + (j + m))) < 5764801 := fun q => b3 (s7.mp q)
                simp (disch := omega) only [↓reduceIte, wlet, Option.bind_some, true_and, and_true, not_true_eq_false, not_false_eq_true, reduceCtorEq, n0_, n1_, n2_, n3_, n4_, n5_, n6_, n7_, n8_, n9_, n10_, n12_, n16_, n18_, n20_, n21_, n22_, n24_, n25_, n26_, n27_, n28_, n29_, n30_, n31_, n32_, n40_, n41_, n42_, n43_, n45_, n48_, n54_, n57_, n58_, n59_, n60_, n61_, n63_, n96_, n97_, n99_, n100_, n122_, n126_, n200_, n255_, n375_, n400_, n1000_, n2000_, n9999_, n5764801_, n1000000_, n3000_, m1, m2, le_t, le_f, lt_t, lt_f, eq_t, eq_f, no_lt, no_le, le_no, lt_no, eq_no, no_eq, add_no, wib_t, clamp, nI_add, pk_mul, pk_sub, nor_, nand_, ndif_, shl_, sh1_, shr_, tbn, tb0, tb1, les_t, les_f, pk_div, rem_, remv, and31, wu1, wuc, wui, wu2, ws1, wsc, ws2, wv1, n11_, n13_, n14_, n15_, n17_, n19_, n23_, n56_, n64_, fX11_canWrite_l33, c2, c3, b1, s2, b2, s3, Bool.false_eq_true]
          · have hq : (!gFr L S i (j + m)) = false := hq
            rw [hF] at hq
            simp only [Bool.not_eq_false', Bool.and_eq_true, decide_eq_true_eq, Bool.not_eq_true'] at hq
            obtain ⟨⟨b3, b1⟩, b2⟩ := hq
            have b4 := s7.mpr b3
            simp (disch := omega) only [↓reduceIte, wlet, Option.bind_some, true_and, and_true, not_true_eq_false, not_false_eq_true, reduceCtorEq, n0_, n1_, n2_, n3_, n4_, n5_, n6_, n7_, n8_, n9_, n10_, n12_, n16_, n18_, n20_, n21_, n22_, n24_, n25_, n26_, n27_, n28_, n29_, n30_, n31_, n32_, n40_, n41_, n42_, n43_, n45_, n48_, n54_, n57_, n58_, n59_, n60_, n61_, n63_, n96_, n97_, n99_, n100_, n122_, n126_, n200_, n255_, n375_, n400_, n1000_, n2000_, n9999_, n5764801_, n1000000_, n3000_, m1, m2, le_t, le_f, lt_t, lt_f, eq_t, eq_f, no_lt, no_le, le_no, lt_no, eq_no, no_eq, add_no, wib_t, clamp, nI_add, pk_mul, pk_sub, nor_, nand_, ndif_, shl_, sh1_, shr_, tbn, tb0, tb1, les_t, les_f, pk_div, rem_, remv, and31, wu1, wuc, wui, wu2, ws1, wsc, ws2, wv1, n11_, n13_, n14_, n15_, n17_, n19_, n23_, n56_, n64_, fX11_canWrite_l33, c2, c3, b1, s2, b2, s3, Bool.false_eq_true]
            rfl)
        (by
          rintro v rfl
          refine ⟨.inl (), ?_, rfl⟩
          simp (disch := omega) only [↓reduceIte, wlet, Option.bind_some, true_and, and_true, not_true_eq_false, not_false_eq_true, reduceCtorEq, n0_, n1_, n2_, n3_, n4_, n5_, n6_, n7_, n8_, n9_, n10_, n12_, n16_, n18_, n20_, n21_, n22_, n24_, n25_, n26_, n27_, n28_, n29_, n30_, n31_, n32_, n40_, n41_, n42_, n43_, n45_, n48_, n54_, n57_, n58_, n59_, n60_, n61_, n63_, n96_, n97_, n99_, n100_, n122_, n126_, n200_, n255_, n375_, n400_, n1000_, n2000_, n9999_, n5764801_, n1000000_, n3000_, m1, m2, le_t, le_f, lt_t, lt_f, eq_t, eq_f, no_lt, no_le, le_no, lt_no, eq_no, no_eq, add_no, wib_t, clamp, nI_add, pk_mul, pk_sub, nor_, nand_, ndif_, shl_, sh1_, shr_, tbn, tb0, tb1, les_t, les_f, pk_div, rem_, remv, and31, wu1, wuc, wui, wu2, ws1, wsc, ws2, wv1, n11_, n13_, n14_, n15_, n17_, n19_, n23_, n56_, n64_, fX11_canWrite_l33, c2])
        (N := 3000) (by omega) (v0 := nI j) rfl
      rw [decide_eq_true hq, Bool.true_and]
      cases hf : gFn (fun m => !gFr L S i (j + m)) (gtl L t) 0 with
      | none =>
        rw [hf] at eg
        have hz : ∀ m, m < gtl L t → gFr L S i (j + m) = true := fun m hm => by
          have := gFn_none hf m (by omega) (by omega)
          simpa using this
        rw [decide_eq_true hz]
        simp (disch := omega) only [↓reduceIte, wlet, Option.bind_some, true_and, and_true, not_true_eq_false, not_false_eq_true, reduceCtorEq, n0_, n1_, n2_, n3_, n4_, n5_, n6_, n7_, n8_, n9_, n10_, n12_, n16_, n18_, n20_, n21_, n22_, n24_, n25_, n26_, n27_, n28_, n29_, n30_, n31_, n32_, n40_, n41_, n42_, n43_, n45_, n48_, n54_, n57_, n58_, n59_, n60_, n61_, n63_, n96_, n97_, n99_, n100_, n122_, n126_, n200_, n255_, n375_, n400_, n1000_, n2000_, n9999_, n5764801_, n1000000_, n3000_, m1, m2, le_t, le_f, lt_t, lt_f, eq_t, eq_f, no_lt, no_le, le_no, lt_no, eq_no, no_eq, add_no, wib_t, clamp, nI_add, pk_mul, pk_sub, nor_, nand_, ndif_, shl_, sh1_, shr_, tbn, tb0, tb1, les_t, les_f, pk_div, rem_, remv, and31, wu1, wuc, wui, wu2, ws1, wsc, ws2, wv1, n11_, n13_, n14_, n15_, n17_, n19_, n23_, n56_, n64_, fX11_canWrite, s1, c1, c2, he, eg]
      | some m =>
        rw [hf] at eg
        obtain ⟨-, q2, q3⟩ := gFn_some hf
        have hz : ¬ ∀ m, m < gtl L t → gFr L S i (j + m) = true := fun q => by
          rw [q m (by omega)] at q3
          cases q3
        rw [decide_eq_false hz]
        simp (disch := omega) only [↓reduceIte, wlet, Option.bind_some, true_and, and_true, not_true_eq_false, not_false_eq_true, reduceCtorEq, n0_, n1_, n2_, n3_, n4_, n5_, n6_, n7_, n8_, n9_, n10_, n12_, n16_, n18_, n20_, n21_, n22_, n24_, n25_, n26_, n27_, n28_, n29_, n30_, n31_, n32_, n40_, n41_, n42_, n43_, n45_, n48_, n54_, n57_, n58_, n59_, n60_, n61_, n63_, n96_, n97_, n99_, n100_, n122_, n126_, n200_, n255_, n375_, n400_, n1000_, n2000_, n9999_, n5764801_, n1000000_, n3000_, m1, m2, le_t, le_f, lt_t, lt_f, eq_t, eq_f, no_lt, no_le, le_no, lt_no, eq_no, no_eq, add_no, wib_t, clamp, nI_add, pk_mul, pk_sub, nor_, nand_, ndif_, shl_, sh1_, shr_, tbn, tb0, tb1, les_t, les_f, pk_div, rem_, remv, and31, wu1, wuc, wui, wu2, ws1, wsc, ws2, wv1, n11_, n13_, n14_, n15_, n17_, n19_, n23_, n56_, n64_, fX11_canWrite, s1, c1, c2, he, eg]
    · rw [decide_eq_false hq, Bool.false_and]
      simp (disch := omega) only [↓reduceIte, wlet, Option.bind_some, true_and, and_true, not_true_eq_false, not_false_eq_true, reduceCtorEq, n0_, n1_, n2_, n3_, n4_, n5_, n6_, n7_, n8_, n9_, n10_, n12_, n16_, n18_, n20_, n21_, n22_, n24_, n25_, n26_, n27_, n28_, n29_, n30_, n31_, n32_, n40_, n41_, n42_, n43_, n45_, n48_, n54_, n57_, n58_, n59_, n60_, n61_, n63_, n96_, n97_, n99_, n100_, n122_, n126_, n200_, n255_, n375_, n400_, n1000_, n2000_, n9999_, n5764801_, n1000000_, n3000_, m1, m2, le_t, le_f, lt_t, lt_f, eq_t, eq_f, no_lt, no_le, le_no, lt_no, eq_no, no_eq, add_no, wib_t, clamp, nI_add, pk_mul, pk_sub, nor_, nand_, ndif_, shl_, sh1_, shr_, tbn, tb0, tb1, les_t, les_f, pk_div, rem_, remv, and31, wu1, wuc, wui, wu2, ws1, wsc, ws2, wv1, n11_, n13_, n14_, n15_, n17_, n19_, n23_, n56_, n64_, fX11_canWrite, s1, c1, c2]
theorem r_place (hx : MX h L S) {t i : Nat} (ht : t < gnt L) (hi : i < gns L) : fX11_placeOf h (nI t) (nI i) = some (rI (gPlace L S t i)) := by
  have n1 := hx.1.1
  obtain ⟨l1, l2, -⟩ := hx.1.2.2.2.1 i hi
  have c1 := (hx.2.1.2.2.2.1 i hi).1
  obtain ⟨e, he, eg⟩ := wit_find (b := fun v : (Int32) => fX11_placeOf_l2 h (nI t) (nI i) v) (fun j => gCan L S t i j) (gln L i) (fun j v => v = nI j) (fun o e => e = (match o with | none => Sum.inl () | some j => Sum.inr (nI j)))
    (by
      rintro j v hj rfl
      have e2 := r_can hx ht hi (j := j) (by omega)
      refine ⟨fun hq => ⟨.inr (nI j), ?_, rfl⟩, fun hq => ⟨nI (j + 1), ?_, rfl⟩⟩
      · have hq : gCan L S t i j = true := hq
        rw [hq] at e2
        simp (disch := omega) only [↓reduceIte, wlet, Option.bind_some, true_and, and_true, not_true_eq_false, not_false_eq_true, reduceCtorEq, n0_, n1_, n2_, n3_, n4_, n5_, n6_, n7_, n8_, n9_, n10_, n12_, n16_, n18_, n20_, n21_, n22_, n24_, n25_, n26_, n27_, n28_, n29_, n30_, n31_, n32_, n40_, n41_, n42_, n43_, n45_, n48_, n54_, n57_, n58_, n59_, n60_, n61_, n63_, n96_, n97_, n99_, n100_, n122_, n126_, n200_, n255_, n375_, n400_, n1000_, n2000_, n9999_, n5764801_, n1000000_, n3000_, m1, m2, le_t, le_f, lt_t, lt_f, eq_t, eq_f, no_lt, no_le, le_no, lt_no, eq_no, no_eq, add_no, wib_t, clamp, nI_add, pk_mul, pk_sub, nor_, nand_, ndif_, shl_, sh1_, shr_, tbn, tb0, tb1, les_t, les_f, pk_div, rem_, remv, and31, wu1, wuc, wui, wu2, ws1, wsc, ws2, wv1, n11_, n13_, n14_, n15_, n17_, n19_, n23_, n56_, n64_, fX11_placeOf_l2, c1, e2]
      · have hq : gCan L S t i j = false := hq
        rw [hq] at e2
        simp (disch := omega) only [↓reduceIte, wlet, Option.bind_some, true_and, and_true, not_true_eq_false, not_false_eq_true, reduceCtorEq, n0_, n1_, n2_, n3_, n4_, n5_, n6_, n7_, n8_, n9_, n10_, n12_, n16_, n18_, n20_, n21_, n22_, n24_, n25_, n26_, n27_, n28_, n29_, n30_, n31_, n32_, n40_, n41_, n42_, n43_, n45_, n48_, n54_, n57_, n58_, n59_, n60_, n61_, n63_, n96_, n97_, n99_, n100_, n122_, n126_, n200_, n255_, n375_, n400_, n1000_, n2000_, n9999_, n5764801_, n1000000_, n3000_, m1, m2, le_t, le_f, lt_t, lt_f, eq_t, eq_f, no_lt, no_le, le_no, lt_no, eq_no, no_eq, add_no, wib_t, clamp, nI_add, pk_mul, pk_sub, nor_, nand_, ndif_, shl_, sh1_, shr_, tbn, tb0, tb1, les_t, les_f, pk_div, rem_, remv, and31, wu1, wuc, wui, wu2, ws1, wsc, ws2, wv1, n11_, n13_, n14_, n15_, n17_, n19_, n23_, n56_, n64_, fX11_placeOf_l2, c1, e2, Bool.false_eq_true])
    (by
      rintro v rfl
      refine ⟨.inl (), ?_, rfl⟩
      simp (disch := omega) only [↓reduceIte, wlet, Option.bind_some, true_and, and_true, not_true_eq_false, not_false_eq_true, reduceCtorEq, n0_, n1_, n2_, n3_, n4_, n5_, n6_, n7_, n8_, n9_, n10_, n12_, n16_, n18_, n20_, n21_, n22_, n24_, n25_, n26_, n27_, n28_, n29_, n30_, n31_, n32_, n40_, n41_, n42_, n43_, n45_, n48_, n54_, n57_, n58_, n59_, n60_, n61_, n63_, n96_, n97_, n99_, n100_, n122_, n126_, n200_, n255_, n375_, n400_, n1000_, n2000_, n9999_, n5764801_, n1000000_, n3000_, m1, m2, le_t, le_f, lt_t, lt_f, eq_t, eq_f, no_lt, no_le, le_no, lt_no, eq_no, no_eq, add_no, wib_t, clamp, nI_add, pk_mul, pk_sub, nor_, nand_, ndif_, shl_, sh1_, shr_, tbn, tb0, tb1, les_t, les_f, pk_div, rem_, remv, and31, wu1, wuc, wui, wu2, ws1, wsc, ws2, wv1, n11_, n13_, n14_, n15_, n17_, n19_, n23_, n56_, n64_, fX11_placeOf_l2, c1])
    (N := 3000) (by omega) (v0 := nI 0) rfl
  unfold fX11_placeOf gPlace
  rw [n0_, he, eg]
  cases gFn (fun j => gCan L S t i j) (gln L i) 0 <;> rfl
theorem gPlace_can {t i j : Nat} (h : gPlace L S t i = some j) : j < gln L i ∧ gCan L S t i j = true := by
  obtain ⟨-, h2, h3⟩ := gFn_some h
  exact ⟨by omega, h3⟩
theorem gCan_spec {t i j : Nat} (h : gCan L S t i j = true) : j + gtl L t ≤ gln L i ∧ ∀ m, m < gtl L t → gFr L S i (j + m) = true := by
  unfold gCan at h
  simp only [Bool.and_eq_true, decide_eq_true_eq] at h
  exact h
theorem gFr_len {i j : Nat} (h : gFr L S i j = true) : (S.2.2.2 (6 * i + j)).length < 9 := by
  unfold gFr at h
  simp only [Bool.and_eq_true, decide_eq_true_eq] at h
  exact h.1.1.2
/-- writing one line -/
theorem WS_put1 (hW : WL L) (hV : WS L S) {t i j : Nat} (ht : t < gnt L) (hi : i < gns L) (hj : j < gln L i) (hl : (S.2.2.2 (6 * i + j)).length < 9) : WS L (gPut1 t i j S) := by
  obtain ⟨v1, v2, v3, v4, v5⟩ := hV
  have n1 := hW.1
  obtain ⟨l1, l2, -⟩ := hW.2.2.2.1 i hi
  refine ⟨v1, ?_, ?_, ?_, ?_⟩
  · intro q hq
    obtain ⟨a1, a2, a3⟩ := v2 q hq
    refine ⟨a1, ?_, ?_⟩
    · show (if q = i then S.2.2.1 i ||| 2 ^ j else S.2.2.1 q) < 64
      split
      · have b1 := (v2 i (by omega)).2.1
        have b2 : 2 ^ j < 2 ^ 6 := Nat.pow_lt_pow_right (by decide) (by omega)
        exact Nat.or_lt_two_pow (n := 6) b1 b2
      · exact a2
    · intro b
      refine ⟨(a3 b).1, ?_⟩
      show (if q = i then S.2.2.1 i ||| 2 ^ j else S.2.2.1 q) = 0
      rw [if_neg (by omega)]
      exact (a3 b).2
  · intro p hp
    show (if p = 6 * i + j then t :: S.2.2.2 p else S.2.2.2 p).length ≤ 9 ∧ ∀ u ∈ (if p = 6 * i + j then t :: S.2.2.2 p else S.2.2.2 p), u < gnt L
    obtain ⟨a1, a2⟩ := v3 p hp
    split
    · rename_i e
      subst e
      refine ⟨by rw [List.length_cons]; omega, ?_⟩
      intro u hu
      rcases List.mem_cons.mp hu with e | e
      · omega
      · exact a2 u e
    · exact ⟨a1, a2⟩
  · intro a b ha hb hq
    show (if 6 * a + b = 6 * i + j then t :: S.2.2.2 (6 * a + b) else S.2.2.2 (6 * a + b)) ≠ []
    split
    · simp
    · rename_i hne
      apply v4 a b ha hb
      have hq : (if a = i then S.2.2.1 i ||| 2 ^ j else S.2.2.1 a).testBit b = true := hq
      split at hq
      · rename_i e
        subst e
        rw [Nat.testBit_or, Nat.testBit_two_pow_of_ne (by omega), Bool.or_false] at hq
        exact hq
      · exact hq
  · intro a b ha hb hq
    show (if 6 * a + b = 6 * i + j then t :: S.2.2.2 (6 * a + b) else S.2.2.2 (6 * a + b)) = []
    have : ¬ 6 * a + b = 6 * i + j := by
      intro e
      have e1 : a = i := by omega
      subst e1
      omega
    rw [if_neg this]
    exact v5 a b ha hb hq
theorem c_put1 (hx : CX h L k S) {t i j j0 : Nat} (ht : t < gnt L) (hi : i < gns L) (hj : j < gln L i) (hl : (S.2.2.2 (6 * i + j)).length < 9) (hj0 : j < j0 + gtl L t) (hj1 : j0 < 6) : ∃ g, fX6_put_l3 h k (nI t) (nI i) (nI j0) (nI j) = some (.inl (nI (j + 1), g)) ∧ CX g L k (gPut1 t i j S) ∧ fr (sk k) h g := by
  obtain ⟨hW, hC, hV, hS, hk⟩ := id hx
  have n1 := hW.1
  have n2 := hW.2.1
  obtain ⟨l1, l2, -⟩ := hW.2.2.2.1 i hi
  obtain ⟨-, -, t1, t2, -⟩ := hW.2.2.2.2.1 t ht
  have c2 := (hC.2.2.2.2.1 t ht).2.2.1
  obtain ⟨s1, s2⟩ := hS.2.2 (6 * i + j) (by omega)
  have s3 := (hS.2.1 i (by omega)).2
  obtain ⟨v1, v2⟩ := hV.2.2.1 (6 * i + j) (by omega)
  have p1 : t * 2 ^ (3 * (S.2.2.2 (6 * i + j)).length) < 4294967296 := by
    have q1 : 2 ^ (3 * (S.2.2.2 (6 * i + j)).length) ≤ 2 ^ 24 := Nat.pow_le_pow_right (by decide) (by omega)
    have := Nat.mul_le_mul (show t ≤ 6 by omega) q1
    omega
  have p2 := e8_or (l := S.2.2.2 (6 * i + j)) t (fun u hu => by have := v2 u hu; omega)
  have fg : fr (sk k) h (wuI (wuI (wuI h (k + 4) (6 * i + j) (nI (e8 (t :: S.2.2.2 (6 * i + j))))) (k + 3) (6 * i + j) (nI ((S.2.2.2 (6 * i + j)).length + 1))) (k + 2) i (nI (S.2.2.1 i ||| 2 ^ j))) := fr_tr (fr_tr (fr_wuI (by unfold sk; omega)) (fr_wuI (by unfold sk; omega))) (fr_wuI (by unfold sk; omega))
  refine ⟨_, ?_, ⟨hW, CL_fr hC fg (fun c _ _ => by unfold sk; omega), WS_put1 hW hV ht hi hj hl, ?_, hk⟩, fg⟩
  · simp (disch := omega) only [↓reduceIte, wlet, Option.bind_some, true_and, and_true, not_true_eq_false, not_false_eq_true, reduceCtorEq, n0_, n1_, n2_, n3_, n4_, n5_, n6_, n7_, n8_, n9_, n10_, n12_, n16_, n18_, n20_, n21_, n22_, n24_, n25_, n26_, n27_, n28_, n29_, n30_, n31_, n32_, n40_, n41_, n42_, n43_, n45_, n48_, n54_, n57_, n58_, n59_, n60_, n61_, n63_, n96_, n97_, n99_, n100_, n122_, n126_, n200_, n255_, n375_, n400_, n1000_, n2000_, n9999_, n5764801_, n1000000_, n3000_, m1, m2, le_t, le_f, lt_t, lt_f, eq_t, eq_f, no_lt, no_le, le_no, lt_no, eq_no, no_eq, add_no, wib_t, clamp, nI_add, pk_mul, pk_sub, nor_, nand_, ndif_, shl_, sh1_, shr_, tbn, tb0, tb1, les_t, les_f, pk_div, rem_, remv, and31, wu1, wuc, wui, wu2, ws1, wsc, ws2, wv1, n11_, n13_, n14_, n15_, n17_, n19_, n23_, n56_, n64_, fX6_put_l3, c2, s1, s2, s3, p2]
  · refine ⟨?_, ?_, ?_⟩
    · rw [wuc (show k ≠ k + 2 by omega), wuc (show k ≠ k + 3 by omega), wuc (show k ≠ k + 4 by omega)]
      exact hS.1
    · intro q hq
      obtain ⟨a1, a2⟩ := hS.2.1 q hq
      constructor
      · rw [wuc (show k + 1 ≠ k + 2 by omega), wuc (show k + 1 ≠ k + 3 by omega), wuc (show k + 1 ≠ k + 4 by omega)]
        exact a1
      · show _ = nI (if q = i then S.2.2.1 i ||| 2 ^ j else S.2.2.1 q)
        rw [wuS, wuc (show k + 2 ≠ k + 3 by omega), wuc (show k + 2 ≠ k + 4 by omega)]
        split
        · rfl
        · exact a2
    · intro p hp
      obtain ⟨a1, a2⟩ := hS.2.2 p hp
      show _ = nI (if p = 6 * i + j then t :: S.2.2.2 p else S.2.2.2 p).length ∧ _ = nI (e8 (if p = 6 * i + j then t :: S.2.2.2 p else S.2.2.2 p))
      rw [wuc (show k + 3 ≠ k + 2 by omega), wuS, wuc (show k + 3 ≠ k + 4 by omega), wuc (show k + 4 ≠ k + 2 by omega), wuc (show k + 4 ≠ k + 3 by omega), wuS]
      by_cases e : p = 6 * i + j
      · rw [if_pos e, if_pos e, if_pos e, e]
        exact ⟨rfl, rfl⟩
      · rw [if_neg e, if_neg e, if_neg e]
        exact ⟨a1, a2⟩
theorem r_put1 (hx : MX h L S) {t i j j0 : Nat} (ht : t < gnt L) (hi : i < gns L) (hj : j < gln L i) (hl : (S.2.2.2 (6 * i + j)).length < 9) (hj0 : j < j0 + gtl L t) (hj1 : j0 < 6) : ∃ g, fX11_writes_l3 h (nI t) (nI i) (nI j0) (nI j) = some (.inl (nI (j + 1), g)) ∧ MX g L (gPut1 t i j S) ∧ fr s225 h g := by
  obtain ⟨hW, hC, hV, hS⟩ := id hx
  have n1 := hW.1
  have n2 := hW.2.1
  obtain ⟨l1, l2, -⟩ := hW.2.2.2.1 i hi
  obtain ⟨-, -, t1, t2, -⟩ := hW.2.2.2.2.1 t ht
  have c2 := (hC.2.2.2.2.1 t ht).2.2.1
  have s1 := hS.2.2 (6 * i + j) (by omega)
  rw [show 0 + 7 + (6 * i + j) = 7 + 6 * i + j by omega] at s1
  have s3 := (hS.2.1 i (by omega)).2
  rw [Nat.zero_add] at s3
  obtain ⟨v1, v2⟩ := hV.2.2.1 (6 * i + j) (by omega)
  have p2 : e7 (S.2.2.2 (6 * i + j)) * 7 + t + 1 = e7 (t :: S.2.2.2 (6 * i + j)) := by rw [e7]; omega
  have fg : fr s225 h (wuI (wuI h 225 (7 + 6 * i + j) (nI (e7 (t :: S.2.2.2 (6 * i + j))))) 225 (4 + i) (nI (S.2.2.1 i ||| 2 ^ j))) := fr_tr (fr_wuI rfl) (fr_wuI rfl)
  refine ⟨_, ?_, ⟨hW, ML_fr hC fg (fun c _ _ => by unfold s225; omega), WS_put1 hW hV ht hi hj hl, ?_⟩, fg⟩
  · simp (disch := omega) only [↓reduceIte, wlet, Option.bind_some, true_and, and_true, not_true_eq_false, not_false_eq_true, reduceCtorEq, n0_, n1_, n2_, n3_, n4_, n5_, n6_, n7_, n8_, n9_, n10_, n12_, n16_, n18_, n20_, n21_, n22_, n24_, n25_, n26_, n27_, n28_, n29_, n30_, n31_, n32_, n40_, n41_, n42_, n43_, n45_, n48_, n54_, n57_, n58_, n59_, n60_, n61_, n63_, n96_, n97_, n99_, n100_, n122_, n126_, n200_, n255_, n375_, n400_, n1000_, n2000_, n9999_, n5764801_, n1000000_, n3000_, m1, m2, le_t, le_f, lt_t, lt_f, eq_t, eq_f, no_lt, no_le, le_no, lt_no, eq_no, no_eq, add_no, wib_t, clamp, nI_add, pk_mul, pk_sub, nor_, nand_, ndif_, shl_, sh1_, shr_, tbn, tb0, tb1, les_t, les_f, pk_div, rem_, remv, and31, wu1, wuc, wui, wu2, ws1, wsc, ws2, wv1, n11_, n13_, n14_, n15_, n17_, n19_, n23_, n56_, n64_, fX11_writes_l3, c2, s1, s3, p2]
  · refine ⟨?_, ?_, ?_⟩
    · rw [wuS, if_neg (by omega), wuS, if_neg (by omega)]
      exact hS.1
    · intro q hq
      obtain ⟨a1, a2⟩ := hS.2.1 q hq
      constructor
      · rw [wuS, if_neg (by omega), wuS, if_neg (by omega)]
        exact a1
      · show _ = nI (if q = i then S.2.2.1 i ||| 2 ^ j else S.2.2.1 q)
        rw [wuS]
        by_cases e : q = i
        · rw [if_pos (by omega), if_pos e]
        · rw [if_neg (by omega), if_neg e, wuS, if_neg (by omega)]
          exact a2
    · intro p hp
      have a1 := hS.2.2 p hp
      show _ = nI (e7 (if p = 6 * i + j then t :: S.2.2.2 p else S.2.2.2 p))
      rw [wuS, if_neg (by omega), wuS]
      by_cases e : p = 6 * i + j
      · rw [if_pos (by omega), if_pos e, e]
      · rw [if_neg (by omega), if_neg e]
        exact a1
theorem c_put (hx : CX h L k S) {t i j : Nat} (ht : t < gnt L) (hi : i < gns L) (hc : gCan L S t i j = true) : ∃ g, fX6_put h k (nI t) (nI i) (nI j) = some g ∧ CX g L k (gPut L t i j S) ∧ fr (sk k) h g := by
  obtain ⟨q1, q2⟩ := gCan_spec hc
  have n2 := hx.1.2.1
  obtain ⟨l1, l2, -⟩ := hx.1.2.2.2.1 i hi
  obtain ⟨-, -, t1, t2, -⟩ := hx.1.2.2.2.2.1 t ht
  obtain ⟨e, he, e1, e2⟩ := wit_for (b := fun v : (Int32 × wSt) => fX6_put_l3 v.2 k (nI t) (nI i) (nI j) v.1) (fun m S => gPut1 t i (j + m) S) (gtl L t)
    (fun m S2 v => ∃ g, v = (nI (j + m), g) ∧ CX g L k S2 ∧ fr (sk k) h g ∧ ∀ m2, m ≤ m2 → S2.2.2.2 (6 * i + (j + m2)) = S.2.2.2 (6 * i + (j + m2)))
    (fun S2 g => CX g L k S2 ∧ fr (sk k) h g)
    (by
      rintro m S2 v hm ⟨g, rfl, hx2, fg, hp⟩
      have hl := gFr_len (q2 m hm)
      rw [← hp m (by omega)] at hl
      obtain ⟨g2, e2, hx3, f2⟩ := c_put1 hx2 (j := j + m) (j0 := j) ht hi (by omega) hl (by omega) (by omega)
      refine ⟨_, e2, g2, rfl, hx3, fr_tr fg f2, fun m2 hm2 => ?_⟩
      show (if 6 * i + (j + m2) = 6 * i + (j + m) then _ else S2.2.2.2 (6 * i + (j + m2))) = _
      rw [if_neg (by omega)]
      exact hp m2 (by omega))
    (by
      rintro S2 v ⟨g, rfl, hx2, fg, -⟩
      have c2 := (hx2.2.1.2.2.2.2.1 t ht).2.2.1
      refine ⟨g, ?_, hx2, fg⟩
      simp (disch := omega) only [↓reduceIte, wlet, Option.bind_some, true_and, and_true, not_true_eq_false, not_false_eq_true, reduceCtorEq, n0_, n1_, n2_, n3_, n4_, n5_, n6_, n7_, n8_, n9_, n10_, n12_, n16_, n18_, n20_, n21_, n22_, n24_, n25_, n26_, n27_, n28_, n29_, n30_, n31_, n32_, n40_, n41_, n42_, n43_, n45_, n48_, n54_, n57_, n58_, n59_, n60_, n61_, n63_, n96_, n97_, n99_, n100_, n122_, n126_, n200_, n255_, n375_, n400_, n1000_, n2000_, n9999_, n5764801_, n1000000_, n3000_, m1, m2, le_t, le_f, lt_t, lt_f, eq_t, eq_f, no_lt, no_le, le_no, lt_no, eq_no, no_eq, add_no, wib_t, clamp, nI_add, pk_mul, pk_sub, nor_, nand_, ndif_, shl_, sh1_, shr_, tbn, tb0, tb1, les_t, les_f, pk_div, rem_, remv, and31, wu1, wuc, wui, wu2, ws1, wsc, ws2, wv1, n11_, n13_, n14_, n15_, n17_, n19_, n23_, n56_, n64_, fX6_put_l3, c2])
    (N := 3000) (by omega) (a0 := S) (v0 := (nI j, h)) ⟨h, rfl, hx, fr_rf, fun _ _ => rfl⟩
  refine ⟨e, ?_, e1, e2⟩
  unfold fX6_put
  rw [he]
  rfl
theorem r_put (hx : MX h L S) {t i j : Nat} (ht : t < gnt L) (hi : i < gns L) (hc : gCan L S t i j = true) : ∃ g, fX11_writes h (nI t) (nI i) (nI j) = some g ∧ MX g L (gPut L t i j S) ∧ fr s225 h g := by
  obtain ⟨q1, q2⟩ := gCan_spec hc
  have n2 := hx.1.2.1
  obtain ⟨l1, l2, -⟩ := hx.1.2.2.2.1 i hi
  obtain ⟨-, -, t1, t2, -⟩ := hx.1.2.2.2.2.1 t ht
  obtain ⟨e, he, e1, e2⟩ := wit_for (b := fun v : (Int32 × wSt) => fX11_writes_l3 v.2 (nI t) (nI i) (nI j) v.1) (fun m S => gPut1 t i (j + m) S) (gtl L t)
    (fun m S2 v => ∃ g, v = (nI (j + m), g) ∧ MX g L S2 ∧ fr s225 h g ∧ ∀ m2, m ≤ m2 → S2.2.2.2 (6 * i + (j + m2)) = S.2.2.2 (6 * i + (j + m2)))
    (fun S2 g => MX g L S2 ∧ fr s225 h g)
    (by
      rintro m S2 v hm ⟨g, rfl, hx2, fg, hp⟩
      have hl := gFr_len (q2 m hm)
      rw [← hp m (by omega)] at hl
      obtain ⟨g2, e2, hx3, f2⟩ := r_put1 hx2 (j := j + m) (j0 := j) ht hi (by omega) hl (by omega) (by omega)
      refine ⟨_, e2, g2, rfl, hx3, fr_tr fg f2, fun m2 hm2 => ?_⟩
      show (if 6 * i + (j + m2) = 6 * i + (j + m) then _ else S2.2.2.2 (6 * i + (j + m2))) = _
      rw [if_neg (by omega)]
      exact hp m2 (by omega))
    (by
      rintro S2 v ⟨g, rfl, hx2, fg, -⟩
      have c2 := (hx2.2.1.2.2.2.2.1 t ht).2.2.1
      refine ⟨g, ?_, hx2, fg⟩
      simp (disch := omega) only [↓reduceIte, wlet, Option.bind_some, true_and, and_true, not_true_eq_false, not_false_eq_true, reduceCtorEq, n0_, n1_, n2_, n3_, n4_, n5_, n6_, n7_, n8_, n9_, n10_, n12_, n16_, n18_, n20_, n21_, n22_, n24_, n25_, n26_, n27_, n28_, n29_, n30_, n31_, n32_, n40_, n41_, n42_, n43_, n45_, n48_, n54_, n57_, n58_, n59_, n60_, n61_, n63_, n96_, n97_, n99_, n100_, n122_, n126_, n200_, n255_, n375_, n400_, n1000_, n2000_, n9999_, n5764801_, n1000000_, n3000_, m1, m2, le_t, le_f, lt_t, lt_f, eq_t, eq_f, no_lt, no_le, le_no, lt_no, eq_no, no_eq, add_no, wib_t, clamp, nI_add, pk_mul, pk_sub, nor_, nand_, ndif_, shl_, sh1_, shr_, tbn, tb0, tb1, les_t, les_f, pk_div, rem_, remv, and31, wu1, wuc, wui, wu2, ws1, wsc, ws2, wv1, n11_, n13_, n14_, n15_, n17_, n19_, n23_, n56_, n64_, fX11_writes_l3, c2])
    (N := 3000) (by omega) (a0 := S) (v0 := (nI j, h)) ⟨h, rfl, hx, fr_rf, fun _ _ => rfl⟩
  refine ⟨e, ?_, e1, e2⟩
  unfold fX11_writes
  rw [he]
  rfl
end G34

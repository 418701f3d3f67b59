/-! LAYING: the other side, and the call -/
def bt : Option Nat → Nat → Prop
  | none, _ => True
  | some m, n => m < n
def gPutN (t i a n : Nat) (S : gSh) : gSh := gF (fun m S => gPut1 t i (a + m) S) n S
theorem gPutN_0 (t i a n : Nat) (S : gSh) : (gPutN t i a n S).1 = S.1 ∧ (gPutN t i a n S).2.1 = S.2.1 := by
  unfold gPutN
  induction n with
  | zero => exact ⟨rfl, rfl⟩
  | succ n ih => rw [gF]; exact ih
theorem gPutN_o (t i a : Nat) (S : gSh) (q b : Nat) : ∀ n, ((gPutN t i a n S).2.2.1 q).testBit b = ((S.2.2.1 q).testBit b || (decide (q = i) && (decide (a ≤ b) && decide (b < a + n))))
  | 0 => by
    have : decide (b < a + 0) = decide (b < a) := rfl
    have e : (decide (a ≤ b) && decide (b < a + 0)) = false := by
      by_cases h : a ≤ b
      · rw [decide_eq_false (show ¬ b < a + 0 by omega), Bool.and_false]
      · rw [decide_eq_false h, Bool.false_and]
    rw [e, Bool.and_false, Bool.or_false]
    rfl
  | n + 1 => by
    have ih := gPutN_o t i a S q b n
    show ((if q = i then (gPutN t i a n S).2.2.1 i ||| 2 ^ (a + n) else (gPutN t i a n S).2.2.1 q)).testBit b = _
    by_cases e : q = i
    · subst e
      rw [if_pos rfl, Nat.testBit_or, ih, Nat.testBit_two_pow, decide_eq_true (show q = q from rfl), Bool.true_and, Bool.true_and, Bool.or_assoc]
      congr 1
      by_cases h1 : a + n = b
      · rw [decide_eq_true h1, Bool.or_true, decide_eq_true (show a ≤ b by omega), decide_eq_true (show b < a + (n + 1) by omega)]
        rfl
      · rw [decide_eq_false h1, Bool.or_false]
        have : decide (b < a + n) = decide (b < a + (n + 1)) := decide_eq_decide.mpr (by omega)
        rw [this]
    · rw [if_neg e, ih, decide_eq_false e, Bool.false_and, Bool.false_and]
theorem gPutN_p (t i a : Nat) (S : gSh) (q : Nat) : ∀ n, (gPutN t i a n S).2.2.2 q = if 6 * i + a ≤ q ∧ q < 6 * i + a + n then t :: S.2.2.2 q else S.2.2.2 q
  | 0 => by rw [if_neg (by omega)]; rfl
  | n + 1 => by
    have ih := gPutN_p t i a S q n
    show (if q = 6 * i + (a + n) then t :: (gPutN t i a n S).2.2.2 q else (gPutN t i a n S).2.2.2 q) = _
    by_cases e : q = 6 * i + (a + n)
    · rw [if_pos e, ih, if_neg (by omega), if_pos (by omega)]
    · rw [if_neg e, ih]
      by_cases e2 : 6 * i + a ≤ q ∧ q < 6 * i + a + n
      · rw [if_pos e2, if_pos (by omega)]
      · rw [if_neg e2, if_neg (by omega)]
/-- the free lines as bits -/
def FM (L : gLib) (S : gSh) (F : Nat) : Prop := ∀ p, F.testBit p = (decide (p < 6 * gns L) && (decide (p % 6 < gln L (p / 6)) && gFr L S (p / 6) (p % 6)))
section G54
variable {h : wSt} {k : Nat} {L : gLib} {S : gSh}
theorem FM_lt (hW : WL L) {F : Nat} (hF : FM L S F) : F < 262144 := by
  have n1 := hW.1
  have := lt_pow_bits (x := F) (m := 18) (fun b hb => by rw [hF, decide_eq_false (by omega), Bool.false_and])
  omega
theorem FM_can (hW : WL L) {F t i j : Nat} (hF : FM L S F) (ht : t < gnt L) (hi : i < gns L) (hj : j < 6) : gCan L S t i j = fit F (6 * i + j) (gtl L t) := by
  have n1 := hW.1
  obtain ⟨-, -, t1, t2, -⟩ := hW.2.2.2.2.1 t ht
  have l2 := (hW.2.2.2.1 i hi).2.1
  have key : gCan L S t i j = true ↔ fit F (6 * i + j) (gtl L t) = true := by
    rw [fit_spec, bdf_0]
    constructor
    · intro hc
      obtain ⟨q1, q2⟩ := gCan_spec hc
      refine ⟨by omega, fun b hb => ?_⟩
      rw [blk_bit] at hb
      simp only [Bool.and_eq_true, decide_eq_true_eq] at hb
      have q3 := q2 (b - (6 * i + j)) (by omega)
      rw [hF, show b / 6 = i by omega, show b % 6 = j + (b - (6 * i + j)) by omega, q3, decide_eq_true (show b < 6 * gns L by omega), decide_eq_true (by omega)]
      rfl
    · rintro ⟨q1, q2⟩
      have bit : ∀ m, m < gtl L t → j + m < gln L i ∧ gFr L S i (j + m) = true := by
        intro m hm
        have := q2 (6 * i + j + m) (by rw [blk_bit]; simp only [Bool.and_eq_true, decide_eq_true_eq]; omega)
        rw [hF, show (6 * i + j + m) / 6 = i by omega, show (6 * i + j + m) % 6 = j + m by omega] at this
        simp only [Bool.and_eq_true, decide_eq_true_eq] at this
        exact this.2
      unfold gCan
      rw [decide_eq_true (show j + gtl L t ≤ gln L i by have := (bit (gtl L t - 1) (by omega)).1; omega), decide_eq_true (fun m hm => (bit m hm).2)]
      rfl
  cases h1 : gCan L S t i j <;> cases h2 : fit F (6 * i + j) (gtl L t)
  · rfl
  · rw [key.mpr h2] at h1; cases h1
  · rw [key.mp h1] at h2; cases h2
  · rfl
theorem FM_no (hW : WL L) {F p l : Nat} (hF : FM L S F) (hl : 1 ≤ l) (hp : 6 * gns L ≤ p ∨ gln L (p / 6) ≤ p % 6) : fit F p l = false := by
  cases h1 : fit F p l with
  | false => rfl
  | true =>
    obtain ⟨q1, q2⟩ := fit_spec.mp h1
    have := bdf_0.mp q2 p (by rw [blk_bit]; simp only [Bool.and_eq_true, decide_eq_true_eq]; omega)
    rw [hF] at this
    simp only [Bool.and_eq_true, decide_eq_true_eq] at this
    omega
theorem FM_put (hW : WL L) {F t i j : Nat} (hF : FM L S F) (ht : t < gnt L) (hi : i < gns L) (hc : gCan L S t i j = true) : FM L (gPut L t i j S) (bdf F (blk (6 * i + j) (gtl L t))) := by
  obtain ⟨q1, q2⟩ := gCan_spec hc
  have l2 := (hW.2.2.2.1 i hi).2.1
  intro p
  rw [bdf_bit, blk_bit, hF]
  have e0 : (gPut L t i j S).2.1 = S.2.1 := (gPutN_0 t i j (gtl L t) S).2
  have eo := gPutN_o t i j S (p / 6) (p % 6) (gtl L t)
  have ep := gPutN_p t i j S (6 * (p / 6) + p % 6) (gtl L t)
  have eo : ((gPut L t i j S).2.2.1 (p / 6)).testBit (p % 6) = _ := eo
  have ep : (gPut L t i j S).2.2.2 (6 * (p / 6) + p % 6) = _ := ep
  unfold gFr
  rw [e0, eo, ep]
  by_cases hb : 6 * i + j ≤ p ∧ p < 6 * i + j + gtl L t
  · have h1 : p / 6 = i := by omega
    rw [decide_eq_true hb.1, decide_eq_true hb.2, h1, decide_eq_true (show i = i from rfl), decide_eq_true (show j ≤ p % 6 by omega), decide_eq_true (show p % 6 < j + gtl L t by omega)]
    simp
  · have h2 : (decide (6 * i + j ≤ p) && decide (p < 6 * i + j + gtl L t)) = false := by
      by_cases q : 6 * i + j ≤ p
      · rw [decide_eq_false (show ¬ p < 6 * i + j + gtl L t by omega), Bool.and_false]
      · rw [decide_eq_false q, Bool.false_and]
    have h3 : (decide (p / 6 = i) && (decide (j ≤ p % 6) && decide (p % 6 < j + gtl L t))) = false := by
      by_cases q : p / 6 = i
      · by_cases q3 : j ≤ p % 6
        · rw [decide_eq_false (show ¬ p % 6 < j + gtl L t by omega), Bool.and_false, Bool.and_false]
        · rw [decide_eq_false q3, Bool.false_and, Bool.and_false]
      · rw [decide_eq_false q, Bool.false_and]
    rw [h2, h3, if_neg (by omega), Bool.not_false, Bool.and_true, Bool.or_false]
theorem bdf_pow {a b n : Nat} (hn : n < 32) : nI a &&& (nI (2 ^ n) ^^^ wno) = nI (bdf a (2 ^ n)) := ndif_ _ _
theorem r_unwrites {t i j : Nat} (hx : MX h L (gPut L t i j S)) (hV : WS L S) (ht : t < gnt L) (hi : i < gns L) (hc : gCan L S t i j = true) : ∃ g, fX11_unwrites h (nI t) (nI i) (nI j) = some g ∧ MX g L S ∧ fr s225 h g := by
  obtain ⟨q1, q2⟩ := gCan_spec hc
  obtain ⟨hW, hC, hV2, hS⟩ := hx
  have n1 := hW.1
  have n2 := hW.2.1
  have l2 := (hW.2.2.2.1 i hi).2.1
  obtain ⟨-, -, t1, t2, -⟩ := hW.2.2.2.2.1 t ht
  obtain ⟨e, he, e1, e2⟩ := wit_for (b := fun v : (Int32 × wSt) => fX11_unwrites_l3 v.2 (nI t) (nI i) (nI j) v.1) (fun _ (u : Unit) => u) (gtl L t)
    (fun m _ v => ∃ g, v = (nI (j + m), g) ∧ MS g 225 0 (gPutN t i (j + m) (gtl L t - m) S) ∧ fr s225 h g)
    (fun _ g => MS g 225 0 S ∧ fr s225 h g)
    (by
      rintro m _ v hm ⟨g, rfl, sg, fg⟩
      have hC2 := ML_fr hC fg (fun c _ _ => by unfold s225; omega)
      have c2 := (hC2.2.2.2.2.1 t ht).2.2.1
      have hfr := q2 m hm
      have hlen := gFr_len hfr
      have hop : (S.2.2.1 i).testBit (j + m) = false := by
        unfold gFr at hfr
        simp only [Bool.and_eq_true, Bool.not_eq_true'] at hfr
        exact hfr.2
      have pq := gPutN_p t i (j + m) S
      have s1 := sg.2.2 (6 * i + (j + m)) (by omega)
      rw [show 0 + 7 + (6 * i + (j + m)) = 7 + 6 * i + (j + m) by omega, pq, if_pos (by omega)] at s1
      have s3 := (sg.2.1 i (by omega)).2
      rw [Nat.zero_add] at s3
      have hpl := (hV.2.2.1 (6 * i + (j + m)) (by omega)).2
      have d7 : e7 (t :: S.2.2.2 (6 * i + (j + m))) / 7 = e7 (S.2.2.2 (6 * i + (j + m))) := (e7_step (show t < 6 by omega)).2.1
      have d8 : e7 (t :: S.2.2.2 (6 * i + (j + m))) < 40353607 := e7_lt9 (by rw [List.length_cons]; omega) (fun x hx => by
        rcases List.mem_cons.mp hx with q | q
        · omega
        · have := hpl x q; omega)
      have hopen : bdf ((gPutN t i (j + m) (gtl L t - m) S).2.2.1 i) (2 ^ (j + m)) = (gPutN t i (j + (m + 1)) (gtl L t - (m + 1)) S).2.2.1 i := by
        apply Nat.eq_of_testBit_eq
        intro b
        rw [bdf_bit, gPutN_o, gPutN_o, Nat.testBit_two_pow, decide_eq_true (show i = i from rfl), Bool.true_and, Bool.true_and]
        by_cases e : j + m = b
        · rw [← e, hop, decide_eq_true (show j + m = j + m from rfl), decide_eq_false (show ¬ j + (m + 1) ≤ j + m by omega)]
          simp
        · rw [decide_eq_false e, Bool.not_false, Bool.and_true]
          congr 1
          by_cases e2 : j + m ≤ b
          · rw [decide_eq_true e2, decide_eq_true (show j + (m + 1) ≤ b by omega), Bool.true_and, Bool.true_and]
            exact decide_eq_decide.mpr (by omega)
          · rw [decide_eq_false e2, decide_eq_false (show ¬ j + (m + 1) ≤ b by omega), Bool.false_and, Bool.false_and]
      refine ⟨(nI (j + (m + 1)), wuI (wuI g 225 (7 + 6 * i + (j + m)) (nI (e7 (S.2.2.2 (6 * i + (j + m)))))) 225 (4 + i) (nI ((gPutN t i (j + (m + 1)) (gtl L t - (m + 1)) S).2.2.1 i))), ?_, _, rfl, ⟨?_, fun q hq => ?_, fun p hp => ?_⟩, fr_tr fg (fr_tr (fr_wuI rfl) (fr_wuI rfl))⟩
      · simp (disch := omega) only [↓reduceIte, wlet, Option.bind_some, true_and, and_true, not_true_eq_false, not_false_eq_true, reduceCtorEq, n0_, n1_, n2_, n3_, n4_, n5_, n6_, n7_, n8_, n9_, n10_, n12_, n16_, n18_, n20_, n21_, n22_, n24_, n25_, n26_, n27_, n28_, n29_, n30_, n31_, n32_, n40_, n41_, n42_, n43_, n45_, n48_, n54_, n57_, n58_, n59_, n60_, n61_, n63_, n96_, n97_, n99_, n100_, n122_, n126_, n200_, n255_, n375_, n400_, n1000_, n2000_, n9999_, n5764801_, n1000000_, n3000_, m1, m2, le_t, le_f, lt_t, lt_f, eq_t, eq_f, no_lt, no_le, le_no, lt_no, eq_no, no_eq, add_no, wib_t, clamp, nI_add, pk_mul, pk_sub, nor_, nand_, ndif_, shl_, sh1_, shr_, tbn, tb0, tb1, les_t, les_f, pk_div, rem_, remv, and31, wu1, wuc, wui, wu2, ws1, wsc, ws2, wv1, n11_, n13_, n14_, n15_, n17_, n19_, n23_, n56_, n64_, fX11_unwrites_l3, c2, s1, s3, d7, Nat.one_mul, hopen]
        rfl
      · rw [wuS, if_neg (by omega), wuS, if_neg (by omega), (gPutN_0 _ _ _ _ _).1]
        have := sg.1
        rw [(gPutN_0 _ _ _ _ _).1] at this
        exact this
      · obtain ⟨a1, a2⟩ := sg.2.1 q hq
        constructor
        · rw [wuS, if_neg (by omega), wuS, if_neg (by omega), (gPutN_0 _ _ _ _ _).2]
          rw [(gPutN_0 _ _ _ _ _).2] at a1
          exact a1
        · by_cases e : q = i
          · rw [wuS, if_pos (by omega), e]
          · rw [wuS, if_neg (by omega), wuS, if_neg (by omega), a2]
            congr 1
            apply Nat.eq_of_testBit_eq
            intro b
            rw [gPutN_o, gPutN_o, decide_eq_false e, Bool.false_and, Bool.false_and]
      · have a1 := sg.2.2 p hp
        rw [wuS, if_neg (by omega), wuS, gPutN_p]
        rw [gPutN_p] at a1
        by_cases e : p = 6 * i + (j + m)
        · rw [if_pos (by omega), if_neg (by omega), e]
        · rw [if_neg (by omega), a1]
          by_cases e2 : 6 * i + (j + m) ≤ p ∧ p < 6 * i + (j + m) + (gtl L t - m)
          · rw [if_pos e2, if_pos (by omega)]
          · rw [if_neg e2, if_neg (by omega)])
    (by
      rintro _ v ⟨g, rfl, sg, fg⟩
      have c2 := ((ML_fr hC fg (fun c _ _ => by unfold s225; omega)).2.2.2.2.1 t ht).2.2.1
      rw [Nat.sub_self] at sg
      refine ⟨g, ?_, sg, fg⟩
      simp (disch := omega) only [↓reduceIte, wlet, Option.bind_some, true_and, and_true, not_true_eq_false, not_false_eq_true, reduceCtorEq, n0_, n1_, n2_, n3_, n4_, n5_, n6_, n7_, n8_, n9_, n10_, n12_, n16_, n18_, n20_, n21_, n22_, n24_, n25_, n26_, n27_, n28_, n29_, n30_, n31_, n32_, n40_, n41_, n42_, n43_, n45_, n48_, n54_, n57_, n58_, n59_, n60_, n61_, n63_, n96_, n97_, n99_, n100_, n122_, n126_, n200_, n255_, n375_, n400_, n1000_, n2000_, n9999_, n5764801_, n1000000_, n3000_, m1, m2, le_t, le_f, lt_t, lt_f, eq_t, eq_f, no_lt, no_le, le_no, lt_no, eq_no, no_eq, add_no, wib_t, clamp, nI_add, pk_mul, pk_sub, nor_, nand_, ndif_, shl_, sh1_, shr_, tbn, tb0, tb1, les_t, les_f, pk_div, rem_, remv, and31, wu1, wuc, wui, wu2, ws1, wsc, ws2, wv1, n11_, n13_, n14_, n15_, n17_, n19_, n23_, n56_, n64_, fX11_unwrites_l3, c2])
    (N := 3000) (by omega) (a0 := ()) (v0 := (nI j, h)) ⟨h, rfl, hS, fr_rf⟩
  refine ⟨e, ?_, ⟨hW, ML_fr hC e2 (fun c _ _ => by unfold s225; omega), hV, e1⟩, e2⟩
  simp (disch := omega) only [↓reduceIte, wlet, Option.bind_some, true_and, and_true, not_true_eq_false, not_false_eq_true, reduceCtorEq, n0_, n1_, n2_, n3_, n4_, n5_, n6_, n7_, n8_, n9_, n10_, n12_, n16_, n18_, n20_, n21_, n22_, n24_, n25_, n26_, n27_, n28_, n29_, n30_, n31_, n32_, n40_, n41_, n42_, n43_, n45_, n48_, n54_, n57_, n58_, n59_, n60_, n61_, n63_, n96_, n97_, n99_, n100_, n122_, n126_, n200_, n255_, n375_, n400_, n1000_, n2000_, n9999_, n5764801_, n1000000_, n3000_, m1, m2, le_t, le_f, lt_t, lt_f, eq_t, eq_f, no_lt, no_le, le_no, lt_no, eq_no, no_eq, add_no, wib_t, clamp, nI_add, pk_mul, pk_sub, nor_, nand_, ndif_, shl_, sh1_, shr_, tbn, tb0, tb1, les_t, les_f, pk_div, rem_, remv, and31, wu1, wuc, wui, wu2, ws1, wsc, ws2, wv1, n11_, n13_, n14_, n15_, n17_, n19_, n23_, n56_, n64_, fX11_unwrites, he]
end G54

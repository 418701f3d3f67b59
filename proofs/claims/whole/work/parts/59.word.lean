/-! WORDS AND SIGNS -/
def kWd (i : Nat) : List Nat := ([[], [19, 11, 9, 14], [12, 9, 14, 5, 19], [20, 8, 9, 3, 11], [8, 15, 12, 5], [20, 5, 24, 20], [4, 1, 13, 16], [19, 8, 15, 23, 19], [23, 18, 9, 20, 5], [19, 3, 18, 1, 16, 5], [20, 8, 9, 18, 4], [23, 5, 5, 11], [7, 1, 12, 12], [19, 15, 15, 20], [3, 8, 1, 18, 20, 5, 18], [16, 19, 1, 12, 13], [18, 5, 3, 9, 16, 5], [15, 1, 20, 8], [14, 15, 20], [1, 14, 4], [15, 18], [23, 5, 20], [4, 5, 5, 16], [2, 9, 20, 5], [20, 8, 9, 14]] : List (List Nat)).getD i []
theorem kw_len : ∀ i, i < 25 → 1 ≤ i → fJ0_length_8abf5 hh0 i = some (nI (kWd i).length) := by decide +kernel
theorem kw_ch : ∀ i, i < 25 → ∀ j, j < (kWd i).length → fJ0_charAt_5068e hh0 i (nI j) = some (nI ((kWd i).getD j 0 + 96)) := by decide +kernel
theorem kw_b : ∀ i, i < 25 → (kWd i).length ≤ 8 ∧ ∀ x ∈ kWd i, 1 ≤ x ∧ x ≤ 26 := by decide +kernel
theorem kc1 : (382253 : Int64) = lN (eN 27 (kWd 1)) := by decide +kernel
theorem kc2 : (6564799 : Int64) = lN (eN 27 (kWd 2)) := by decide +kernel
theorem kc3 : (10792937 : Int64) = lN (eN 27 (kWd 3)) := by decide +kernel
theorem kc4 : (168728 : Int64) = lN (eN 27 (kWd 4)) := by decide +kernel
theorem kc5 : (397973 : Int64) = lN (eN 27 (kWd 5)) := by decide +kernel
theorem kc6 : (79828 : Int64) = lN (eN 27 (kWd 6)) := by decide +kernel
theorem kc7 : (10266418 : Int64) = lN (eN 27 (kWd 7)) := by decide +kernel
theorem kc8 : (12584543 : Int64) = lN (eN 27 (kWd 8)) := by decide +kernel
theorem kc9 : (274579016 : Int64) = lN (eN 27 (kWd 9)) := by decide +kernel
theorem kc10 : (10793335 : Int64) = lN (eN 27 (kWd 10)) := by decide +kernel
theorem kc11 : (456500 : Int64) = lN (eN 27 (kWd 11)) := by decide +kernel
theorem kc12 : (138846 : Int64) = lN (eN 27 (kWd 12)) := by decide +kernel
theorem kc13 : (385337 : Int64) = lN (eN 27 (kWd 13)) := by decide +kernel
theorem kc14 : (1277953191 : Int64) = lN (eN 27 (kWd 14)) := by decide +kernel
theorem kc15 : (8878099 : Int64) = lN (eN 27 (kWd 15)) := by decide +kernel
theorem kc16 : (261003578 : Int64) = lN (eN 27 (kWd 16)) := by decide +kernel
theorem kc17 : (296522 : Int64) = lN (eN 27 (kWd 17)) := by decide +kernel
theorem kc18 : (10631 : Int64) = lN (eN 27 (kWd 18)) := by decide +kernel
theorem kc19 : (1111 : Int64) = lN (eN 27 (kWd 19)) := by decide +kernel
theorem kc20 : (423 : Int64) = lN (eN 27 (kWd 20)) := by decide +kernel
theorem kc21 : (16922 : Int64) = lN (eN 27 (kWd 21)) := by decide +kernel
theorem kc22 : (82528 : Int64) = lN (eN 27 (kWd 22)) := by decide +kernel
theorem kc23 : (46472 : Int64) = lN (eN 27 (kWd 23)) := by decide +kernel
theorem kc24 : (399749 : Int64) = lN (eN 27 (kWd 24)) := by decide +kernel
def gIs (T : gTp) (b i : Nat) : Bool := decide (gTk T b = 1) && decide (gTw T b = kWd i)
def gIg (T : gTp) (b s : Nat) : Bool := decide (gTk T b = 3) && decide (T.2 (gPl T b) = s)
/-- a name that is not kept -/
def gNa (T : gTp) (b : Nat) : Bool := decide (gTk T b = 1) && (gFn (fun i => decide (gTw T b = kWd (i + 1))) 20 0).isNone
/-- a token state: where, and the fault; the next token; a fault -/
def nx (T : gTp) (s : Nat × Nat) : Nat × Nat := if s.2 = 0 then (gTe T s.1, 0) else s
def fl (T : gTp) (k : Nat) (s : Nat × Nat) : Nat × Nat := if s.2 = 0 then (s.1, k + 16 * gPl T s.1) else s
def SCs (h : wSt) (T : gTp) (s : Nat × Nat) : Prop := SC h T s.1 s.2
theorem eN_inj {b : Nat} (hb : 27 ≤ b) : ∀ {a c : List Nat}, (∀ x ∈ a, 1 ≤ x ∧ x ≤ 26) → (∀ x ∈ c, 1 ≤ x ∧ x ≤ 26) → eN b a = eN b c → a = c := by
  have key : ∀ (n : Nat) (a c : List Nat), a.length ≤ n → (∀ x ∈ a, 1 ≤ x ∧ x ≤ 26) → (∀ x ∈ c, 1 ≤ x ∧ x ≤ 26) → eN b a = eN b c → a = c := by
    intro n
    induction n with
    | zero =>
      intro a c ha h1 h2 he
      have : a = [] := List.length_eq_zero_iff.mp (by omega)
      subst this
      rcases List.eq_nil_or_concat c with e | ⟨c2, y, e⟩
      · exact e.symm
      · rw [e, List.concat_eq_append, eN_app] at he
        have := h2 y (by rw [e]; simp)
        have h0 : eN b [] = 0 := rfl
        omega
    | succ n ih =>
      intro a c ha h1 h2 he
      rcases List.eq_nil_or_concat a with e | ⟨a2, x, e⟩
      · rcases List.eq_nil_or_concat c with e2 | ⟨c2, y, e2⟩
        · rw [e, e2]
        · rw [e, e2, List.concat_eq_append, eN_app] at he
          have := h2 y (by rw [e2]; simp)
          have h0 : eN b [] = 0 := rfl
          omega
      · rw [List.concat_eq_append] at e
        have hx := h1 x (by rw [e]; simp)
        rcases List.eq_nil_or_concat c with e2 | ⟨c2, y, e2⟩
        · rw [e, e2, eN_app] at he
          have h0 : eN b [] = 0 := rfl
          omega
        · rw [List.concat_eq_append] at e2
          have hy := h2 y (by rw [e2]; simp)
          rw [e, e2, eN_app, eN_app] at he
          have m1' : (eN b a2 * b + x) % b = x := by rw [Nat.mul_comm, Nat.mul_add_mod, Nat.mod_eq_of_lt (by omega)]
          have m2' : (eN b c2 * b + y) % b = y := by rw [Nat.mul_comm, Nat.mul_add_mod, Nat.mod_eq_of_lt (by omega)]
          have hxy : x = y := by rw [← m1', ← m2', he]
          have hd : eN b a2 * b = eN b c2 * b := by omega
          have hq : eN b a2 = eN b c2 := Nat.eq_of_mul_eq_mul_right (by omega) hd
          have := ih a2 c2 (by rw [e, List.length_append] at ha; simp at ha; omega) (fun z hz => h1 z (by rw [e]; simp [hz])) (fun z hz => h2 z (by rw [e2]; simp [hz])) hq
          rw [e, e2, this, hxy]
  exact fun {a c} h1 h2 he => key a.length a c (Nat.le_refl _) h1 h2 he
theorem eN_b {b : Nat} (h0 : 27 ≤ b) (h1 : b ≤ 32) : ∀ {w : List Nat}, w.length ≤ 8 → (∀ x ∈ w, 1 ≤ x ∧ x ≤ 26) → eN b w < 2 ^ 63 := by
  have key : ∀ (n : Nat) (w : List Nat), w.length = n → (∀ x ∈ w, 1 ≤ x ∧ x ≤ 26) → eN b w < b ^ n := by
    intro n
    induction n with
    | zero =>
      intro w hw _
      rw [List.length_eq_zero_iff.mp hw]
      show 0 < 1
      omega
    | succ n ih =>
      intro w hw hx
      rcases List.eq_nil_or_concat w with e | ⟨v, y, e⟩
      · rw [e] at hw; simp at hw
      · rw [List.concat_eq_append] at e
        have h2 := ih v (by rw [e, List.length_append] at hw; simp at hw; exact hw) (fun z hz => hx z (by rw [e]; simp [hz]))
        have hy := hx y (by rw [e]; simp)
        rw [e, eN_app, Nat.pow_succ]
        have h3 := Nat.mul_le_mul_right b (show eN b v + 1 ≤ b ^ n by omega)
        rw [Nat.add_mul, Nat.one_mul] at h3
        omega
  intro w hw hx
  have h2 := key w.length w rfl hx
  have h3 : b ^ w.length ≤ 32 ^ 8 := Nat.le_trans (Nat.pow_le_pow_left h1 _) (Nat.pow_le_pow_right (by decide) hw)
  have : (32 : Nat) ^ 8 < 2 ^ 63 := by decide
  omega
section G59
variable {h : wSt} {T : gTp} {b f : Nat}
theorem gTk_1 (hb : b ≤ T.1) (hk : gTk T b = 1) : gPl T b < gTe T b ∧ gTe T b - gPl T b ≤ 8 ∧ ∀ j, gPl T b ≤ j → j < gTe T b → 97 ≤ T.2 j ∧ T.2 j ≤ 122 := by
  obtain ⟨p1, p2⟩ := gPl_b hb
  obtain ⟨e1, e2, e3⟩ := gTe_b hb
  unfold gTk at hk
  by_cases hE : gPl T b = T.1
  · rw [if_pos hE] at hk; omega
  · rw [if_neg hE] at hk
    cases hL : gLe (T.2 (gPl T b)) with
    | false =>
      rw [hL, if_neg (by decide)] at hk
      split at hk
      · split at hk <;> omega
      · split at hk <;> omega
    | true =>
      rw [hL, if_pos rfl] at hk
      have k1 : gTe T b = gE gLe T (gPl T b) := by unfold gTe; rw [if_neg hE, if_pos hL]
      refine ⟨e3 (by omega), ?_, fun j q1 q2 => ?_⟩
      · apply Nat.le_of_not_lt
        intro hh
        rw [if_neg (by omega)] at hk
        omega
      · rw [k1] at q2
        have := (gE_b gLe (T := T) (i := gPl T b) p2).2.2.1 j q1 q2
        unfold gLe at this
        simp only [Bool.and_eq_true, decide_eq_true_eq] at this
        exact this
theorem gTk_2 (hb : b ≤ T.1) (hk : gTk T b = 2) : gPl T b < gTe T b ∧ gTe T b - gPl T b ≤ 4 ∧ gTn T b < 10000 := by
  obtain ⟨p1, p2⟩ := gPl_b hb
  obtain ⟨e1, e2, e3⟩ := gTe_b hb
  have hk0 := hk
  unfold gTk at hk
  by_cases hE : gPl T b = T.1
  · rw [if_pos hE] at hk; omega
  · rw [if_neg hE] at hk
    cases hL : gLe (T.2 (gPl T b)) with
    | true =>
      rw [hL, if_pos rfl] at hk
      split at hk <;> omega
    | false =>
      rw [hL, if_neg (by decide)] at hk
      cases hD : gDi (T.2 (gPl T b)) with
      | false =>
        rw [hD, if_neg (by decide)] at hk
        split at hk <;> omega
      | true =>
        rw [hD, if_pos rfl] at hk
        have k1 : gTe T b = gE gDi T (gPl T b) := by unfold gTe; rw [if_neg hE, hL, if_neg (by decide), if_pos hD]
        have h4 : gTe T b - gPl T b ≤ 4 := by
          apply Nat.le_of_not_lt
          intro hh
          rw [if_neg (by omega)] at hk
          omega
        refine ⟨e3 (by omega), h4, ?_⟩
        unfold gTn
        have h5 := gNm_lt (n := gTe T b - gPl T b) (T := T) (p := gPl T b) (fun j hj => by
          have := (gE_b gDi (T := T) (i := gPl T b) p2).2.2.1 (gPl T b + j) (by omega) (by rw [← k1]; omega)
          unfold gDi at this
          simp only [Bool.and_eq_true, decide_eq_true_eq] at this
          omega)
        have h6 : 10 ^ (gTe T b - gPl T b) ≤ 10 ^ 4 := Nat.pow_le_pow_right (by decide) h4
        omega
theorem gTk_3 (hb : b ≤ T.1) (hk : gTk T b = 3) : gPl T b < T.1 := by
  obtain ⟨p1, p2⟩ := gPl_b hb
  apply Nat.lt_of_le_of_ne p2
  intro hE
  unfold gTk at hk
  rw [if_pos hE] at hk
  omega
theorem gTk_0 (hb : b ≤ T.1) : gTk T b ≤ 4 := by
  unfold gTk
  split
  · omega
  · split
    · split <;> omega
    · split
      · split <;> omega
      · split <;> omega
theorem gWd_get {p : Nat} : ∀ {n j : Nat}, j < n → (gWd T p n).getD j 0 = T.2 (p + j) - 96
  | 0, j, hj => by omega
  | n + 1, j, hj => by
    rw [gWd, getD_app (by rw [gWd_len]; exact hj), gWd_len]
    by_cases e : j = n
    · rw [if_pos e, e]
    · rw [if_neg e]; exact gWd_get (by omega)
theorem gTw_W (hb : b ≤ T.1) (hk : gTk T b = 1) : WN (gTw T b) := by
  obtain ⟨q1, q2, q3⟩ := gTk_1 hb hk
  unfold WN gTw
  rw [gWd_len]
  refine ⟨by omega, q2, fun x hx => ?_⟩
  obtain ⟨j, hj, e⟩ := List.getElem_of_mem hx
  have hj2 := hj
  rw [gWd_len] at hj2
  have h1 := gWd_get (T := T) (p := gPl T b) hj2
  rw [getD_at hj, e] at h1
  have := q3 (gPl T b + j) (by omega) (by omega)
  omega
theorem c_isWord (hs : SC h T b f) {i : Nat} (h1 : 1 ≤ i) (hi : i < 25) : fX7_isWord h i = some (gIs T b i) := by
  obtain ⟨⟨t0, t1⟩, hW, hb, s2, s3, s4, -, -, -, -⟩ := hs
  have w0 := hW.1
  obtain ⟨p1, p2⟩ := gPl_b hb
  obtain ⟨e1, e2, e3⟩ := gTe_b hb
  have hk0 := gTk_0 hb
  have hlen : fJ0_length_8abf5 h i = some (nI (kWd i).length) := kw_len i hi h1
  obtain ⟨kb1, kb2⟩ := kw_b i hi
  unfold gIs
  by_cases hk : gTk T b = 1
  · rw [decide_eq_true hk, Bool.true_and]
    obtain ⟨q1, q2, q3⟩ := gTk_1 hb hk
    by_cases hl : gTe T b - gPl T b = (kWd i).length
    · obtain ⟨e, he, ee⟩ := wit_find (b := fun v : Int32 => fX7_isWord_l39 h i v) (fun j => !decide (T.2 (gPl T b + j) = (kWd i).getD j 0 + 96)) (kWd i).length (fun j v => v = nI j) (fun o e => e = (match o with | none => Sum.inl () | some _ => Sum.inr false))
        (by
          rintro j v hj rfl
          have hch : fJ0_charAt_5068e h i (nI j) = some (nI ((kWd i).getD j 0 + 96)) := kw_ch i hi j hj
          have hlt : gPl T b + j < T.1 := by omega
          have t2 := t1 _ hlt
          have hv := hW.2 _ hlt
          have hg : (kWd i).getD j 0 ≤ 26 := by rw [getD_at hj]; exact (kb2 _ (List.getElem_mem hj)).2
          refine ⟨fun hq => ⟨.inr false, ?_, rfl⟩, fun hq => ⟨nI (j + 1), ?_, rfl⟩⟩
          · have hq : ¬ T.2 (gPl T b + j) = (kWd i).getD j 0 + 96 := by simpa using hq
            simp (disch := omega) only [↓reduceIte, wlet, Option.bind_some, true_and, and_true, not_true_eq_false, not_false_eq_true, reduceCtorEq, n0_, n1_, n2_, n3_, n4_, n5_, n6_, n7_, n8_, n9_, n10_, n12_, n16_, n18_, n20_, n21_, n22_, n24_, n25_, n26_, n27_, n28_, n29_, n30_, n31_, n32_, n40_, n41_, n42_, n43_, n45_, n48_, n54_, n57_, n58_, n59_, n60_, n61_, n63_, n96_, n97_, n99_, n100_, n122_, n126_, n200_, n255_, n375_, n400_, n1000_, n2000_, n9999_, n5764801_, n1000000_, n3000_, m1, m2, le_t, le_f, lt_t, lt_f, eq_t, eq_f, no_lt, no_le, le_no, lt_no, eq_no, no_eq, add_no, wib_t, clamp, nI_add, pk_mul, pk_sub, nor_, nand_, ndif_, shl_, sh1_, shr_, tbn, tb0, tb1, les_t, les_f, pk_div, rem_, remv, and31, wu1, wuc, wui, wu2, ws1, wsc, ws2, wv1, n11_, n13_, n14_, n15_, n17_, n19_, n23_, n56_, n64_, fX7_isWord_l39, hlen, s3, t2, hch]
          · have hq : T.2 (gPl T b + j) = (kWd i).getD j 0 + 96 := by simpa using hq
            simp (disch := omega) only [↓reduceIte, wlet, Option.bind_some, true_and, and_true, not_true_eq_false, not_false_eq_true, reduceCtorEq, n0_, n1_, n2_, n3_, n4_, n5_, n6_, n7_, n8_, n9_, n10_, n12_, n16_, n18_, n20_, n21_, n22_, n24_, n25_, n26_, n27_, n28_, n29_, n30_, n31_, n32_, n40_, n41_, n42_, n43_, n45_, n48_, n54_, n57_, n58_, n59_, n60_, n61_, n63_, n96_, n97_, n99_, n100_, n122_, n126_, n200_, n255_, n375_, n400_, n1000_, n2000_, n9999_, n5764801_, n1000000_, n3000_, m1, m2, le_t, le_f, lt_t, lt_f, eq_t, eq_f, no_lt, no_le, le_no, lt_no, eq_no, no_eq, add_no, wib_t, clamp, nI_add, pk_mul, pk_sub, nor_, nand_, ndif_, shl_, sh1_, shr_, tbn, tb0, tb1, les_t, les_f, pk_div, rem_, remv, and31, wu1, wuc, wui, wu2, ws1, wsc, ws2, wv1, n11_, n13_, n14_, n15_, n17_, n19_, n23_, n56_, n64_, fX7_isWord_l39, hlen, s3, t2, hch, hq])
        (by
          rintro v rfl
          refine ⟨.inl (), ?_, rfl⟩
          simp (disch := omega) only [↓reduceIte, wlet, Option.bind_some, true_and, and_true, not_true_eq_false, not_false_eq_true, reduceCtorEq, n0_, n1_, n2_, n3_, n4_, n5_, n6_, n7_, n8_, n9_, n10_, n12_, n16_, n18_, n20_, n21_, n22_, n24_, n25_, n26_, n27_, n28_, n29_, n30_, n31_, n32_, n40_, n41_, n42_, n43_, n45_, n48_, n54_, n57_, n58_, n59_, n60_, n61_, n63_, n96_, n97_, n99_, n100_, n122_, n126_, n200_, n255_, n375_, n400_, n1000_, n2000_, n9999_, n5764801_, n1000000_, n3000_, m1, m2, le_t, le_f, lt_t, lt_f, eq_t, eq_f, no_lt, no_le, le_no, lt_no, eq_no, no_eq, add_no, wib_t, clamp, nI_add, pk_mul, pk_sub, nor_, nand_, ndif_, shl_, sh1_, shr_, tbn, tb0, tb1, les_t, les_f, pk_div, rem_, remv, and31, wu1, wuc, wui, wu2, ws1, wsc, ws2, wv1, n11_, n13_, n14_, n15_, n17_, n19_, n23_, n56_, n64_, fX7_isWord_l39, hlen])
        (N := 3000) (by omega) (v0 := nI 0) rfl
      have heq : (gFn (fun j => !decide (T.2 (gPl T b + j) = (kWd i).getD j 0 + 96)) (kWd i).length 0 = none) ↔ gTw T b = kWd i := by
        constructor
        · intro hn
          have h2 := gFn_none hn
          unfold gTw
          apply List.ext_getElem
          · rw [gWd_len]; exact hl
          · intro j hj1 hj2
            have h3 := h2 j (by omega) (by omega)
            have h4 := gWd_get (T := T) (p := gPl T b) (n := gTe T b - gPl T b) (j := j) (by omega)
            rw [getD_at hj1] at h4
            simp only [Bool.not_eq_false', decide_eq_true_eq] at h3
            rw [getD_at hj2] at h3
            omega
        · intro hw
          cases hq : gFn (fun j => !decide (T.2 (gPl T b + j) = (kWd i).getD j 0 + 96)) (kWd i).length 0 with
          | none => rfl
          | some j =>
            obtain ⟨-, j2, j3⟩ := gFn_some hq
            simp only [Bool.not_eq_true', decide_eq_false_iff_not] at j3
            exfalso
            apply j3
            have h4 := gWd_get (T := T) (p := gPl T b) (n := gTe T b - gPl T b) (j := j) (by omega)
            unfold gTw at hw
            rw [hw] at h4
            have := q3 (gPl T b + j) (by omega) (by omega)
            omega
      cases hq : gFn (fun j => !decide (T.2 (gPl T b + j) = (kWd i).getD j 0 + 96)) (kWd i).length 0 with
      | none =>
        rw [hq] at ee
        rw [decide_eq_true (heq.mp hq)]
        simp (disch := omega) only [↓reduceIte, wlet, Option.bind_some, true_and, and_true, not_true_eq_false, not_false_eq_true, reduceCtorEq, n0_, n1_, n2_, n3_, n4_, n5_, n6_, n7_, n8_, n9_, n10_, n12_, n16_, n18_, n20_, n21_, n22_, n24_, n25_, n26_, n27_, n28_, n29_, n30_, n31_, n32_, n40_, n41_, n42_, n43_, n45_, n48_, n54_, n57_, n58_, n59_, n60_, n61_, n63_, n96_, n97_, n99_, n100_, n122_, n126_, n200_, n255_, n375_, n400_, n1000_, n2000_, n9999_, n5764801_, n1000000_, n3000_, m1, m2, le_t, le_f, lt_t, lt_f, eq_t, eq_f, no_lt, no_le, le_no, lt_no, eq_no, no_eq, add_no, wib_t, clamp, nI_add, pk_mul, pk_sub, nor_, nand_, ndif_, shl_, sh1_, shr_, tbn, tb0, tb1, les_t, les_f, pk_div, rem_, remv, and31, wu1, wuc, wui, wu2, ws1, wsc, ws2, wv1, n11_, n13_, n14_, n15_, n17_, n19_, n23_, n56_, n64_, fX7_isWord, s2, s3, s4, t0, hk, hlen, hl, he, ee]
      | some j =>
        rw [hq] at ee
        rw [decide_eq_false (fun q => by rw [heq.mpr q] at hq; cases hq)]
        simp (disch := omega) only [↓reduceIte, wlet, Option.bind_some, true_and, and_true, not_true_eq_false, not_false_eq_true, reduceCtorEq, n0_, n1_, n2_, n3_, n4_, n5_, n6_, n7_, n8_, n9_, n10_, n12_, n16_, n18_, n20_, n21_, n22_, n24_, n25_, n26_, n27_, n28_, n29_, n30_, n31_, n32_, n40_, n41_, n42_, n43_, n45_, n48_, n54_, n57_, n58_, n59_, n60_, n61_, n63_, n96_, n97_, n99_, n100_, n122_, n126_, n200_, n255_, n375_, n400_, n1000_, n2000_, n9999_, n5764801_, n1000000_, n3000_, m1, m2, le_t, le_f, lt_t, lt_f, eq_t, eq_f, no_lt, no_le, le_no, lt_no, eq_no, no_eq, add_no, wib_t, clamp, nI_add, pk_mul, pk_sub, nor_, nand_, ndif_, shl_, sh1_, shr_, tbn, tb0, tb1, les_t, les_f, pk_div, rem_, remv, and31, wu1, wuc, wui, wu2, ws1, wsc, ws2, wv1, n11_, n13_, n14_, n15_, n17_, n19_, n23_, n56_, n64_, fX7_isWord, s2, s3, s4, t0, hk, hlen, hl, he, ee]
    · rw [decide_eq_false (fun q => hl (by rw [← q]; unfold gTw; rw [gWd_len]))]
      simp (disch := omega) only [↓reduceIte, wlet, Option.bind_some, true_and, and_true, not_true_eq_false, not_false_eq_true, reduceCtorEq, n0_, n1_, n2_, n3_, n4_, n5_, n6_, n7_, n8_, n9_, n10_, n12_, n16_, n18_, n20_, n21_, n22_, n24_, n25_, n26_, n27_, n28_, n29_, n30_, n31_, n32_, n40_, n41_, n42_, n43_, n45_, n48_, n54_, n57_, n58_, n59_, n60_, n61_, n63_, n96_, n97_, n99_, n100_, n122_, n126_, n200_, n255_, n375_, n400_, n1000_, n2000_, n9999_, n5764801_, n1000000_, n3000_, m1, m2, le_t, le_f, lt_t, lt_f, eq_t, eq_f, no_lt, no_le, le_no, lt_no, eq_no, no_eq, add_no, wib_t, clamp, nI_add, pk_mul, pk_sub, nor_, nand_, ndif_, shl_, sh1_, shr_, tbn, tb0, tb1, les_t, les_f, pk_div, rem_, remv, and31, wu1, wuc, wui, wu2, ws1, wsc, ws2, wv1, n11_, n13_, n14_, n15_, n17_, n19_, n23_, n56_, n64_, fX7_isWord, s2, s3, s4, hk, hlen]
  · rw [decide_eq_false hk, Bool.false_and]
    simp (disch := omega) only [↓reduceIte, wlet, Option.bind_some, true_and, and_true, not_true_eq_false, not_false_eq_true, reduceCtorEq, n0_, n1_, n2_, n3_, n4_, n5_, n6_, n7_, n8_, n9_, n10_, n12_, n16_, n18_, n20_, n21_, n22_, n24_, n25_, n26_, n27_, n28_, n29_, n30_, n31_, n32_, n40_, n41_, n42_, n43_, n45_, n48_, n54_, n57_, n58_, n59_, n60_, n61_, n63_, n96_, n97_, n99_, n100_, n122_, n126_, n200_, n255_, n375_, n400_, n1000_, n2000_, n9999_, n5764801_, n1000000_, n3000_, m1, m2, le_t, le_f, lt_t, lt_f, eq_t, eq_f, no_lt, no_le, le_no, lt_no, eq_no, no_eq, add_no, wib_t, clamp, nI_add, pk_mul, pk_sub, nor_, nand_, ndif_, shl_, sh1_, shr_, tbn, tb0, tb1, les_t, les_f, pk_div, rem_, remv, and31, wu1, wuc, wui, wu2, ws1, wsc, ws2, wv1, n11_, n13_, n14_, n15_, n17_, n19_, n23_, n56_, n64_, fX7_isWord, s2]
theorem r_isWord (hs : SM h T b) {i : Nat} (h1 : 1 ≤ i) (hi : i < 25) : fX11_isWord h (lN (eN 27 (kWd i))) = some (gIs T b i) := by
  obtain ⟨-, hW, hb, s6, -, -, -, s7⟩ := hs
  obtain ⟨kb1, kb2⟩ := kw_b i hi
  have hk0 := gTk_0 hb
  unfold gIs
  by_cases hk : gTk T b = 1
  · rw [decide_eq_true hk, Bool.true_and]
    have s7 := s7 hk
    obtain ⟨w1, w2, w3⟩ := gTw_W hb hk
    have hiff : (lN (eN 27 (gTw T b)) = lN (eN 27 (kWd i))) ↔ gTw T b = kWd i := by
      rw [pk_lEQ (eN_b (by omega) (by omega) w2 w3) (eN_b (by omega) (by omega) kb1 kb2)]
      exact ⟨fun q => eN_inj (by omega) w3 kb2 q, fun q => by rw [q]⟩
    unfold fX11_isWord
    rw [s6, hk, if_pos (show nI 1 = 1 from rfl), s7]
    by_cases hq : gTw T b = kWd i
    · rw [if_pos (hiff.mpr hq), decide_eq_true hq]
    · rw [if_neg (fun q => hq (hiff.mp q)), decide_eq_false hq]
  · rw [decide_eq_false hk, Bool.false_and]
    simp (disch := omega) only [↓reduceIte, wlet, Option.bind_some, true_and, and_true, not_true_eq_false, not_false_eq_true, reduceCtorEq, n0_, n1_, n2_, n3_, n4_, n5_, n6_, n7_, n8_, n9_, n10_, n12_, n16_, n18_, n20_, n21_, n22_, n24_, n25_, n26_, n27_, n28_, n29_, n30_, n31_, n32_, n40_, n41_, n42_, n43_, n45_, n48_, n54_, n57_, n58_, n59_, n60_, n61_, n63_, n96_, n97_, n99_, n100_, n122_, n126_, n200_, n255_, n375_, n400_, n1000_, n2000_, n9999_, n5764801_, n1000000_, n3000_, m1, m2, le_t, le_f, lt_t, lt_f, eq_t, eq_f, no_lt, no_le, le_no, lt_no, eq_no, no_eq, add_no, wib_t, clamp, nI_add, pk_mul, pk_sub, nor_, nand_, ndif_, shl_, sh1_, shr_, tbn, tb0, tb1, les_t, les_f, pk_div, rem_, remv, and31, wu1, wuc, wui, wu2, ws1, wsc, ws2, wv1, n11_, n13_, n14_, n15_, n17_, n19_, n23_, n56_, n64_, fX11_isWord, s6]
theorem r_w1 (hs : SM h T b) : fX11_isWord h 382253 = some (gIs T b 1) := by rw [kc1]; exact r_isWord hs (by omega) (by omega)
theorem r_w2 (hs : SM h T b) : fX11_isWord h 6564799 = some (gIs T b 2) := by rw [kc2]; exact r_isWord hs (by omega) (by omega)
theorem r_w3 (hs : SM h T b) : fX11_isWord h 10792937 = some (gIs T b 3) := by rw [kc3]; exact r_isWord hs (by omega) (by omega)
theorem r_w4 (hs : SM h T b) : fX11_isWord h 168728 = some (gIs T b 4) := by rw [kc4]; exact r_isWord hs (by omega) (by omega)
theorem r_w5 (hs : SM h T b) : fX11_isWord h 397973 = some (gIs T b 5) := by rw [kc5]; exact r_isWord hs (by omega) (by omega)
theorem r_w6 (hs : SM h T b) : fX11_isWord h 79828 = some (gIs T b 6) := by rw [kc6]; exact r_isWord hs (by omega) (by omega)
theorem r_w7 (hs : SM h T b) : fX11_isWord h 10266418 = some (gIs T b 7) := by rw [kc7]; exact r_isWord hs (by omega) (by omega)
theorem r_w8 (hs : SM h T b) : fX11_isWord h 12584543 = some (gIs T b 8) := by rw [kc8]; exact r_isWord hs (by omega) (by omega)
theorem r_w9 (hs : SM h T b) : fX11_isWord h 274579016 = some (gIs T b 9) := by rw [kc9]; exact r_isWord hs (by omega) (by omega)
theorem r_w10 (hs : SM h T b) : fX11_isWord h 10793335 = some (gIs T b 10) := by rw [kc10]; exact r_isWord hs (by omega) (by omega)
theorem r_w11 (hs : SM h T b) : fX11_isWord h 456500 = some (gIs T b 11) := by rw [kc11]; exact r_isWord hs (by omega) (by omega)
theorem r_w12 (hs : SM h T b) : fX11_isWord h 138846 = some (gIs T b 12) := by rw [kc12]; exact r_isWord hs (by omega) (by omega)
theorem r_w13 (hs : SM h T b) : fX11_isWord h 385337 = some (gIs T b 13) := by rw [kc13]; exact r_isWord hs (by omega) (by omega)
theorem r_w14 (hs : SM h T b) : fX11_isWord h 1277953191 = some (gIs T b 14) := by rw [kc14]; exact r_isWord hs (by omega) (by omega)
theorem r_w15 (hs : SM h T b) : fX11_isWord h 8878099 = some (gIs T b 15) := by rw [kc15]; exact r_isWord hs (by omega) (by omega)
theorem r_w16 (hs : SM h T b) : fX11_isWord h 261003578 = some (gIs T b 16) := by rw [kc16]; exact r_isWord hs (by omega) (by omega)
theorem r_w17 (hs : SM h T b) : fX11_isWord h 296522 = some (gIs T b 17) := by rw [kc17]; exact r_isWord hs (by omega) (by omega)
theorem r_w18 (hs : SM h T b) : fX11_isWord h 10631 = some (gIs T b 18) := by rw [kc18]; exact r_isWord hs (by omega) (by omega)
theorem r_w19 (hs : SM h T b) : fX11_isWord h 1111 = some (gIs T b 19) := by rw [kc19]; exact r_isWord hs (by omega) (by omega)
theorem r_w20 (hs : SM h T b) : fX11_isWord h 423 = some (gIs T b 20) := by rw [kc20]; exact r_isWord hs (by omega) (by omega)
theorem r_w21 (hs : SM h T b) : fX11_isWord h 16922 = some (gIs T b 21) := by rw [kc21]; exact r_isWord hs (by omega) (by omega)
theorem r_w22 (hs : SM h T b) : fX11_isWord h 82528 = some (gIs T b 22) := by rw [kc22]; exact r_isWord hs (by omega) (by omega)
theorem r_w23 (hs : SM h T b) : fX11_isWord h 46472 = some (gIs T b 23) := by rw [kc23]; exact r_isWord hs (by omega) (by omega)
theorem r_w24 (hs : SM h T b) : fX11_isWord h 399749 = some (gIs T b 24) := by rw [kc24]; exact r_isWord hs (by omega) (by omega)
theorem c_isSign (hs : SC h T b f) {s : Nat} (hs2 : s < 128) : fX7_isSign h (nI s) = some (gIg T b s) := by
  obtain ⟨⟨t0, t1⟩, hW, hb, s2, s3, s4, -, -, -, -⟩ := hs
  have w0 := hW.1
  have hk0 := gTk_0 hb
  unfold gIg
  by_cases hk : gTk T b = 3
  · have hlt := gTk_3 hb hk
    have t2 := t1 _ hlt
    have hv := hW.2 _ hlt
    rw [decide_eq_true hk, Bool.true_and]
    by_cases hq : T.2 (gPl T b) = s
    · rw [decide_eq_true hq]
      simp (disch := omega) only [↓reduceIte, wlet, Option.bind_some, true_and, and_true, not_true_eq_false, not_false_eq_true, reduceCtorEq, n0_, n1_, n2_, n3_, n4_, n5_, n6_, n7_, n8_, n9_, n10_, n12_, n16_, n18_, n20_, n21_, n22_, n24_, n25_, n26_, n27_, n28_, n29_, n30_, n31_, n32_, n40_, n41_, n42_, n43_, n45_, n48_, n54_, n57_, n58_, n59_, n60_, n61_, n63_, n96_, n97_, n99_, n100_, n122_, n126_, n200_, n255_, n375_, n400_, n1000_, n2000_, n9999_, n5764801_, n1000000_, n3000_, m1, m2, le_t, le_f, lt_t, lt_f, eq_t, eq_f, no_lt, no_le, le_no, lt_no, eq_no, no_eq, add_no, wib_t, clamp, nI_add, pk_mul, pk_sub, nor_, nand_, ndif_, shl_, sh1_, shr_, tbn, tb0, tb1, les_t, les_f, pk_div, rem_, remv, and31, wu1, wuc, wui, wu2, ws1, wsc, ws2, wv1, n11_, n13_, n14_, n15_, n17_, n19_, n23_, n56_, n64_, fX7_isSign, s2, s3, t0, t2, hk, hq]
    · rw [decide_eq_false hq]
      simp (disch := omega) only [↓reduceIte, wlet, Option.bind_some, true_and, and_true, not_true_eq_false, not_false_eq_true, reduceCtorEq, n0_, n1_, n2_, n3_, n4_, n5_, n6_, n7_, n8_, n9_, n10_, n12_, n16_, n18_, n20_, n21_, n22_, n24_, n25_, n26_, n27_, n28_, n29_, n30_, n31_, n32_, n40_, n41_, n42_, n43_, n45_, n48_, n54_, n57_, n58_, n59_, n60_, n61_, n63_, n96_, n97_, n99_, n100_, n122_, n126_, n200_, n255_, n375_, n400_, n1000_, n2000_, n9999_, n5764801_, n1000000_, n3000_, m1, m2, le_t, le_f, lt_t, lt_f, eq_t, eq_f, no_lt, no_le, le_no, lt_no, eq_no, no_eq, add_no, wib_t, clamp, nI_add, pk_mul, pk_sub, nor_, nand_, ndif_, shl_, sh1_, shr_, tbn, tb0, tb1, les_t, les_f, pk_div, rem_, remv, and31, wu1, wuc, wui, wu2, ws1, wsc, ws2, wv1, n11_, n13_, n14_, n15_, n17_, n19_, n23_, n56_, n64_, fX7_isSign, s2, s3, t0, t2, hk]
  · rw [decide_eq_false hk, Bool.false_and]
    simp (disch := omega) only [↓reduceIte, wlet, Option.bind_some, true_and, and_true, not_true_eq_false, not_false_eq_true, reduceCtorEq, n0_, n1_, n2_, n3_, n4_, n5_, n6_, n7_, n8_, n9_, n10_, n12_, n16_, n18_, n20_, n21_, n22_, n24_, n25_, n26_, n27_, n28_, n29_, n30_, n31_, n32_, n40_, n41_, n42_, n43_, n45_, n48_, n54_, n57_, n58_, n59_, n60_, n61_, n63_, n96_, n97_, n99_, n100_, n122_, n126_, n200_, n255_, n375_, n400_, n1000_, n2000_, n9999_, n5764801_, n1000000_, n3000_, m1, m2, le_t, le_f, lt_t, lt_f, eq_t, eq_f, no_lt, no_le, le_no, lt_no, eq_no, no_eq, add_no, wib_t, clamp, nI_add, pk_mul, pk_sub, nor_, nand_, ndif_, shl_, sh1_, shr_, tbn, tb0, tb1, les_t, les_f, pk_div, rem_, remv, and31, wu1, wuc, wui, wu2, ws1, wsc, ws2, wv1, n11_, n13_, n14_, n15_, n17_, n19_, n23_, n56_, n64_, fX7_isSign, s2]
theorem r_isSign (hs : SM h T b) {s : Nat} (hs2 : s < 128) : fX11_isSign h (nI s) = some (gIg T b s) := by
  obtain ⟨⟨t0, t1⟩, hW, hb, s6, s5, -, -, -⟩ := hs
  have w0 := hW.1
  have hk0 := gTk_0 hb
  unfold gIg
  by_cases hk : gTk T b = 3
  · have hlt := gTk_3 hb hk
    have t2 := t1 _ hlt
    have hv := hW.2 _ hlt
    rw [decide_eq_true hk, Bool.true_and]
    by_cases hq : T.2 (gPl T b) = s
    · rw [decide_eq_true hq]
      simp (disch := omega) only [↓reduceIte, wlet, Option.bind_some, true_and, and_true, not_true_eq_false, not_false_eq_true, reduceCtorEq, n0_, n1_, n2_, n3_, n4_, n5_, n6_, n7_, n8_, n9_, n10_, n12_, n16_, n18_, n20_, n21_, n22_, n24_, n25_, n26_, n27_, n28_, n29_, n30_, n31_, n32_, n40_, n41_, n42_, n43_, n45_, n48_, n54_, n57_, n58_, n59_, n60_, n61_, n63_, n96_, n97_, n99_, n100_, n122_, n126_, n200_, n255_, n375_, n400_, n1000_, n2000_, n9999_, n5764801_, n1000000_, n3000_, m1, m2, le_t, le_f, lt_t, lt_f, eq_t, eq_f, no_lt, no_le, le_no, lt_no, eq_no, no_eq, add_no, wib_t, clamp, nI_add, pk_mul, pk_sub, nor_, nand_, ndif_, shl_, sh1_, shr_, tbn, tb0, tb1, les_t, les_f, pk_div, rem_, remv, and31, wu1, wuc, wui, wu2, ws1, wsc, ws2, wv1, n11_, n13_, n14_, n15_, n17_, n19_, n23_, n56_, n64_, fX11_isSign, s6, s5, t2, hk, hq]
    · rw [decide_eq_false hq]
      simp (disch := omega) only [↓reduceIte, wlet, Option.bind_some, true_and, and_true, not_true_eq_false, not_false_eq_true, reduceCtorEq, n0_, n1_, n2_, n3_, n4_, n5_, n6_, n7_, n8_, n9_, n10_, n12_, n16_, n18_, n20_, n21_, n22_, n24_, n25_, n26_, n27_, n28_, n29_, n30_, n31_, n32_, n40_, n41_, n42_, n43_, n45_, n48_, n54_, n57_, n58_, n59_, n60_, n61_, n63_, n96_, n97_, n99_, n100_, n122_, n126_, n200_, n255_, n375_, n400_, n1000_, n2000_, n9999_, n5764801_, n1000000_, n3000_, m1, m2, le_t, le_f, lt_t, lt_f, eq_t, eq_f, no_lt, no_le, le_no, lt_no, eq_no, no_eq, add_no, wib_t, clamp, nI_add, pk_mul, pk_sub, nor_, nand_, ndif_, shl_, sh1_, shr_, tbn, tb0, tb1, les_t, les_f, pk_div, rem_, remv, and31, wu1, wuc, wui, wu2, ws1, wsc, ws2, wv1, n11_, n13_, n14_, n15_, n17_, n19_, n23_, n56_, n64_, fX11_isSign, s6, s5, t2, hk]
  · rw [decide_eq_false hk, Bool.false_and]
    simp (disch := omega) only [↓reduceIte, wlet, Option.bind_some, true_and, and_true, not_true_eq_false, not_false_eq_true, reduceCtorEq, n0_, n1_, n2_, n3_, n4_, n5_, n6_, n7_, n8_, n9_, n10_, n12_, n16_, n18_, n20_, n21_, n22_, n24_, n25_, n26_, n27_, n28_, n29_, n30_, n31_, n32_, n40_, n41_, n42_, n43_, n45_, n48_, n54_, n57_, n58_, n59_, n60_, n61_, n63_, n96_, n97_, n99_, n100_, n122_, n126_, n200_, n255_, n375_, n400_, n1000_, n2000_, n9999_, n5764801_, n1000000_, n3000_, m1, m2, le_t, le_f, lt_t, lt_f, eq_t, eq_f, no_lt, no_le, le_no, lt_no, eq_no, no_eq, add_no, wib_t, clamp, nI_add, pk_mul, pk_sub, nor_, nand_, ndif_, shl_, sh1_, shr_, tbn, tb0, tb1, les_t, les_f, pk_div, rem_, remv, and31, wu1, wuc, wui, wu2, ws1, wsc, ws2, wv1, n11_, n13_, n14_, n15_, n17_, n19_, n23_, n56_, n64_, fX11_isSign, s6]
theorem c_isNumber (hs : SC h T b f) : fX7_isNumber h = some (decide (gTk T b = 2)) := by
  obtain ⟨-, -, hb, s2, -⟩ := hs
  have hk0 := gTk_0 hb
  by_cases hk : gTk T b = 2
  · rw [decide_eq_true hk]
    simp (disch := omega) only [↓reduceIte, wlet, Option.bind_some, true_and, and_true, not_true_eq_false, not_false_eq_true, reduceCtorEq, n0_, n1_, n2_, n3_, n4_, n5_, n6_, n7_, n8_, n9_, n10_, n12_, n16_, n18_, n20_, n21_, n22_, n24_, n25_, n26_, n27_, n28_, n29_, n30_, n31_, n32_, n40_, n41_, n42_, n43_, n45_, n48_, n54_, n57_, n58_, n59_, n60_, n61_, n63_, n96_, n97_, n99_, n100_, n122_, n126_, n200_, n255_, n375_, n400_, n1000_, n2000_, n9999_, n5764801_, n1000000_, n3000_, m1, m2, le_t, le_f, lt_t, lt_f, eq_t, eq_f, no_lt, no_le, le_no, lt_no, eq_no, no_eq, add_no, wib_t, clamp, nI_add, pk_mul, pk_sub, nor_, nand_, ndif_, shl_, sh1_, shr_, tbn, tb0, tb1, les_t, les_f, pk_div, rem_, remv, and31, wu1, wuc, wui, wu2, ws1, wsc, ws2, wv1, n11_, n13_, n14_, n15_, n17_, n19_, n23_, n56_, n64_, fX7_isNumber, s2, hk]
  · rw [decide_eq_false hk]
    simp (disch := omega) only [↓reduceIte, wlet, Option.bind_some, true_and, and_true, not_true_eq_false, not_false_eq_true, reduceCtorEq, n0_, n1_, n2_, n3_, n4_, n5_, n6_, n7_, n8_, n9_, n10_, n12_, n16_, n18_, n20_, n21_, n22_, n24_, n25_, n26_, n27_, n28_, n29_, n30_, n31_, n32_, n40_, n41_, n42_, n43_, n45_, n48_, n54_, n57_, n58_, n59_, n60_, n61_, n63_, n96_, n97_, n99_, n100_, n122_, n126_, n200_, n255_, n375_, n400_, n1000_, n2000_, n9999_, n5764801_, n1000000_, n3000_, m1, m2, le_t, le_f, lt_t, lt_f, eq_t, eq_f, no_lt, no_le, le_no, lt_no, eq_no, no_eq, add_no, wib_t, clamp, nI_add, pk_mul, pk_sub, nor_, nand_, ndif_, shl_, sh1_, shr_, tbn, tb0, tb1, les_t, les_f, pk_div, rem_, remv, and31, wu1, wuc, wui, wu2, ws1, wsc, ws2, wv1, n11_, n13_, n14_, n15_, n17_, n19_, n23_, n56_, n64_, fX7_isNumber, s2]
theorem c_isEnd (hs : SC h T b f) : fX7_isAtEnd h = some (decide (gTk T b = 0)) := by
  obtain ⟨-, -, hb, s2, -⟩ := hs
  have hk0 := gTk_0 hb
  by_cases hk : gTk T b = 0
  · rw [decide_eq_true hk]
    simp (disch := omega) only [↓reduceIte, wlet, Option.bind_some, true_and, and_true, not_true_eq_false, not_false_eq_true, reduceCtorEq, n0_, n1_, n2_, n3_, n4_, n5_, n6_, n7_, n8_, n9_, n10_, n12_, n16_, n18_, n20_, n21_, n22_, n24_, n25_, n26_, n27_, n28_, n29_, n30_, n31_, n32_, n40_, n41_, n42_, n43_, n45_, n48_, n54_, n57_, n58_, n59_, n60_, n61_, n63_, n96_, n97_, n99_, n100_, n122_, n126_, n200_, n255_, n375_, n400_, n1000_, n2000_, n9999_, n5764801_, n1000000_, n3000_, m1, m2, le_t, le_f, lt_t, lt_f, eq_t, eq_f, no_lt, no_le, le_no, lt_no, eq_no, no_eq, add_no, wib_t, clamp, nI_add, pk_mul, pk_sub, nor_, nand_, ndif_, shl_, sh1_, shr_, tbn, tb0, tb1, les_t, les_f, pk_div, rem_, remv, and31, wu1, wuc, wui, wu2, ws1, wsc, ws2, wv1, n11_, n13_, n14_, n15_, n17_, n19_, n23_, n56_, n64_, fX7_isAtEnd, s2, hk]
  · rw [decide_eq_false hk]
    simp (disch := omega) only [↓reduceIte, wlet, Option.bind_some, true_and, and_true, not_true_eq_false, not_false_eq_true, reduceCtorEq, n0_, n1_, n2_, n3_, n4_, n5_, n6_, n7_, n8_, n9_, n10_, n12_, n16_, n18_, n20_, n21_, n22_, n24_, n25_, n26_, n27_, n28_, n29_, n30_, n31_, n32_, n40_, n41_, n42_, n43_, n45_, n48_, n54_, n57_, n58_, n59_, n60_, n61_, n63_, n96_, n97_, n99_, n100_, n122_, n126_, n200_, n255_, n375_, n400_, n1000_, n2000_, n9999_, n5764801_, n1000000_, n3000_, m1, m2, le_t, le_f, lt_t, lt_f, eq_t, eq_f, no_lt, no_le, le_no, lt_no, eq_no, no_eq, add_no, wib_t, clamp, nI_add, pk_mul, pk_sub, nor_, nand_, ndif_, shl_, sh1_, shr_, tbn, tb0, tb1, les_t, les_f, pk_div, rem_, remv, and31, wu1, wuc, wui, wu2, ws1, wsc, ws2, wv1, n11_, n13_, n14_, n15_, n17_, n19_, n23_, n56_, n64_, fX7_isAtEnd, s2]
theorem c_isSound (hs : SC h T b f) : fX7_isSound h = some (decide (f = 0)) := by
  have s7 := hs.2.2.2.2.2.2.1
  have hl := hs.2.2.2.2.2.2.2.1
  by_cases hk : f = 0
  · rw [decide_eq_true hk]
    simp (disch := omega) only [↓reduceIte, wlet, Option.bind_some, true_and, and_true, not_true_eq_false, not_false_eq_true, reduceCtorEq, n0_, n1_, n2_, n3_, n4_, n5_, n6_, n7_, n8_, n9_, n10_, n12_, n16_, n18_, n20_, n21_, n22_, n24_, n25_, n26_, n27_, n28_, n29_, n30_, n31_, n32_, n40_, n41_, n42_, n43_, n45_, n48_, n54_, n57_, n58_, n59_, n60_, n61_, n63_, n96_, n97_, n99_, n100_, n122_, n126_, n200_, n255_, n375_, n400_, n1000_, n2000_, n9999_, n5764801_, n1000000_, n3000_, m1, m2, le_t, le_f, lt_t, lt_f, eq_t, eq_f, no_lt, no_le, le_no, lt_no, eq_no, no_eq, add_no, wib_t, clamp, nI_add, pk_mul, pk_sub, nor_, nand_, ndif_, shl_, sh1_, shr_, tbn, tb0, tb1, les_t, les_f, pk_div, rem_, remv, and31, wu1, wuc, wui, wu2, ws1, wsc, ws2, wv1, n11_, n13_, n14_, n15_, n17_, n19_, n23_, n56_, n64_, fX7_isSound, s7, hk]
  · rw [decide_eq_false hk]
    simp (disch := omega) only [↓reduceIte, wlet, Option.bind_some, true_and, and_true, not_true_eq_false, not_false_eq_true, reduceCtorEq, n0_, n1_, n2_, n3_, n4_, n5_, n6_, n7_, n8_, n9_, n10_, n12_, n16_, n18_, n20_, n21_, n22_, n24_, n25_, n26_, n27_, n28_, n29_, n30_, n31_, n32_, n40_, n41_, n42_, n43_, n45_, n48_, n54_, n57_, n58_, n59_, n60_, n61_, n63_, n96_, n97_, n99_, n100_, n122_, n126_, n200_, n255_, n375_, n400_, n1000_, n2000_, n9999_, n5764801_, n1000000_, n3000_, m1, m2, le_t, le_f, lt_t, lt_f, eq_t, eq_f, no_lt, no_le, le_no, lt_no, eq_no, no_eq, add_no, wib_t, clamp, nI_add, pk_mul, pk_sub, nor_, nand_, ndif_, shl_, sh1_, shr_, tbn, tb0, tb1, les_t, les_f, pk_div, rem_, remv, and31, wu1, wuc, wui, wu2, ws1, wsc, ws2, wv1, n11_, n13_, n14_, n15_, n17_, n19_, n23_, n56_, n64_, fX7_isSound, s7]
theorem c_nxt {s : Nat × Nat} (hs : SCs h T s) : ∃ g, fX7_next h = some g ∧ SCs g T (nx T s) ∧ fr s1 h g := by
  obtain ⟨b, f⟩ := s
  have hs : SC h T b f := hs
  unfold nx
  by_cases hf : f = 0
  · subst hf
    rw [if_pos rfl]
    exact c_next hs
  · rw [if_neg hf]
    exact ⟨h, c_nextF hs hf, hs, fr_rf⟩
theorem c_fl {s : Nat × Nat} (hs : SCs h T s) {k : Nat} (hk : 1 ≤ k) (hk2 : k < 16) : ∃ g, fX7_fail h (nI k) = some g ∧ SCs g T (fl T k s) ∧ fr s1 h g := by
  obtain ⟨b, f⟩ := s
  have hs : SC h T b f := hs
  obtain ⟨tc, hW, hb, s2, s3, s4, s7, s8, s9, s10⟩ := id hs
  obtain ⟨p1, p2⟩ := gPl_b hb
  have w0 := hW.1
  unfold fl
  by_cases hf : f = 0
  · subst hf
    rw [if_pos rfl]
    refine ⟨wuI h 1 7 (nI (k + 16 * gPl T b)), ?_, ⟨⟨by rw [wui (by omega)]; exact tc.1, fun i hi => by rw [wuc (by omega)]; exact tc.2 i hi⟩, hW, hb, by rw [wui (by omega)]; exact s2, by rw [wui (by omega)]; exact s3, by rw [wui (by omega)]; exact s4, wu1, by show k + 16 * gPl T b < 100000; omega, fun q => by rw [wui (by omega)]; exact s9 q, s10⟩, fr_wuI rfl⟩
    simp (disch := omega) only [↓reduceIte, wlet, Option.bind_some, true_and, and_true, not_true_eq_false, not_false_eq_true, reduceCtorEq, n0_, n1_, n2_, n3_, n4_, n5_, n6_, n7_, n8_, n9_, n10_, n12_, n16_, n18_, n20_, n21_, n22_, n24_, n25_, n26_, n27_, n28_, n29_, n30_, n31_, n32_, n40_, n41_, n42_, n43_, n45_, n48_, n54_, n57_, n58_, n59_, n60_, n61_, n63_, n96_, n97_, n99_, n100_, n122_, n126_, n200_, n255_, n375_, n400_, n1000_, n2000_, n9999_, n5764801_, n1000000_, n3000_, m1, m2, le_t, le_f, lt_t, lt_f, eq_t, eq_f, no_lt, no_le, le_no, lt_no, eq_no, no_eq, add_no, wib_t, clamp, nI_add, pk_mul, pk_sub, nor_, nand_, ndif_, shl_, sh1_, shr_, tbn, tb0, tb1, les_t, les_f, pk_div, rem_, remv, and31, wu1, wuc, wui, wu2, ws1, wsc, ws2, wv1, n11_, n13_, n14_, n15_, n17_, n19_, n23_, n56_, n64_, fX7_fail, s7, s3]
  · rw [if_neg hf]
    refine ⟨h, ?_, hs, fr_rf⟩
    simp (disch := omega) only [↓reduceIte, wlet, Option.bind_some, true_and, and_true, not_true_eq_false, not_false_eq_true, reduceCtorEq, n0_, n1_, n2_, n3_, n4_, n5_, n6_, n7_, n8_, n9_, n10_, n12_, n16_, n18_, n20_, n21_, n22_, n24_, n25_, n26_, n27_, n28_, n29_, n30_, n31_, n32_, n40_, n41_, n42_, n43_, n45_, n48_, n54_, n57_, n58_, n59_, n60_, n61_, n63_, n96_, n97_, n99_, n100_, n122_, n126_, n200_, n255_, n375_, n400_, n1000_, n2000_, n9999_, n5764801_, n1000000_, n3000_, m1, m2, le_t, le_f, lt_t, lt_f, eq_t, eq_f, no_lt, no_le, le_no, lt_no, eq_no, no_eq, add_no, wib_t, clamp, nI_add, pk_mul, pk_sub, nor_, nand_, ndif_, shl_, sh1_, shr_, tbn, tb0, tb1, les_t, les_f, pk_div, rem_, remv, and31, wu1, wuc, wui, wu2, ws1, wsc, ws2, wv1, n11_, n13_, n14_, n15_, n17_, n19_, n23_, n56_, n64_, fX7_fail, s7]
theorem c_takeSign {s : Nat × Nat} (hs : SCs h T s) {x : Nat} (hx : x < 128) : ∃ g, fX7_takeSign h (nI x) = some g ∧ SCs g T (if gIg T s.1 x then nx T s else fl T 1 s) ∧ fr s1 h g := by
  have e1 := c_isSign hs hx
  cases hq : gIg T s.1 x with
  | true =>
    obtain ⟨g, e2, s2, f2⟩ := c_nxt hs
    rw [hq] at e1
    rw [if_pos rfl]
    refine ⟨g, ?_, s2, f2⟩
    simp (disch := omega) only [↓reduceIte, wlet, Option.bind_some, true_and, and_true, not_true_eq_false, not_false_eq_true, reduceCtorEq, n0_, n1_, n2_, n3_, n4_, n5_, n6_, n7_, n8_, n9_, n10_, n12_, n16_, n18_, n20_, n21_, n22_, n24_, n25_, n26_, n27_, n28_, n29_, n30_, n31_, n32_, n40_, n41_, n42_, n43_, n45_, n48_, n54_, n57_, n58_, n59_, n60_, n61_, n63_, n96_, n97_, n99_, n100_, n122_, n126_, n200_, n255_, n375_, n400_, n1000_, n2000_, n9999_, n5764801_, n1000000_, n3000_, m1, m2, le_t, le_f, lt_t, lt_f, eq_t, eq_f, no_lt, no_le, le_no, lt_no, eq_no, no_eq, add_no, wib_t, clamp, nI_add, pk_mul, pk_sub, nor_, nand_, ndif_, shl_, sh1_, shr_, tbn, tb0, tb1, les_t, les_f, pk_div, rem_, remv, and31, wu1, wuc, wui, wu2, ws1, wsc, ws2, wv1, n11_, n13_, n14_, n15_, n17_, n19_, n23_, n56_, n64_, fX7_takeSign, e1, e2]
  | false =>
    obtain ⟨g, e2, s2, f2⟩ := c_fl hs (k := 1) (by omega) (by omega)
    rw [hq] at e1
    rw [if_neg (by decide)]
    refine ⟨g, ?_, s2, f2⟩
    simp (disch := omega) only [↓reduceIte, wlet, Option.bind_some, true_and, and_true, not_true_eq_false, not_false_eq_true, reduceCtorEq, n0_, n1_, n2_, n3_, n4_, n5_, n6_, n7_, n8_, n9_, n10_, n12_, n16_, n18_, n20_, n21_, n22_, n24_, n25_, n26_, n27_, n28_, n29_, n30_, n31_, n32_, n40_, n41_, n42_, n43_, n45_, n48_, n54_, n57_, n58_, n59_, n60_, n61_, n63_, n96_, n97_, n99_, n100_, n122_, n126_, n200_, n255_, n375_, n400_, n1000_, n2000_, n9999_, n5764801_, n1000000_, n3000_, m1, m2, le_t, le_f, lt_t, lt_f, eq_t, eq_f, no_lt, no_le, le_no, lt_no, eq_no, no_eq, add_no, wib_t, clamp, nI_add, pk_mul, pk_sub, nor_, nand_, ndif_, shl_, sh1_, shr_, tbn, tb0, tb1, les_t, les_f, pk_div, rem_, remv, and31, wu1, wuc, wui, wu2, ws1, wsc, ws2, wv1, n11_, n13_, n14_, n15_, n17_, n19_, n23_, n56_, n64_, fX7_takeSign, e1, e2, Option.isSome_none, Option.isSome_some, Bool.false_eq_true]
theorem c_takeWord {s : Nat × Nat} (hs : SCs h T s) {i : Nat} (h1 : 1 ≤ i) (hi : i < 25) : ∃ g, fX7_takeWord h i = some g ∧ SCs g T (if gIs T s.1 i then nx T s else fl T 1 s) ∧ fr s1 h g := by
  have e1 := c_isWord hs h1 hi
  cases hq : gIs T s.1 i with
  | true =>
    obtain ⟨g, e2, s2, f2⟩ := c_nxt hs
    rw [hq] at e1
    rw [if_pos rfl]
    refine ⟨g, ?_, s2, f2⟩
    simp (disch := omega) only [↓reduceIte, wlet, Option.bind_some, true_and, and_true, not_true_eq_false, not_false_eq_true, reduceCtorEq, n0_, n1_, n2_, n3_, n4_, n5_, n6_, n7_, n8_, n9_, n10_, n12_, n16_, n18_, n20_, n21_, n22_, n24_, n25_, n26_, n27_, n28_, n29_, n30_, n31_, n32_, n40_, n41_, n42_, n43_, n45_, n48_, n54_, n57_, n58_, n59_, n60_, n61_, n63_, n96_, n97_, n99_, n100_, n122_, n126_, n200_, n255_, n375_, n400_, n1000_, n2000_, n9999_, n5764801_, n1000000_, n3000_, m1, m2, le_t, le_f, lt_t, lt_f, eq_t, eq_f, no_lt, no_le, le_no, lt_no, eq_no, no_eq, add_no, wib_t, clamp, nI_add, pk_mul, pk_sub, nor_, nand_, ndif_, shl_, sh1_, shr_, tbn, tb0, tb1, les_t, les_f, pk_div, rem_, remv, and31, wu1, wuc, wui, wu2, ws1, wsc, ws2, wv1, n11_, n13_, n14_, n15_, n17_, n19_, n23_, n56_, n64_, fX7_takeWord, e1, e2]
  | false =>
    obtain ⟨g, e2, s2, f2⟩ := c_fl hs (k := 1) (by omega) (by omega)
    rw [hq] at e1
    rw [if_neg (by decide)]
    refine ⟨g, ?_, s2, f2⟩
    simp (disch := omega) only [↓reduceIte, wlet, Option.bind_some, true_and, and_true, not_true_eq_false, not_false_eq_true, reduceCtorEq, n0_, n1_, n2_, n3_, n4_, n5_, n6_, n7_, n8_, n9_, n10_, n12_, n16_, n18_, n20_, n21_, n22_, n24_, n25_, n26_, n27_, n28_, n29_, n30_, n31_, n32_, n40_, n41_, n42_, n43_, n45_, n48_, n54_, n57_, n58_, n59_, n60_, n61_, n63_, n96_, n97_, n99_, n100_, n122_, n126_, n200_, n255_, n375_, n400_, n1000_, n2000_, n9999_, n5764801_, n1000000_, n3000_, m1, m2, le_t, le_f, lt_t, lt_f, eq_t, eq_f, no_lt, no_le, le_no, lt_no, eq_no, no_eq, add_no, wib_t, clamp, nI_add, pk_mul, pk_sub, nor_, nand_, ndif_, shl_, sh1_, shr_, tbn, tb0, tb1, les_t, les_f, pk_div, rem_, remv, and31, wu1, wuc, wui, wu2, ws1, wsc, ws2, wv1, n11_, n13_, n14_, n15_, n17_, n19_, n23_, n56_, n64_, fX7_takeWord, e1, e2, Option.isSome_none, Option.isSome_some, Bool.false_eq_true]
/-- a number within bounds -/
def gNw (T : gTp) (lo hi : Nat) (s : Nat × Nat) : Nat × Nat := if gTk T s.1 = 2 then (if lo ≤ gTn T s.1 ∧ gTn T s.1 ≤ hi then s else fl T 4 s) else fl T 1 s
theorem c_within {s : Nat × Nat} (hs : SCs h T s) {lo hi : Nat} (hl : lo < 1000) (hh : hi < 1000) : ∃ g, fX7_isNumberWithin h (nI lo) (nI hi) = some (decide ((gNw T lo hi s).2 = 0), g) ∧ SCs g T (gNw T lo hi s) ∧ fr s1 h g := by
  obtain ⟨-, hW, hb, s2, s3, s4, s7, s8, s9, s10⟩ := id hs
  have hk0 := gTk_0 hb
  have fin : ∀ {g : wSt} {s2 : Nat × Nat}, SCs g T s2 → fX7_isNumberWithin_b37 g = some (decide (s2.2 = 0), g) := by
    intro g s2 hg
    have g7 := hg.2.2.2.2.2.2.1
    have g8 := hg.2.2.2.2.2.2.2.1
    by_cases hq : s2.2 = 0
    · rw [decide_eq_true hq]
      simp (disch := omega) only [↓reduceIte, wlet, Option.bind_some, true_and, and_true, not_true_eq_false, not_false_eq_true, reduceCtorEq, n0_, n1_, n2_, n3_, n4_, n5_, n6_, n7_, n8_, n9_, n10_, n12_, n16_, n18_, n20_, n21_, n22_, n24_, n25_, n26_, n27_, n28_, n29_, n30_, n31_, n32_, n40_, n41_, n42_, n43_, n45_, n48_, n54_, n57_, n58_, n59_, n60_, n61_, n63_, n96_, n97_, n99_, n100_, n122_, n126_, n200_, n255_, n375_, n400_, n1000_, n2000_, n9999_, n5764801_, n1000000_, n3000_, m1, m2, le_t, le_f, lt_t, lt_f, eq_t, eq_f, no_lt, no_le, le_no, lt_no, eq_no, no_eq, add_no, wib_t, clamp, nI_add, pk_mul, pk_sub, nor_, nand_, ndif_, shl_, sh1_, shr_, tbn, tb0, tb1, les_t, les_f, pk_div, rem_, remv, and31, wu1, wuc, wui, wu2, ws1, wsc, ws2, wv1, n11_, n13_, n14_, n15_, n17_, n19_, n23_, n56_, n64_, fX7_isNumberWithin_b37, g7, hq]
    · rw [decide_eq_false hq]
      simp (disch := omega) only [↓reduceIte, wlet, Option.bind_some, true_and, and_true, not_true_eq_false, not_false_eq_true, reduceCtorEq, n0_, n1_, n2_, n3_, n4_, n5_, n6_, n7_, n8_, n9_, n10_, n12_, n16_, n18_, n20_, n21_, n22_, n24_, n25_, n26_, n27_, n28_, n29_, n30_, n31_, n32_, n40_, n41_, n42_, n43_, n45_, n48_, n54_, n57_, n58_, n59_, n60_, n61_, n63_, n96_, n97_, n99_, n100_, n122_, n126_, n200_, n255_, n375_, n400_, n1000_, n2000_, n9999_, n5764801_, n1000000_, n3000_, m1, m2, le_t, le_f, lt_t, lt_f, eq_t, eq_f, no_lt, no_le, le_no, lt_no, eq_no, no_eq, add_no, wib_t, clamp, nI_add, pk_mul, pk_sub, nor_, nand_, ndif_, shl_, sh1_, shr_, tbn, tb0, tb1, les_t, les_f, pk_div, rem_, remv, and31, wu1, wuc, wui, wu2, ws1, wsc, ws2, wv1, n11_, n13_, n14_, n15_, n17_, n19_, n23_, n56_, n64_, fX7_isNumberWithin_b37, g7]
  unfold gNw
  by_cases hk : gTk T s.1 = 2
  · have s9 := s9 hk
    obtain ⟨-, -, hn⟩ := gTk_2 hb hk
    rw [if_pos hk]
    by_cases hq : lo ≤ gTn T s.1 ∧ gTn T s.1 ≤ hi
    · rw [if_pos hq]
      have e3 := fin hs
      refine ⟨h, ?_, hs, fr_rf⟩
      simp (disch := omega) only [↓reduceIte, wlet, Option.bind_some, true_and, and_true, not_true_eq_false, not_false_eq_true, reduceCtorEq, n0_, n1_, n2_, n3_, n4_, n5_, n6_, n7_, n8_, n9_, n10_, n12_, n16_, n18_, n20_, n21_, n22_, n24_, n25_, n26_, n27_, n28_, n29_, n30_, n31_, n32_, n40_, n41_, n42_, n43_, n45_, n48_, n54_, n57_, n58_, n59_, n60_, n61_, n63_, n96_, n97_, n99_, n100_, n122_, n126_, n200_, n255_, n375_, n400_, n1000_, n2000_, n9999_, n5764801_, n1000000_, n3000_, m1, m2, le_t, le_f, lt_t, lt_f, eq_t, eq_f, no_lt, no_le, le_no, lt_no, eq_no, no_eq, add_no, wib_t, clamp, nI_add, pk_mul, pk_sub, nor_, nand_, ndif_, shl_, sh1_, shr_, tbn, tb0, tb1, les_t, les_f, pk_div, rem_, remv, and31, wu1, wuc, wui, wu2, ws1, wsc, ws2, wv1, n11_, n13_, n14_, n15_, n17_, n19_, n23_, n56_, n64_, fX7_isNumberWithin, s2, hk, s9, e3]
    · rw [if_neg hq]
      obtain ⟨g, e2, s2', f2⟩ := c_fl hs (k := 4) (by omega) (by omega)
      have e3 := fin s2'
      refine ⟨g, ?_, s2', f2⟩
      by_cases hq2 : gTn T s.1 < lo
      · simp (disch := omega) only [↓reduceIte, wlet, Option.bind_some, true_and, and_true, not_true_eq_false, not_false_eq_true, reduceCtorEq, n0_, n1_, n2_, n3_, n4_, n5_, n6_, n7_, n8_, n9_, n10_, n12_, n16_, n18_, n20_, n21_, n22_, n24_, n25_, n26_, n27_, n28_, n29_, n30_, n31_, n32_, n40_, n41_, n42_, n43_, n45_, n48_, n54_, n57_, n58_, n59_, n60_, n61_, n63_, n96_, n97_, n99_, n100_, n122_, n126_, n200_, n255_, n375_, n400_, n1000_, n2000_, n9999_, n5764801_, n1000000_, n3000_, m1, m2, le_t, le_f, lt_t, lt_f, eq_t, eq_f, no_lt, no_le, le_no, lt_no, eq_no, no_eq, add_no, wib_t, clamp, nI_add, pk_mul, pk_sub, nor_, nand_, ndif_, shl_, sh1_, shr_, tbn, tb0, tb1, les_t, les_f, pk_div, rem_, remv, and31, wu1, wuc, wui, wu2, ws1, wsc, ws2, wv1, n11_, n13_, n14_, n15_, n17_, n19_, n23_, n56_, n64_, fX7_isNumberWithin, fX7_isNumberWithin_b32, s2, hk, s9, e2, e3]
      · simp (disch := omega) only [↓reduceIte, wlet, Option.bind_some, true_and, and_true, not_true_eq_false, not_false_eq_true, reduceCtorEq, n0_, n1_, n2_, n3_, n4_, n5_, n6_, n7_, n8_, n9_, n10_, n12_, n16_, n18_, n20_, n21_, n22_, n24_, n25_, n26_, n27_, n28_, n29_, n30_, n31_, n32_, n40_, n41_, n42_, n43_, n45_, n48_, n54_, n57_, n58_, n59_, n60_, n61_, n63_, n96_, n97_, n99_, n100_, n122_, n126_, n200_, n255_, n375_, n400_, n1000_, n2000_, n9999_, n5764801_, n1000000_, n3000_, m1, m2, le_t, le_f, lt_t, lt_f, eq_t, eq_f, no_lt, no_le, le_no, lt_no, eq_no, no_eq, add_no, wib_t, clamp, nI_add, pk_mul, pk_sub, nor_, nand_, ndif_, shl_, sh1_, shr_, tbn, tb0, tb1, les_t, les_f, pk_div, rem_, remv, and31, wu1, wuc, wui, wu2, ws1, wsc, ws2, wv1, n11_, n13_, n14_, n15_, n17_, n19_, n23_, n56_, n64_, fX7_isNumberWithin, fX7_isNumberWithin_b32, s2, hk, s9, e2, e3]
  · rw [if_neg hk]
    obtain ⟨g, e2, s2', f2⟩ := c_fl hs (k := 1) (by omega) (by omega)
    have e3 := fin s2'
    refine ⟨g, ?_, s2', f2⟩
    simp (disch := omega) only [↓reduceIte, wlet, Option.bind_some, true_and, and_true, not_true_eq_false, not_false_eq_true, reduceCtorEq, n0_, n1_, n2_, n3_, n4_, n5_, n6_, n7_, n8_, n9_, n10_, n12_, n16_, n18_, n20_, n21_, n22_, n24_, n25_, n26_, n27_, n28_, n29_, n30_, n31_, n32_, n40_, n41_, n42_, n43_, n45_, n48_, n54_, n57_, n58_, n59_, n60_, n61_, n63_, n96_, n97_, n99_, n100_, n122_, n126_, n200_, n255_, n375_, n400_, n1000_, n2000_, n9999_, n5764801_, n1000000_, n3000_, m1, m2, le_t, le_f, lt_t, lt_f, eq_t, eq_f, no_lt, no_le, le_no, lt_no, eq_no, no_eq, add_no, wib_t, clamp, nI_add, pk_mul, pk_sub, nor_, nand_, ndif_, shl_, sh1_, shr_, tbn, tb0, tb1, les_t, les_f, pk_div, rem_, remv, and31, wu1, wuc, wui, wu2, ws1, wsc, ws2, wv1, n11_, n13_, n14_, n15_, n17_, n19_, n23_, n56_, n64_, fX7_isNumberWithin, s2, e2, e3]
theorem c_takeNumber {s : Nat × Nat} (hs : SCs h T s) {lo hi : Nat} (hl : lo < 1000) (hh : hi < 1000) : ∃ g, fX7_takeNumber h (nI lo) (nI hi) = some (h.1 1 5, g) ∧ SCs g T (nx T (gNw T lo hi s)) ∧ fr s1 h g := by
  obtain ⟨g, e1, s1', f1⟩ := c_within hs hl hh
  by_cases hq : (gNw T lo hi s).2 = 0
  · rw [decide_eq_true hq] at e1
    obtain ⟨g2, e2, s2, f2⟩ := c_nxt s1'
    refine ⟨g2, ?_, s2, fr_tr f1 f2⟩
    simp (disch := omega) only [↓reduceIte, wlet, Option.bind_some, true_and, and_true, not_true_eq_false, not_false_eq_true, reduceCtorEq, n0_, n1_, n2_, n3_, n4_, n5_, n6_, n7_, n8_, n9_, n10_, n12_, n16_, n18_, n20_, n21_, n22_, n24_, n25_, n26_, n27_, n28_, n29_, n30_, n31_, n32_, n40_, n41_, n42_, n43_, n45_, n48_, n54_, n57_, n58_, n59_, n60_, n61_, n63_, n96_, n97_, n99_, n100_, n122_, n126_, n200_, n255_, n375_, n400_, n1000_, n2000_, n9999_, n5764801_, n1000000_, n3000_, m1, m2, le_t, le_f, lt_t, lt_f, eq_t, eq_f, no_lt, no_le, le_no, lt_no, eq_no, no_eq, add_no, wib_t, clamp, nI_add, pk_mul, pk_sub, nor_, nand_, ndif_, shl_, sh1_, shr_, tbn, tb0, tb1, les_t, les_f, pk_div, rem_, remv, and31, wu1, wuc, wui, wu2, ws1, wsc, ws2, wv1, n11_, n13_, n14_, n15_, n17_, n19_, n23_, n56_, n64_, fX7_takeNumber, e1, e2]
  · rw [decide_eq_false hq] at e1
    have e : nx T (gNw T lo hi s) = gNw T lo hi s := by unfold nx; rw [if_neg hq]
    rw [e]
    refine ⟨g, ?_, s1', f1⟩
    simp (disch := omega) only [↓reduceIte, wlet, Option.bind_some, true_and, and_true, not_true_eq_false, not_false_eq_true, reduceCtorEq, n0_, n1_, n2_, n3_, n4_, n5_, n6_, n7_, n8_, n9_, n10_, n12_, n16_, n18_, n20_, n21_, n22_, n24_, n25_, n26_, n27_, n28_, n29_, n30_, n31_, n32_, n40_, n41_, n42_, n43_, n45_, n48_, n54_, n57_, n58_, n59_, n60_, n61_, n63_, n96_, n97_, n99_, n100_, n122_, n126_, n200_, n255_, n375_, n400_, n1000_, n2000_, n9999_, n5764801_, n1000000_, n3000_, m1, m2, le_t, le_f, lt_t, lt_f, eq_t, eq_f, no_lt, no_le, le_no, lt_no, eq_no, no_eq, add_no, wib_t, clamp, nI_add, pk_mul, pk_sub, nor_, nand_, ndif_, shl_, sh1_, shr_, tbn, tb0, tb1, les_t, les_f, pk_div, rem_, remv, and31, wu1, wuc, wui, wu2, ws1, wsc, ws2, wv1, n11_, n13_, n14_, n15_, n17_, n19_, n23_, n56_, n64_, fX7_takeNumber, e1, Option.isSome_none, Option.isSome_some, Bool.false_eq_true]
end G59

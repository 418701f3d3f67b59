/-! TOKENS -/
def gSp (s : Nat) : Bool := decide (s = 10) || decide (s = 32)
def gLe (s : Nat) : Bool := decide (97 ≤ s) && decide (s ≤ 122)
def gDi (s : Nat) : Bool := decide (48 ≤ s) && decide (s ≤ 57)
def gSg (s : Nat) : Bool := (decide (40 ≤ s) && decide (s ≤ 43)) || (decide (s = 45) || (decide (59 ≤ s) && decide (s ≤ 61)))
def gEnd (P : Nat → Bool) (T : gTp) : Nat → Nat → Nat
  | 0, i => i
  | k + 1, i => if P (T.2 i) then gEnd P T k (i + 1) else i
def gE (P : Nat → Bool) (T : gTp) (i : Nat) : Nat := gEnd P T (T.1 - i) i
theorem gEnd_b {P : Nat → Bool} {T : gTp} : ∀ {k i : Nat}, i ≤ gEnd P T k i ∧ gEnd P T k i ≤ i + k ∧ (∀ j, i ≤ j → j < gEnd P T k i → P (T.2 j) = true) ∧ (gEnd P T k i < i + k → P (T.2 (gEnd P T k i)) = false)
  | 0, i => ⟨Nat.le_refl _, Nat.le_refl _, fun j h1 h2 => absurd (Nat.lt_of_le_of_lt h1 h2) (Nat.lt_irrefl _), fun h => absurd h (Nat.lt_irrefl _)⟩
  | k + 1, i => by
    rw [gEnd]
    cases hp : P (T.2 i) with
    | true =>
      rw [if_pos rfl]
      obtain ⟨h1, h2, h3, h4⟩ := gEnd_b (P := P) (T := T) (k := k) (i := i + 1)
      refine ⟨by omega, by omega, fun j q1 q2 => ?_, fun q => h4 (by omega)⟩
      by_cases e : j = i
      · rw [e]; exact hp
      · exact h3 j (by omega) q2
    | false =>
      rw [if_neg (by decide)]
      exact ⟨Nat.le_refl _, by omega, fun j h1 h2 => absurd (Nat.lt_of_le_of_lt h1 h2) (Nat.lt_irrefl _), fun _ => hp⟩
theorem gE_b (P : Nat → Bool) {T : gTp} {i : Nat} (hi : i ≤ T.1) : i ≤ gE P T i ∧ gE P T i ≤ T.1 ∧ (∀ j, i ≤ j → j < gE P T i → P (T.2 j) = true) ∧ (gE P T i < T.1 → P (T.2 (gE P T i)) = false) := by
  obtain ⟨h1, h2, h3, h4⟩ := gEnd_b (P := P) (T := T) (k := T.1 - i) (i := i)
  exact ⟨h1, by unfold gE; omega, h3, fun h => h4 (by unfold gE at h; omega)⟩
def gPl (T : gTp) (b : Nat) : Nat := gE gSp T b
/-- where a token ends, and what it is -/
def gTe (T : gTp) (b : Nat) : Nat := if gPl T b = T.1 then T.1 else if gLe (T.2 (gPl T b)) then gE gLe T (gPl T b) else if gDi (T.2 (gPl T b)) then gE gDi T (gPl T b) else gPl T b + 1
def gTk (T : gTp) (b : Nat) : Nat := if gPl T b = T.1 then 0 else if gLe (T.2 (gPl T b)) then (if gTe T b - gPl T b ≤ 8 then 1 else 4) else if gDi (T.2 (gPl T b)) then (if gTe T b - gPl T b ≤ 4 then 2 else 4) else if gSg (T.2 (gPl T b)) then 3 else 4
def gWd (T : gTp) (p : Nat) : Nat → List Nat
  | 0 => []
  | n + 1 => gWd T p n ++ [T.2 (p + n) - 96]
def gNm (T : gTp) (p : Nat) : Nat → Nat
  | 0 => 0
  | n + 1 => gNm T p n * 10 + (T.2 (p + n) - 48)
/-- the word, the number at a token -/
def gTw (T : gTp) (b : Nat) : List Nat := gWd T (gPl T b) (gTe T b - gPl T b)
def gTn (T : gTp) (b : Nat) : Nat := gNm T (gPl T b) (gTe T b - gPl T b)
theorem gPl_b {T : gTp} {b : Nat} (hb : b ≤ T.1) : b ≤ gPl T b ∧ gPl T b ≤ T.1 := ⟨(gE_b gSp hb).1, (gE_b gSp hb).2.1⟩
theorem gTe_b {T : gTp} {b : Nat} (hb : b ≤ T.1) : gPl T b ≤ gTe T b ∧ gTe T b ≤ T.1 ∧ (gPl T b < T.1 → gPl T b < gTe T b) := by
  obtain ⟨h1, h2⟩ := gPl_b hb
  unfold gTe
  split
  · omega
  · rename_i q
    split
    · rename_i q2
      obtain ⟨a1, a2, a3, a4⟩ := gE_b gLe (T := T) (i := gPl T b) h2
      refine ⟨a1, a2, fun _ => ?_⟩
      apply Nat.lt_of_le_of_ne a1
      intro e
      have := a4 (by omega)
      rw [← e, q2] at this
      cases this
    · split
      · rename_i q2
        obtain ⟨a1, a2, a3, a4⟩ := gE_b gDi (T := T) (i := gPl T b) h2
        refine ⟨a1, a2, fun _ => ?_⟩
        apply Nat.lt_of_le_of_ne a1
        intro e
        have := a4 (by omega)
        rw [← e, q2] at this
        cases this
      · omega
theorem gWd_len (T : gTp) (p : Nat) : ∀ n, (gWd T p n).length = n
  | 0 => rfl
  | n + 1 => by rw [gWd, List.length_append, gWd_len T p n]; rfl
theorem eN_app (b : Nat) (w : List Nat) (x : Nat) : eN b (w ++ [x]) = eN b w * b + x := by
  unfold eN
  rw [List.foldl_append]
  rfl
theorem eN_lt {b : Nat} : ∀ {n : Nat} {T : gTp} {p : Nat}, (∀ j, j < n → T.2 (p + j) - 96 < b) → eN b (gWd T p n) < b ^ n
  | 0, T, p, h => by show 0 < 1; omega
  | n + 1, T, p, h => by
    have h1 := eN_lt (n := n) (T := T) (p := p) (fun j hj => h j (by omega))
    have h2 := h n (by omega)
    rw [gWd, eN_app, Nat.pow_succ]
    have h3 : eN b (gWd T p n) * b + b ≤ b ^ n * b := by
      have := Nat.mul_le_mul_right b (show eN b (gWd T p n) + 1 ≤ b ^ n by omega)
      rw [Nat.add_mul, Nat.one_mul] at this
      exact this
    omega
theorem gNm_lt {n : Nat} {T : gTp} {p : Nat} (h : ∀ j, j < n → T.2 (p + j) - 48 < 10) : gNm T p n < 10 ^ n := by
  induction n with
  | zero => show 0 < 1; omega
  | succ n ih =>
    have h1 := ih (fun j hj => h j (by omega))
    have h2 := h n (by omega)
    rw [gNm, Nat.pow_succ]
    omega
theorem wuI_2 (h : wSt) (c i : Nat) (x y : Int32) : wuI (wuI h c i x) c i y = wuI h c i y := by
  apply Prod.ext
  · funext a
    show (wuI (wuI h c i x) c i y).1 a = (wuI h c i y).1 a
    by_cases e : a = c
    · subst e
      funext j
      by_cases ej : j = i
      · subst ej
        rw [wu1, wu1]
      · rw [wui ej, wui ej, wui ej]
    · rw [wuc e, wuc e, wuc e]
  · rfl
/-- the tape with a token, on this side; a fault, or 0 -/
def SC (h : wSt) (T : gTp) (b f : Nat) : Prop := TC h T ∧ WT T ∧ b ≤ T.1 ∧ h.1 1 2 = nI (gTk T b) ∧ h.1 1 3 = nI (gPl T b) ∧ h.1 1 4 = nI (gTe T b) ∧ h.1 1 7 = nI f ∧ f < 100000 ∧ (gTk T b = 2 → h.1 1 5 = nI (gTn T b)) ∧ (gTk T b = 1 → h.2 1 6 = lN (eN 32 (gTw T b)))
/-- and on the other -/
def SM (h : wSt) (T : gTp) (b : Nat) : Prop := (h.1 188 3 = nI T.1 ∧ ∀ i, i < T.1 → h.1 189 i = nI (T.2 i)) ∧ WT T ∧ b ≤ T.1 ∧ h.1 188 6 = nI (gTk T b) ∧ h.1 188 5 = nI (gPl T b) ∧ h.1 188 4 = nI (gTe T b) ∧ (gTk T b = 2 → h.1 188 8 = nI (gTn T b)) ∧ (gTk T b = 1 → h.2 188 7 = lN (eN 27 (gTw T b)))
def s1 (c : Nat) : Prop := c = 1
def s188 (c : Nat) : Prop := c = 188
theorem ext_dec : (gSp 0 = false) ∧ ∀ s, s < 127 → ∃ r, fJ0_indexOf_0f7a4 hh0 0 (((nI s).toUInt32 % 65536).toInt32) = some r ∧ (r < 0 ↔ gSg s = false) := by
  refine ⟨rfl, ?_⟩
  intro s hs
  have key : ∀ s, s < 127 → ((fJ0_indexOf_0f7a4 hh0 0 (((nI s).toUInt32 % 65536).toInt32)).isSome = true ∧ ∀ r ∈ fJ0_indexOf_0f7a4 hh0 0 (((nI s).toUInt32 % 65536).toInt32), (r < 0 ↔ gSg s = false)) := by decide +kernel
  obtain ⟨k1, k2⟩ := key s hs
  obtain ⟨r, hr⟩ := Option.isSome_iff_exists.mp k1
  exact ⟨r, hr, k2 r hr⟩
section G57
variable {h : wSt} {T : gTp} {b : Nat}
theorem c_skip (hT : TC h T) (hW : WT T) (hb : b ≤ T.1) : wit (fun v : wSt => fX7_next_l16 v) 3000 (wuI h 1 3 (nI b)) = some (wuI h 1 3 (nI (gPl T b))) := by
  obtain ⟨t0, t1⟩ := hT
  obtain ⟨w0, w1⟩ := hW
  obtain ⟨p1, p2, p3, p4⟩ := gE_b gSp (T := T) hb
  obtain ⟨e, he, ee⟩ := wit_for (b := fun v : wSt => fX7_next_l16 v) (fun _ (u : Unit) => u) (gPl T b - b)
    (fun m _ v => v = wuI h 1 3 (nI (b + m))) (fun _ e => e = wuI h 1 3 (nI (gPl T b)))
    (by
      rintro m _ v hm rfl
      have hm : m < gPl T b - b := hm
      have hs := p3 (b + m) (by omega) (by show b + m < gPl T b; omega)
      have hlt : b + m < T.1 := by have : gPl T b ≤ T.1 := p2; omega
      have hv := w1 _ hlt
      have t2 := t1 _ hlt
      refine ⟨_, ?_, rfl⟩
      rw [← Nat.add_assoc]
      unfold gSp at hs
      simp only [Bool.or_eq_true, decide_eq_true_eq] at hs
      rcases hs with hs | hs
      · simp (disch := omega) only [↓reduceIte, wlet, Option.bind_some, true_and, and_true, not_true_eq_false, not_false_eq_true, reduceCtorEq, n0_, n1_, n2_, n3_, n4_, n5_, n6_, n7_, n8_, n9_, n10_, n12_, n16_, n18_, n20_, n21_, n22_, n24_, n25_, n26_, n27_, n28_, n29_, n30_, n31_, n32_, n40_, n41_, n42_, n43_, n45_, n48_, n54_, n57_, n58_, n59_, n60_, n61_, n63_, n96_, n97_, n99_, n100_, n122_, n126_, n200_, n255_, n375_, n400_, n1000_, n2000_, n9999_, n5764801_, n1000000_, n3000_, m1, m2, le_t, le_f, lt_t, lt_f, eq_t, eq_f, no_lt, no_le, le_no, lt_no, eq_no, no_eq, add_no, wib_t, clamp, nI_add, pk_mul, pk_sub, nor_, nand_, ndif_, shl_, sh1_, shr_, tbn, tb0, tb1, les_t, les_f, pk_div, rem_, remv, and31, wu1, wuc, wui, wu2, ws1, wsc, ws2, wv1, n11_, n13_, n14_, n15_, n17_, n19_, n23_, n56_, n64_, fX7_next_l16, fX7_next_b55_16, t0, t2, hs, wuI_2]
      · simp (disch := omega) only [↓reduceIte, wlet, Option.bind_some, true_and, and_true, not_true_eq_false, not_false_eq_true, reduceCtorEq, n0_, n1_, n2_, n3_, n4_, n5_, n6_, n7_, n8_, n9_, n10_, n12_, n16_, n18_, n20_, n21_, n22_, n24_, n25_, n26_, n27_, n28_, n29_, n30_, n31_, n32_, n40_, n41_, n42_, n43_, n45_, n48_, n54_, n57_, n58_, n59_, n60_, n61_, n63_, n96_, n97_, n99_, n100_, n122_, n126_, n200_, n255_, n375_, n400_, n1000_, n2000_, n9999_, n5764801_, n1000000_, n3000_, m1, m2, le_t, le_f, lt_t, lt_f, eq_t, eq_f, no_lt, no_le, le_no, lt_no, eq_no, no_eq, add_no, wib_t, clamp, nI_add, pk_mul, pk_sub, nor_, nand_, ndif_, shl_, sh1_, shr_, tbn, tb0, tb1, les_t, les_f, pk_div, rem_, remv, and31, wu1, wuc, wui, wu2, ws1, wsc, ws2, wv1, n11_, n13_, n14_, n15_, n17_, n19_, n23_, n56_, n64_, fX7_next_l16, fX7_next_b55_16, t0, t2, hs, wuI_2])
    (by
      rintro _ v rfl
      have e1 : b + (gPl T b - b) = gPl T b := by have : b ≤ gPl T b := p1; omega
      rw [e1]
      refine ⟨_, ?_, rfl⟩
      by_cases hq : gPl T b = T.1
      · have hq2 : T.1 ≤ gPl T b := by omega
        simp (disch := omega) only [↓reduceIte, wlet, Option.bind_some, true_and, and_true, not_true_eq_false, not_false_eq_true, reduceCtorEq, n0_, n1_, n2_, n3_, n4_, n5_, n6_, n7_, n8_, n9_, n10_, n12_, n16_, n18_, n20_, n21_, n22_, n24_, n25_, n26_, n27_, n28_, n29_, n30_, n31_, n32_, n40_, n41_, n42_, n43_, n45_, n48_, n54_, n57_, n58_, n59_, n60_, n61_, n63_, n96_, n97_, n99_, n100_, n122_, n126_, n200_, n255_, n375_, n400_, n1000_, n2000_, n9999_, n5764801_, n1000000_, n3000_, m1, m2, le_t, le_f, lt_t, lt_f, eq_t, eq_f, no_lt, no_le, le_no, lt_no, eq_no, no_eq, add_no, wib_t, clamp, nI_add, pk_mul, pk_sub, nor_, nand_, ndif_, shl_, sh1_, shr_, tbn, tb0, tb1, les_t, les_f, pk_div, rem_, remv, and31, wu1, wuc, wui, wu2, ws1, wsc, ws2, wv1, n11_, n13_, n14_, n15_, n17_, n19_, n23_, n56_, n64_, fX7_next_l16, t0]
      · have hlt : gPl T b < T.1 := by have : gPl T b ≤ T.1 := p2; omega
        have hs := p4 hlt
        have hs : gSp (T.2 (gPl T b)) = false := hs
        have hv := w1 _ hlt
        have t2 := t1 _ hlt
        unfold gSp at hs
        simp only [Bool.or_eq_false_iff, decide_eq_false_iff_not] at hs
        obtain ⟨hs1, hs2⟩ := hs
        simp (disch := omega) only [↓reduceIte, wlet, Option.bind_some, true_and, and_true, not_true_eq_false, not_false_eq_true, reduceCtorEq, n0_, n1_, n2_, n3_, n4_, n5_, n6_, n7_, n8_, n9_, n10_, n12_, n16_, n18_, n20_, n21_, n22_, n24_, n25_, n26_, n27_, n28_, n29_, n30_, n31_, n32_, n40_, n41_, n42_, n43_, n45_, n48_, n54_, n57_, n58_, n59_, n60_, n61_, n63_, n96_, n97_, n99_, n100_, n122_, n126_, n200_, n255_, n375_, n400_, n1000_, n2000_, n9999_, n5764801_, n1000000_, n3000_, m1, m2, le_t, le_f, lt_t, lt_f, eq_t, eq_f, no_lt, no_le, le_no, lt_no, eq_no, no_eq, add_no, wib_t, clamp, nI_add, pk_mul, pk_sub, nor_, nand_, ndif_, shl_, sh1_, shr_, tbn, tb0, tb1, les_t, les_f, pk_div, rem_, remv, and31, wu1, wuc, wui, wu2, ws1, wsc, ws2, wv1, n11_, n13_, n14_, n15_, n17_, n19_, n23_, n56_, n64_, fX7_next_l16, t0, t2])
    (N := 3000) (by have : gPl T b ≤ T.1 := p2; omega) (a0 := ()) (v0 := wuI h 1 3 (nI b)) (by rw [Nat.add_zero])
  rw [he, ee]
theorem c_letters (hT : TC h T) (hW : WT T) {p : Nat} (hp : p < T.1) (hle : gLe (T.2 p) = true) (h3 : h.1 1 3 = nI p) (h4 : h.1 1 4 = nI p) : ∃ g, fX7_takeLetters h = some g ∧ fr s1 h g ∧ g.1 1 1 = h.1 1 1 ∧ g.1 1 3 = nI p ∧ g.1 1 4 = nI (gE gLe T p) ∧ g.1 1 7 = h.1 1 7 ∧ g.1 1 2 = nI (if gE gLe T p - p ≤ 8 then 1 else 4) ∧ (gE gLe T p - p ≤ 8 → g.2 1 6 = lN (eN 32 (gWd T p (gE gLe T p - p)))) := by
  obtain ⟨t0, t1⟩ := hT
  obtain ⟨w0, w1⟩ := hW
  obtain ⟨p1, p2, p3, p4⟩ := gE_b gLe (T := T) (i := p) (by omega)
  have hlet : ∀ j, p ≤ j → j < gE gLe T p → 97 ≤ T.2 j ∧ T.2 j ≤ 122 := fun j q1 q2 => by
    have := p3 j q1 q2
    unfold gLe at this
    simp only [Bool.and_eq_true, decide_eq_true_eq] at this
    exact this
  obtain ⟨e, he, e1, e2, e3, e4, e5, e6⟩ := wit_for (b := fun v : wSt => fX7_takeLetters_l5 v) (fun _ (u : Unit) => u) (gE gLe T p - p)
    (fun m _ v => fr s1 h v ∧ v.1 1 1 = h.1 1 1 ∧ v.1 1 3 = nI p ∧ v.1 1 4 = nI (p + m) ∧ v.1 1 7 = h.1 1 7 ∧ (m ≤ 8 → v.2 1 6 = lN (eN 32 (gWd T p m))))
    (fun _ v => fr s1 h v ∧ v.1 1 1 = h.1 1 1 ∧ v.1 1 3 = nI p ∧ v.1 1 4 = nI (gE gLe T p) ∧ v.1 1 7 = h.1 1 7 ∧ (gE gLe T p - p ≤ 8 → v.2 1 6 = lN (eN 32 (gWd T p (gE gLe T p - p)))))
    (by
      rintro m _ v hm ⟨fv, v1, v3, v4, v7, v6⟩
      have hlt : p + m < T.1 := by omega
      obtain ⟨q1, q2⟩ := hlet (p + m) (by omega) (by omega)
      have t2 : v.1 2 (p + m) = nI (T.2 (p + m)) := by rw [fr_at fv (by unfold s1; omega)]; exact t1 _ hlt
      have v1' : v.1 1 1 = nI T.1 := v1.trans t0
      have e6 : (nI (T.2 (p + m) - 97 + 1)).toInt64 = lN (T.2 (p + m) - 96) := by
        rw [nI_l (by omega)]
        congr 1
        omega
      refine ⟨wuI (wuJ v 1 6 (v.2 1 6 * 32 + lN (T.2 (p + m) - 96))) 1 4 (nI (p + (m + 1))), ?_, fr_tr fv (fr_tr (fr_wuJ rfl) (fr_wuI rfl)), ?_, ?_, wu1, ?_, fun hm8 => ?_⟩
      · simp (disch := omega) only [↓reduceIte, wlet, Option.bind_some, true_and, and_true, not_true_eq_false, not_false_eq_true, reduceCtorEq, n0_, n1_, n2_, n3_, n4_, n5_, n6_, n7_, n8_, n9_, n10_, n12_, n16_, n18_, n20_, n21_, n22_, n24_, n25_, n26_, n27_, n28_, n29_, n30_, n31_, n32_, n40_, n41_, n42_, n43_, n45_, n48_, n54_, n57_, n58_, n59_, n60_, n61_, n63_, n96_, n97_, n99_, n100_, n122_, n126_, n200_, n255_, n375_, n400_, n1000_, n2000_, n9999_, n5764801_, n1000000_, n3000_, m1, m2, le_t, le_f, lt_t, lt_f, eq_t, eq_f, no_lt, no_le, le_no, lt_no, eq_no, no_eq, add_no, wib_t, clamp, nI_add, pk_mul, pk_sub, nor_, nand_, ndif_, shl_, sh1_, shr_, tbn, tb0, tb1, les_t, les_f, pk_div, rem_, remv, and31, wu1, wuc, wui, wu2, ws1, wsc, ws2, wv1, n11_, n13_, n14_, n15_, n17_, n19_, n23_, n56_, n64_, fX7_takeLetters_l5, v1', v4, t2, e6]
        rfl
      · rw [wui (by omega)]; exact v1
      · rw [wui (by omega)]; exact v3
      · rw [wui (by omega)]; exact v7
      · rw [wu2, wv2, v6 (by omega), gWd, eN_app, show (32 : Int64) = lN 32 from rfl, lN_mul, lN_add])
    (by
      rintro _ v ⟨fv, v1, v3, v4, v7, v6⟩
      rw [show p + (gE gLe T p - p) = gE gLe T p by omega] at v4
      have v1' : v.1 1 1 = nI T.1 := v1.trans t0
      refine ⟨v, ?_, fv, v1, v3, v4, v7, v6⟩
      by_cases hq : gE gLe T p = T.1
      · simp (disch := omega) only [↓reduceIte, wlet, Option.bind_some, true_and, and_true, not_true_eq_false, not_false_eq_true, reduceCtorEq, n0_, n1_, n2_, n3_, n4_, n5_, n6_, n7_, n8_, n9_, n10_, n12_, n16_, n18_, n20_, n21_, n22_, n24_, n25_, n26_, n27_, n28_, n29_, n30_, n31_, n32_, n40_, n41_, n42_, n43_, n45_, n48_, n54_, n57_, n58_, n59_, n60_, n61_, n63_, n96_, n97_, n99_, n100_, n122_, n126_, n200_, n255_, n375_, n400_, n1000_, n2000_, n9999_, n5764801_, n1000000_, n3000_, m1, m2, le_t, le_f, lt_t, lt_f, eq_t, eq_f, no_lt, no_le, le_no, lt_no, eq_no, no_eq, add_no, wib_t, clamp, nI_add, pk_mul, pk_sub, nor_, nand_, ndif_, shl_, sh1_, shr_, tbn, tb0, tb1, les_t, les_f, pk_div, rem_, remv, and31, wu1, wuc, wui, wu2, ws1, wsc, ws2, wv1, n11_, n13_, n14_, n15_, n17_, n19_, n23_, n56_, n64_, fX7_takeLetters_l5, v1', v4]
      · have hlt : gE gLe T p < T.1 := by omega
        have t2 : v.1 2 (gE gLe T p) = nI (T.2 (gE gLe T p)) := by rw [fr_at fv (by unfold s1; omega)]; exact t1 _ hlt
        have hv := w1 _ hlt
        have hs := p4 hlt
        unfold gLe at hs
        simp only [Bool.and_eq_false_iff, decide_eq_false_iff_not] at hs
        by_cases hq2 : 97 ≤ T.2 (gE gLe T p)
        · have hq3 : ¬ T.2 (gE gLe T p) ≤ 122 := by rcases hs with q | q; exact absurd hq2 q; exact q
          simp (disch := omega) only [↓reduceIte, wlet, Option.bind_some, true_and, and_true, not_true_eq_false, not_false_eq_true, reduceCtorEq, n0_, n1_, n2_, n3_, n4_, n5_, n6_, n7_, n8_, n9_, n10_, n12_, n16_, n18_, n20_, n21_, n22_, n24_, n25_, n26_, n27_, n28_, n29_, n30_, n31_, n32_, n40_, n41_, n42_, n43_, n45_, n48_, n54_, n57_, n58_, n59_, n60_, n61_, n63_, n96_, n97_, n99_, n100_, n122_, n126_, n200_, n255_, n375_, n400_, n1000_, n2000_, n9999_, n5764801_, n1000000_, n3000_, m1, m2, le_t, le_f, lt_t, lt_f, eq_t, eq_f, no_lt, no_le, le_no, lt_no, eq_no, no_eq, add_no, wib_t, clamp, nI_add, pk_mul, pk_sub, nor_, nand_, ndif_, shl_, sh1_, shr_, tbn, tb0, tb1, les_t, les_f, pk_div, rem_, remv, and31, wu1, wuc, wui, wu2, ws1, wsc, ws2, wv1, n11_, n13_, n14_, n15_, n17_, n19_, n23_, n56_, n64_, fX7_takeLetters_l5, v1', v4, t2]
        · simp (disch := omega) only [↓reduceIte, wlet, Option.bind_some, true_and, and_true, not_true_eq_false, not_false_eq_true, reduceCtorEq, n0_, n1_, n2_, n3_, n4_, n5_, n6_, n7_, n8_, n9_, n10_, n12_, n16_, n18_, n20_, n21_, n22_, n24_, n25_, n26_, n27_, n28_, n29_, n30_, n31_, n32_, n40_, n41_, n42_, n43_, n45_, n48_, n54_, n57_, n58_, n59_, n60_, n61_, n63_, n96_, n97_, n99_, n100_, n122_, n126_, n200_, n255_, n375_, n400_, n1000_, n2000_, n9999_, n5764801_, n1000000_, n3000_, m1, m2, le_t, le_f, lt_t, lt_f, eq_t, eq_f, no_lt, no_le, le_no, lt_no, eq_no, no_eq, add_no, wib_t, clamp, nI_add, pk_mul, pk_sub, nor_, nand_, ndif_, shl_, sh1_, shr_, tbn, tb0, tb1, les_t, les_f, pk_div, rem_, remv, and31, wu1, wuc, wui, wu2, ws1, wsc, ws2, wv1, n11_, n13_, n14_, n15_, n17_, n19_, n23_, n56_, n64_, fX7_takeLetters_l5, v1', v4, t2])
    (N := 3000) (by omega) (a0 := ()) (v0 := wuJ h 1 6 0) ⟨fr_wuJ rfl, rfl, h3, by rw [Nat.add_zero]; exact h4, rfl, fun _ => wv2⟩
  refine ⟨wuI e 1 2 (nI (if gE gLe T p - p ≤ 8 then 1 else 4)), ?_, fr_tr e1 (fr_wuI rfl), ?_, ?_, ?_, ?_, wu1, e6⟩
  · by_cases hq : gE gLe T p - p ≤ 8
    · rw [if_pos hq]
      simp (disch := omega) only [↓reduceIte, wlet, Option.bind_some, true_and, and_true, not_true_eq_false, not_false_eq_true, reduceCtorEq, n0_, n1_, n2_, n3_, n4_, n5_, n6_, n7_, n8_, n9_, n10_, n12_, n16_, n18_, n20_, n21_, n22_, n24_, n25_, n26_, n27_, n28_, n29_, n30_, n31_, n32_, n40_, n41_, n42_, n43_, n45_, n48_, n54_, n57_, n58_, n59_, n60_, n61_, n63_, n96_, n97_, n99_, n100_, n122_, n126_, n200_, n255_, n375_, n400_, n1000_, n2000_, n9999_, n5764801_, n1000000_, n3000_, m1, m2, le_t, le_f, lt_t, lt_f, eq_t, eq_f, no_lt, no_le, le_no, lt_no, eq_no, no_eq, add_no, wib_t, clamp, nI_add, pk_mul, pk_sub, nor_, nand_, ndif_, shl_, sh1_, shr_, tbn, tb0, tb1, les_t, les_f, pk_div, rem_, remv, and31, wu1, wuc, wui, wu2, ws1, wsc, ws2, wv1, n11_, n13_, n14_, n15_, n17_, n19_, n23_, n56_, n64_, fX7_takeLetters, fX7_takeLetters_b105, he, e3, e4]
    · rw [if_neg hq]
      simp (disch := omega) only [↓reduceIte, wlet, Option.bind_some, true_and, and_true, not_true_eq_false, not_false_eq_true, reduceCtorEq, n0_, n1_, n2_, n3_, n4_, n5_, n6_, n7_, n8_, n9_, n10_, n12_, n16_, n18_, n20_, n21_, n22_, n24_, n25_, n26_, n27_, n28_, n29_, n30_, n31_, n32_, n40_, n41_, n42_, n43_, n45_, n48_, n54_, n57_, n58_, n59_, n60_, n61_, n63_, n96_, n97_, n99_, n100_, n122_, n126_, n200_, n255_, n375_, n400_, n1000_, n2000_, n9999_, n5764801_, n1000000_, n3000_, m1, m2, le_t, le_f, lt_t, lt_f, eq_t, eq_f, no_lt, no_le, le_no, lt_no, eq_no, no_eq, add_no, wib_t, clamp, nI_add, pk_mul, pk_sub, nor_, nand_, ndif_, shl_, sh1_, shr_, tbn, tb0, tb1, les_t, les_f, pk_div, rem_, remv, and31, wu1, wuc, wui, wu2, ws1, wsc, ws2, wv1, n11_, n13_, n14_, n15_, n17_, n19_, n23_, n56_, n64_, fX7_takeLetters, fX7_takeLetters_b105, he, e3, e4]
  · rw [wui (by omega)]; exact e2
  · rw [wui (by omega)]; exact e3
  · rw [wui (by omega)]; exact e4
  · rw [wui (by omega)]; exact e5
theorem c_digits (hT : TC h T) (hW : WT T) {p : Nat} (hp : p < T.1) (h3 : h.1 1 3 = nI p) (h4 : h.1 1 4 = nI p) : ∃ g, fX7_takeDigits h = some g ∧ fr s1 h g ∧ g.1 1 1 = h.1 1 1 ∧ g.1 1 3 = nI p ∧ g.1 1 4 = nI (gE gDi T p) ∧ g.1 1 7 = h.1 1 7 ∧ g.1 1 2 = nI (if gE gDi T p - p ≤ 4 then 2 else 4) ∧ (gE gDi T p - p ≤ 4 → g.1 1 5 = nI (gNm T p (gE gDi T p - p))) := by
  obtain ⟨t0, t1⟩ := hT
  obtain ⟨w0, w1⟩ := hW
  obtain ⟨p1, p2, p3, p4⟩ := gE_b gDi (T := T) (i := p) (by omega)
  have hlet : ∀ j, p ≤ j → j < gE gDi T p → 48 ≤ T.2 j ∧ T.2 j ≤ 57 := fun j q1 q2 => by
    have := p3 j q1 q2
    unfold gDi at this
    simp only [Bool.and_eq_true, decide_eq_true_eq] at this
    exact this
  obtain ⟨e, he, e1, e2, e3, e4, e5, e6⟩ := wit_for (b := fun v : wSt => fX7_takeDigits_l5 v) (fun _ (u : Unit) => u) (gE gDi T p - p)
    (fun m _ v => fr s1 h v ∧ v.1 1 1 = h.1 1 1 ∧ v.1 1 3 = nI p ∧ v.1 1 4 = nI (p + m) ∧ v.1 1 7 = h.1 1 7 ∧ v.1 1 5 = nI (gNm T p m))
    (fun _ v => fr s1 h v ∧ v.1 1 1 = h.1 1 1 ∧ v.1 1 3 = nI p ∧ v.1 1 4 = nI (gE gDi T p) ∧ v.1 1 7 = h.1 1 7 ∧ v.1 1 5 = nI (gNm T p (gE gDi T p - p)))
    (by
      rintro m _ v hm ⟨fv, v1, v3, v4, v7, v6⟩
      have hlt : p + m < T.1 := by omega
      obtain ⟨q1, q2⟩ := hlet (p + m) (by omega) (by omega)
      have t2 : v.1 2 (p + m) = nI (T.2 (p + m)) := by rw [fr_at fv (by unfold s1; omega)]; exact t1 _ hlt
      have v1' : v.1 1 1 = nI T.1 := v1.trans t0
      refine ⟨wuI (wuI v 1 5 (nI (gNm T p (m + 1)))) 1 4 (nI (p + (m + 1))), ?_, fr_tr fv (fr_tr (fr_wuI rfl) (fr_wuI rfl)), ?_, ?_, wu1, ?_, ?_⟩
      · simp (disch := omega) only [↓reduceIte, wlet, Option.bind_some, true_and, and_true, not_true_eq_false, not_false_eq_true, reduceCtorEq, n0_, n1_, n2_, n3_, n4_, n5_, n6_, n7_, n8_, n9_, n10_, n12_, n16_, n18_, n20_, n21_, n22_, n24_, n25_, n26_, n27_, n28_, n29_, n30_, n31_, n32_, n40_, n41_, n42_, n43_, n45_, n48_, n54_, n57_, n58_, n59_, n60_, n61_, n63_, n96_, n97_, n99_, n100_, n122_, n126_, n200_, n255_, n375_, n400_, n1000_, n2000_, n9999_, n5764801_, n1000000_, n3000_, m1, m2, le_t, le_f, lt_t, lt_f, eq_t, eq_f, no_lt, no_le, le_no, lt_no, eq_no, no_eq, add_no, wib_t, clamp, nI_add, pk_mul, pk_sub, nor_, nand_, ndif_, shl_, sh1_, shr_, tbn, tb0, tb1, les_t, les_f, pk_div, rem_, remv, and31, wu1, wuc, wui, wu2, ws1, wsc, ws2, wv1, n11_, n13_, n14_, n15_, n17_, n19_, n23_, n56_, n64_, fX7_takeDigits_l5, v1', v4, v6, t2]
        rfl
      · rw [wui (by omega), wui (by omega)]; exact v1
      · rw [wui (by omega), wui (by omega)]; exact v3
      · rw [wui (by omega), wui (by omega)]; exact v7
      · rw [wui (by omega), wu1])
    (by
      rintro _ v ⟨fv, v1, v3, v4, v7, v6⟩
      rw [show p + (gE gDi T p - p) = gE gDi T p by omega] at v4
      have v1' : v.1 1 1 = nI T.1 := v1.trans t0
      refine ⟨v, ?_, fv, v1, v3, v4, v7, v6⟩
      by_cases hq : gE gDi T p = T.1
      · simp (disch := omega) only [↓reduceIte, wlet, Option.bind_some, true_and, and_true, not_true_eq_false, not_false_eq_true, reduceCtorEq, n0_, n1_, n2_, n3_, n4_, n5_, n6_, n7_, n8_, n9_, n10_, n12_, n16_, n18_, n20_, n21_, n22_, n24_, n25_, n26_, n27_, n28_, n29_, n30_, n31_, n32_, n40_, n41_, n42_, n43_, n45_, n48_, n54_, n57_, n58_, n59_, n60_, n61_, n63_, n96_, n97_, n99_, n100_, n122_, n126_, n200_, n255_, n375_, n400_, n1000_, n2000_, n9999_, n5764801_, n1000000_, n3000_, m1, m2, le_t, le_f, lt_t, lt_f, eq_t, eq_f, no_lt, no_le, le_no, lt_no, eq_no, no_eq, add_no, wib_t, clamp, nI_add, pk_mul, pk_sub, nor_, nand_, ndif_, shl_, sh1_, shr_, tbn, tb0, tb1, les_t, les_f, pk_div, rem_, remv, and31, wu1, wuc, wui, wu2, ws1, wsc, ws2, wv1, n11_, n13_, n14_, n15_, n17_, n19_, n23_, n56_, n64_, fX7_takeDigits_l5, v1', v4]
      · have hlt : gE gDi T p < T.1 := by omega
        have t2 : v.1 2 (gE gDi T p) = nI (T.2 (gE gDi T p)) := by rw [fr_at fv (by unfold s1; omega)]; exact t1 _ hlt
        have hv := w1 _ hlt
        have hs := p4 hlt
        unfold gDi at hs
        simp only [Bool.and_eq_false_iff, decide_eq_false_iff_not] at hs
        by_cases hq2 : 48 ≤ T.2 (gE gDi T p)
        · have hq3 : ¬ T.2 (gE gDi T p) ≤ 57 := by rcases hs with q | q; exact absurd hq2 q; exact q
          simp (disch := omega) only [↓reduceIte, wlet, Option.bind_some, true_and, and_true, not_true_eq_false, not_false_eq_true, reduceCtorEq, n0_, n1_, n2_, n3_, n4_, n5_, n6_, n7_, n8_, n9_, n10_, n12_, n16_, n18_, n20_, n21_, n22_, n24_, n25_, n26_, n27_, n28_, n29_, n30_, n31_, n32_, n40_, n41_, n42_, n43_, n45_, n48_, n54_, n57_, n58_, n59_, n60_, n61_, n63_, n96_, n97_, n99_, n100_, n122_, n126_, n200_, n255_, n375_, n400_, n1000_, n2000_, n9999_, n5764801_, n1000000_, n3000_, m1, m2, le_t, le_f, lt_t, lt_f, eq_t, eq_f, no_lt, no_le, le_no, lt_no, eq_no, no_eq, add_no, wib_t, clamp, nI_add, pk_mul, pk_sub, nor_, nand_, ndif_, shl_, sh1_, shr_, tbn, tb0, tb1, les_t, les_f, pk_div, rem_, remv, and31, wu1, wuc, wui, wu2, ws1, wsc, ws2, wv1, n11_, n13_, n14_, n15_, n17_, n19_, n23_, n56_, n64_, fX7_takeDigits_l5, v1', v4, t2]
        · simp (disch := omega) only [↓reduceIte, wlet, Option.bind_some, true_and, and_true, not_true_eq_false, not_false_eq_true, reduceCtorEq, n0_, n1_, n2_, n3_, n4_, n5_, n6_, n7_, n8_, n9_, n10_, n12_, n16_, n18_, n20_, n21_, n22_, n24_, n25_, n26_, n27_, n28_, n29_, n30_, n31_, n32_, n40_, n41_, n42_, n43_, n45_, n48_, n54_, n57_, n58_, n59_, n60_, n61_, n63_, n96_, n97_, n99_, n100_, n122_, n126_, n200_, n255_, n375_, n400_, n1000_, n2000_, n9999_, n5764801_, n1000000_, n3000_, m1, m2, le_t, le_f, lt_t, lt_f, eq_t, eq_f, no_lt, no_le, le_no, lt_no, eq_no, no_eq, add_no, wib_t, clamp, nI_add, pk_mul, pk_sub, nor_, nand_, ndif_, shl_, sh1_, shr_, tbn, tb0, tb1, les_t, les_f, pk_div, rem_, remv, and31, wu1, wuc, wui, wu2, ws1, wsc, ws2, wv1, n11_, n13_, n14_, n15_, n17_, n19_, n23_, n56_, n64_, fX7_takeDigits_l5, v1', v4, t2])
    (N := 3000) (by omega) (a0 := ()) (v0 := wuI h 1 5 (nI 0)) ⟨fr_wuI rfl, wui (by omega), by rw [wui (by omega)]; exact h3, by rw [wui (by omega), Nat.add_zero]; exact h4, wui (by omega), wu1⟩
  refine ⟨wuI e 1 2 (nI (if gE gDi T p - p ≤ 4 then 2 else 4)), ?_, fr_tr e1 (fr_wuI rfl), ?_, ?_, ?_, ?_, wu1, fun _ => ?_⟩
  · by_cases hq : gE gDi T p - p ≤ 4
    · rw [if_pos hq]
      simp (disch := omega) only [↓reduceIte, wlet, Option.bind_some, true_and, and_true, not_true_eq_false, not_false_eq_true, reduceCtorEq, n0_, n1_, n2_, n3_, n4_, n5_, n6_, n7_, n8_, n9_, n10_, n12_, n16_, n18_, n20_, n21_, n22_, n24_, n25_, n26_, n27_, n28_, n29_, n30_, n31_, n32_, n40_, n41_, n42_, n43_, n45_, n48_, n54_, n57_, n58_, n59_, n60_, n61_, n63_, n96_, n97_, n99_, n100_, n122_, n126_, n200_, n255_, n375_, n400_, n1000_, n2000_, n9999_, n5764801_, n1000000_, n3000_, m1, m2, le_t, le_f, lt_t, lt_f, eq_t, eq_f, no_lt, no_le, le_no, lt_no, eq_no, no_eq, add_no, wib_t, clamp, nI_add, pk_mul, pk_sub, nor_, nand_, ndif_, shl_, sh1_, shr_, tbn, tb0, tb1, les_t, les_f, pk_div, rem_, remv, and31, wu1, wuc, wui, wu2, ws1, wsc, ws2, wv1, n11_, n13_, n14_, n15_, n17_, n19_, n23_, n56_, n64_, fX7_takeDigits, fX7_takeDigits_b100, he, e3, e4]
    · rw [if_neg hq]
      simp (disch := omega) only [↓reduceIte, wlet, Option.bind_some, true_and, and_true, not_true_eq_false, not_false_eq_true, reduceCtorEq, n0_, n1_, n2_, n3_, n4_, n5_, n6_, n7_, n8_, n9_, n10_, n12_, n16_, n18_, n20_, n21_, n22_, n24_, n25_, n26_, n27_, n28_, n29_, n30_, n31_, n32_, n40_, n41_, n42_, n43_, n45_, n48_, n54_, n57_, n58_, n59_, n60_, n61_, n63_, n96_, n97_, n99_, n100_, n122_, n126_, n200_, n255_, n375_, n400_, n1000_, n2000_, n9999_, n5764801_, n1000000_, n3000_, m1, m2, le_t, le_f, lt_t, lt_f, eq_t, eq_f, no_lt, no_le, le_no, lt_no, eq_no, no_eq, add_no, wib_t, clamp, nI_add, pk_mul, pk_sub, nor_, nand_, ndif_, shl_, sh1_, shr_, tbn, tb0, tb1, les_t, les_f, pk_div, rem_, remv, and31, wu1, wuc, wui, wu2, ws1, wsc, ws2, wv1, n11_, n13_, n14_, n15_, n17_, n19_, n23_, n56_, n64_, fX7_takeDigits, fX7_takeDigits_b100, he, e3, e4]
  · rw [wui (by omega)]; exact e2
  · rw [wui (by omega)]; exact e3
  · rw [wui (by omega)]; exact e4
  · rw [wui (by omega)]; exact e5
  · rw [wui (by omega)]; exact e6
theorem gE_pos {P : Nat → Bool} {p : Nat} (hp : p < T.1) (h : P (T.2 p) = true) : p < gE P T p := by
  obtain ⟨a1, a2, a3, a4⟩ := gE_b P (T := T) (i := p) (by omega)
  apply Nat.lt_of_le_of_ne a1
  intro e
  have := a4 (by omega)
  rw [← e, h] at this
  cases this
/-- the next token from b, wherever it stood -/
theorem c_nextAt (hT : TC h T) (hW : WT T) (hb : b ≤ T.1) (h4 : h.1 1 4 = nI b) (h7 : h.1 1 7 = nI 0) : ∃ g, fX7_next h = some g ∧ SC g T b 0 ∧ fr s1 h g := by
  have hsk := c_skip hT hW hb
  obtain ⟨t0, t1⟩ := id hT
  obtain ⟨w0, w1⟩ := id hW
  obtain ⟨p1, p2⟩ := gPl_b hb
  have f0 : fr s1 h (wuI (wuI h 1 3 (nI (gPl T b))) 1 4 (nI (gPl T b))) := fr_tr (fr_wuI rfl) (fr_wuI rfl)
  have hT0 : TC (wuI (wuI h 1 3 (nI (gPl T b))) 1 4 (nI (gPl T b))) T := ⟨by rw [wui (by omega), wui (by omega)]; exact t0, fun i hi => by rw [fr_at f0 (by unfold s1; omega)]; exact t1 i hi⟩
  by_cases hE : gPl T b = T.1
  · have k0 : gTk T b = 0 := by unfold gTk; rw [if_pos hE]
    have k1 : gTe T b = gPl T b := by unfold gTe; rw [if_pos hE, hE]
    refine ⟨wuI (wuI (wuI h 1 3 (nI (gPl T b))) 1 4 (nI (gPl T b))) 1 2 (nI 0), ?_, ⟨⟨by rw [wui (by omega)]; exact hT0.1, fun i hi => by rw [wuc (by omega)]; exact hT0.2 i hi⟩, hW, hb, by rw [wu1, k0], by rw [wui (by omega), wui (by omega), wu1], by rw [wui (by omega), wu1, k1], by rw [wui (by omega), wui (by omega), wui (by omega)]; exact h7, by omega, fun q => by omega, fun q => by omega⟩, fr_tr f0 (fr_wuI rfl)⟩
    simp (disch := omega) only [↓reduceIte, wlet, Option.bind_some, true_and, and_true, not_true_eq_false, not_false_eq_true, reduceCtorEq, n0_, n1_, n2_, n3_, n4_, n5_, n6_, n7_, n8_, n9_, n10_, n12_, n16_, n18_, n20_, n21_, n22_, n24_, n25_, n26_, n27_, n28_, n29_, n30_, n31_, n32_, n40_, n41_, n42_, n43_, n45_, n48_, n54_, n57_, n58_, n59_, n60_, n61_, n63_, n96_, n97_, n99_, n100_, n122_, n126_, n200_, n255_, n375_, n400_, n1000_, n2000_, n9999_, n5764801_, n1000000_, n3000_, m1, m2, le_t, le_f, lt_t, lt_f, eq_t, eq_f, no_lt, no_le, le_no, lt_no, eq_no, no_eq, add_no, wib_t, clamp, nI_add, pk_mul, pk_sub, nor_, nand_, ndif_, shl_, sh1_, shr_, tbn, tb0, tb1, les_t, les_f, pk_div, rem_, remv, and31, wu1, wuc, wui, wu2, ws1, wsc, ws2, wv1, n11_, n13_, n14_, n15_, n17_, n19_, n23_, n56_, n64_, fX7_next, h7, h4, hsk, t0]
  · have hlt : gPl T b < T.1 := by omega
    have hv := w1 _ hlt
    have t2 := t1 _ hlt
    cases hL : gLe (T.2 (gPl T b)) with
    | true =>
      have hL2 := hL
      unfold gLe at hL2
      simp only [Bool.and_eq_true, decide_eq_true_eq] at hL2
      obtain ⟨g, eg, fg, g1, g3, g4, g7, g2, g6⟩ := c_letters hT0 hW hlt hL (by rw [wui (by omega), wu1]) wu1
      have k1 : gTe T b = gE gLe T (gPl T b) := by unfold gTe; rw [if_neg hE, if_pos hL]
      have k0 : gTk T b = if gE gLe T (gPl T b) - gPl T b ≤ 8 then 1 else 4 := by unfold gTk; rw [if_neg hE, if_pos hL, k1]
      refine ⟨g, ?_, ⟨⟨by rw [g1]; exact hT0.1, fun i hi => by rw [fr_at fg (by unfold s1; omega)]; exact hT0.2 i hi⟩, hW, hb, by rw [g2, k0], g3, by rw [g4, k1], ?_, by omega, fun q => ?_, fun q => ?_⟩, fr_tr f0 fg⟩
      · simp (disch := omega) only [↓reduceIte, wlet, Option.bind_some, true_and, and_true, not_true_eq_false, not_false_eq_true, reduceCtorEq, n0_, n1_, n2_, n3_, n4_, n5_, n6_, n7_, n8_, n9_, n10_, n12_, n16_, n18_, n20_, n21_, n22_, n24_, n25_, n26_, n27_, n28_, n29_, n30_, n31_, n32_, n40_, n41_, n42_, n43_, n45_, n48_, n54_, n57_, n58_, n59_, n60_, n61_, n63_, n96_, n97_, n99_, n100_, n122_, n126_, n200_, n255_, n375_, n400_, n1000_, n2000_, n9999_, n5764801_, n1000000_, n3000_, m1, m2, le_t, le_f, lt_t, lt_f, eq_t, eq_f, no_lt, no_le, le_no, lt_no, eq_no, no_eq, add_no, wib_t, clamp, nI_add, pk_mul, pk_sub, nor_, nand_, ndif_, shl_, sh1_, shr_, tbn, tb0, tb1, les_t, les_f, pk_div, rem_, remv, and31, wu1, wuc, wui, wu2, ws1, wsc, ws2, wv1, n11_, n13_, n14_, n15_, n17_, n19_, n23_, n56_, n64_, fX7_next, h7, h4, hsk, t0, t2, eg]
      · rw [g7, wui (by omega), wui (by omega)]; exact h7
      · rw [k0] at q
        split at q <;> omega
      · unfold gTw
        rw [k1]
        apply g6
        apply Nat.le_of_not_lt
        intro hh
        rw [k0, if_neg (by omega)] at q
        omega
    | false =>
      have hL2 := hL
      unfold gLe at hL2
      simp only [Bool.and_eq_false_iff, decide_eq_false_iff_not] at hL2
      have hskip : ∀ (g : wSt), fX7_next_b122 (wuI (wuI h 1 3 (nI (gPl T b))) 1 4 (nI (gPl T b))) (nI (T.2 (gPl T b))) = some g → fX7_next h = some g := by
        intro g hg
        by_cases hq : 97 ≤ T.2 (gPl T b)
        · have hq3 : ¬ T.2 (gPl T b) ≤ 122 := by rcases hL2 with q | q; exact absurd hq q; exact q
          simp (disch := omega) only [↓reduceIte, wlet, Option.bind_some, true_and, and_true, not_true_eq_false, not_false_eq_true, reduceCtorEq, n0_, n1_, n2_, n3_, n4_, n5_, n6_, n7_, n8_, n9_, n10_, n12_, n16_, n18_, n20_, n21_, n22_, n24_, n25_, n26_, n27_, n28_, n29_, n30_, n31_, n32_, n40_, n41_, n42_, n43_, n45_, n48_, n54_, n57_, n58_, n59_, n60_, n61_, n63_, n96_, n97_, n99_, n100_, n122_, n126_, n200_, n255_, n375_, n400_, n1000_, n2000_, n9999_, n5764801_, n1000000_, n3000_, m1, m2, le_t, le_f, lt_t, lt_f, eq_t, eq_f, no_lt, no_le, le_no, lt_no, eq_no, no_eq, add_no, wib_t, clamp, nI_add, pk_mul, pk_sub, nor_, nand_, ndif_, shl_, sh1_, shr_, tbn, tb0, tb1, les_t, les_f, pk_div, rem_, remv, and31, wu1, wuc, wui, wu2, ws1, wsc, ws2, wv1, n11_, n13_, n14_, n15_, n17_, n19_, n23_, n56_, n64_, fX7_next, h7, h4, hsk, t0, t2, hg]
        · simp (disch := omega) only [↓reduceIte, wlet, Option.bind_some, true_and, and_true, not_true_eq_false, not_false_eq_true, reduceCtorEq, n0_, n1_, n2_, n3_, n4_, n5_, n6_, n7_, n8_, n9_, n10_, n12_, n16_, n18_, n20_, n21_, n22_, n24_, n25_, n26_, n27_, n28_, n29_, n30_, n31_, n32_, n40_, n41_, n42_, n43_, n45_, n48_, n54_, n57_, n58_, n59_, n60_, n61_, n63_, n96_, n97_, n99_, n100_, n122_, n126_, n200_, n255_, n375_, n400_, n1000_, n2000_, n9999_, n5764801_, n1000000_, n3000_, m1, m2, le_t, le_f, lt_t, lt_f, eq_t, eq_f, no_lt, no_le, le_no, lt_no, eq_no, no_eq, add_no, wib_t, clamp, nI_add, pk_mul, pk_sub, nor_, nand_, ndif_, shl_, sh1_, shr_, tbn, tb0, tb1, les_t, les_f, pk_div, rem_, remv, and31, wu1, wuc, wui, wu2, ws1, wsc, ws2, wv1, n11_, n13_, n14_, n15_, n17_, n19_, n23_, n56_, n64_, fX7_next, h7, h4, hsk, t0, t2, hg]
      cases hD : gDi (T.2 (gPl T b)) with
      | true =>
        have hD2 := hD
        unfold gDi at hD2
        simp only [Bool.and_eq_true, decide_eq_true_eq] at hD2
        obtain ⟨g, eg, fg, g1, g3, g4, g7, g2, g6⟩ := c_digits hT0 hW hlt (by rw [wui (by omega), wu1]) wu1
        have k1 : gTe T b = gE gDi T (gPl T b) := by unfold gTe; rw [if_neg hE, hL, if_neg (by decide), if_pos hD]
        have k0 : gTk T b = if gE gDi T (gPl T b) - gPl T b ≤ 4 then 2 else 4 := by unfold gTk; rw [if_neg hE, hL, if_neg (by decide), if_pos hD, k1]
        refine ⟨g, hskip g ?_, ⟨⟨by rw [g1]; exact hT0.1, fun i hi => by rw [fr_at fg (by unfold s1; omega)]; exact hT0.2 i hi⟩, hW, hb, by rw [g2, k0], g3, by rw [g4, k1], ?_, by omega, fun q => ?_, fun q => ?_⟩, fr_tr f0 fg⟩
        · simp (disch := omega) only [↓reduceIte, wlet, Option.bind_some, true_and, and_true, not_true_eq_false, not_false_eq_true, reduceCtorEq, n0_, n1_, n2_, n3_, n4_, n5_, n6_, n7_, n8_, n9_, n10_, n12_, n16_, n18_, n20_, n21_, n22_, n24_, n25_, n26_, n27_, n28_, n29_, n30_, n31_, n32_, n40_, n41_, n42_, n43_, n45_, n48_, n54_, n57_, n58_, n59_, n60_, n61_, n63_, n96_, n97_, n99_, n100_, n122_, n126_, n200_, n255_, n375_, n400_, n1000_, n2000_, n9999_, n5764801_, n1000000_, n3000_, m1, m2, le_t, le_f, lt_t, lt_f, eq_t, eq_f, no_lt, no_le, le_no, lt_no, eq_no, no_eq, add_no, wib_t, clamp, nI_add, pk_mul, pk_sub, nor_, nand_, ndif_, shl_, sh1_, shr_, tbn, tb0, tb1, les_t, les_f, pk_div, rem_, remv, and31, wu1, wuc, wui, wu2, ws1, wsc, ws2, wv1, n11_, n13_, n14_, n15_, n17_, n19_, n23_, n56_, n64_, fX7_next_b122, eg]
        · rw [g7, wui (by omega), wui (by omega)]; exact h7
        · unfold gTn
          rw [k1]
          apply g6
          apply Nat.le_of_not_lt
          intro hh
          rw [k0, if_neg (by omega)] at q
          omega
        · rw [k0] at q
          split at q <;> omega
      | false =>
        have hD2 := hD
        unfold gDi at hD2
        simp only [Bool.and_eq_false_iff, decide_eq_false_iff_not] at hD2
        have k1 : gTe T b = gPl T b + 1 := by unfold gTe; rw [if_neg hE, hL, if_neg (by decide), hD, if_neg (by decide)]
        have k0 : gTk T b = if gSg (T.2 (gPl T b)) then 3 else 4 := by unfold gTk; rw [if_neg hE, hL, if_neg (by decide), hD, if_neg (by decide)]
        obtain ⟨r, hr, hr2⟩ := ext_dec.2 (T.2 (gPl T b)) (by omega)
        have hr : fJ0_indexOf_0f7a4 (wuI (wuI h 1 3 (nI (gPl T b))) 1 4 (nI (gPl T b))) 0 (((nI (T.2 (gPl T b))).toUInt32 % 65536).toInt32) = some r := hr
        have e157 : fX7_next_b141 (wuI (wuI h 1 3 (nI (gPl T b))) 1 4 (nI (gPl T b))) (nI (T.2 (gPl T b))) = some (wuI (wuI (wuI (wuI h 1 3 (nI (gPl T b))) 1 4 (nI (gPl T b))) 1 2 (nI (gTk T b))) 1 4 (nI (gPl T b + 1))) := by
          unfold fX7_next_b141
          rw [hr, Option.bind_some]
          cases hg : gSg (T.2 (gPl T b)) with
          | true =>
            have hr3 : ¬ r < 0 := fun q => by rw [hr2.mp q] at hg; cases hg
            rw [if_neg hr3, k0, hg, if_pos rfl]
            simp (disch := omega) only [↓reduceIte, wlet, Option.bind_some, true_and, and_true, not_true_eq_false, not_false_eq_true, reduceCtorEq, n0_, n1_, n2_, n3_, n4_, n5_, n6_, n7_, n8_, n9_, n10_, n12_, n16_, n18_, n20_, n21_, n22_, n24_, n25_, n26_, n27_, n28_, n29_, n30_, n31_, n32_, n40_, n41_, n42_, n43_, n45_, n48_, n54_, n57_, n58_, n59_, n60_, n61_, n63_, n96_, n97_, n99_, n100_, n122_, n126_, n200_, n255_, n375_, n400_, n1000_, n2000_, n9999_, n5764801_, n1000000_, n3000_, m1, m2, le_t, le_f, lt_t, lt_f, eq_t, eq_f, no_lt, no_le, le_no, lt_no, eq_no, no_eq, add_no, wib_t, clamp, nI_add, pk_mul, pk_sub, nor_, nand_, ndif_, shl_, sh1_, shr_, tbn, tb0, tb1, les_t, les_f, pk_div, rem_, remv, and31, wu1, wuc, wui, wu2, ws1, wsc, ws2, wv1, n11_, n13_, n14_, n15_, n17_, n19_, n23_, n56_, n64_, fX7_next_b157]
          | false =>
            rw [if_pos (hr2.mpr hg), k0, hg, if_neg (by decide)]
            simp (disch := omega) only [↓reduceIte, wlet, Option.bind_some, true_and, and_true, not_true_eq_false, not_false_eq_true, reduceCtorEq, n0_, n1_, n2_, n3_, n4_, n5_, n6_, n7_, n8_, n9_, n10_, n12_, n16_, n18_, n20_, n21_, n22_, n24_, n25_, n26_, n27_, n28_, n29_, n30_, n31_, n32_, n40_, n41_, n42_, n43_, n45_, n48_, n54_, n57_, n58_, n59_, n60_, n61_, n63_, n96_, n97_, n99_, n100_, n122_, n126_, n200_, n255_, n375_, n400_, n1000_, n2000_, n9999_, n5764801_, n1000000_, n3000_, m1, m2, le_t, le_f, lt_t, lt_f, eq_t, eq_f, no_lt, no_le, le_no, lt_no, eq_no, no_eq, add_no, wib_t, clamp, nI_add, pk_mul, pk_sub, nor_, nand_, ndif_, shl_, sh1_, shr_, tbn, tb0, tb1, les_t, les_f, pk_div, rem_, remv, and31, wu1, wuc, wui, wu2, ws1, wsc, ws2, wv1, n11_, n13_, n14_, n15_, n17_, n19_, n23_, n56_, n64_, fX7_next_b157]
        refine ⟨wuI (wuI (wuI (wuI h 1 3 (nI (gPl T b))) 1 4 (nI (gPl T b))) 1 2 (nI (gTk T b))) 1 4 (nI (gPl T b + 1)), hskip _ ?_, ⟨⟨by rw [wui (by omega), wui (by omega)]; exact hT0.1, fun i hi => by rw [wuc (by omega), wuc (by omega)]; exact hT0.2 i hi⟩, hW, hb, by rw [wui (by omega), wu1], by rw [wui (by omega), wui (by omega), wui (by omega), wu1], by rw [wu1, k1], by rw [wui (by omega), wui (by omega), wui (by omega), wui (by omega)]; exact h7, by omega, fun q => ?_, fun q => ?_⟩, fr_tr f0 (fr_tr (fr_wuI rfl) (fr_wuI rfl))⟩
        · by_cases hq : 48 ≤ T.2 (gPl T b)
          · have hq3 : ¬ T.2 (gPl T b) ≤ 57 := by rcases hD2 with q | q; exact absurd hq q; exact q
            simp (disch := omega) only [↓reduceIte, wlet, Option.bind_some, true_and, and_true, not_true_eq_false, not_false_eq_true, reduceCtorEq, n0_, n1_, n2_, n3_, n4_, n5_, n6_, n7_, n8_, n9_, n10_, n12_, n16_, n18_, n20_, n21_, n22_, n24_, n25_, n26_, n27_, n28_, n29_, n30_, n31_, n32_, n40_, n41_, n42_, n43_, n45_, n48_, n54_, n57_, n58_, n59_, n60_, n61_, n63_, n96_, n97_, n99_, n100_, n122_, n126_, n200_, n255_, n375_, n400_, n1000_, n2000_, n9999_, n5764801_, n1000000_, n3000_, m1, m2, le_t, le_f, lt_t, lt_f, eq_t, eq_f, no_lt, no_le, le_no, lt_no, eq_no, no_eq, add_no, wib_t, clamp, nI_add, pk_mul, pk_sub, nor_, nand_, ndif_, shl_, sh1_, shr_, tbn, tb0, tb1, les_t, les_f, pk_div, rem_, remv, and31, wu1, wuc, wui, wu2, ws1, wsc, ws2, wv1, n11_, n13_, n14_, n15_, n17_, n19_, n23_, n56_, n64_, fX7_next_b122, e157]
          · simp (disch := omega) only [↓reduceIte, wlet, Option.bind_some, true_and, and_true, not_true_eq_false, not_false_eq_true, reduceCtorEq, n0_, n1_, n2_, n3_, n4_, n5_, n6_, n7_, n8_, n9_, n10_, n12_, n16_, n18_, n20_, n21_, n22_, n24_, n25_, n26_, n27_, n28_, n29_, n30_, n31_, n32_, n40_, n41_, n42_, n43_, n45_, n48_, n54_, n57_, n58_, n59_, n60_, n61_, n63_, n96_, n97_, n99_, n100_, n122_, n126_, n200_, n255_, n375_, n400_, n1000_, n2000_, n9999_, n5764801_, n1000000_, n3000_, m1, m2, le_t, le_f, lt_t, lt_f, eq_t, eq_f, no_lt, no_le, le_no, lt_no, eq_no, no_eq, add_no, wib_t, clamp, nI_add, pk_mul, pk_sub, nor_, nand_, ndif_, shl_, sh1_, shr_, tbn, tb0, tb1, les_t, les_f, pk_div, rem_, remv, and31, wu1, wuc, wui, wu2, ws1, wsc, ws2, wv1, n11_, n13_, n14_, n15_, n17_, n19_, n23_, n56_, n64_, fX7_next_b122, e157]
        · rw [k0] at q
          split at q <;> omega
        · rw [k0] at q
          split at q <;> omega
theorem c_next (hs : SC h T b 0) : ∃ g, fX7_next h = some g ∧ SC g T (gTe T b) 0 ∧ fr s1 h g := c_nextAt hs.1 hs.2.1 (gTe_b hs.2.2.1).2.1 hs.2.2.2.2.2.1 hs.2.2.2.2.2.2.1
theorem c_nextF {f : Nat} (hs : SC h T b f) (hf : f ≠ 0) : fX7_next h = some h := by
  have h7 := hs.2.2.2.2.2.2.1
  have hl := hs.2.2.2.2.2.2.2.1
  simp (disch := omega) only [↓reduceIte, wlet, Option.bind_some, true_and, and_true, not_true_eq_false, not_false_eq_true, reduceCtorEq, n0_, n1_, n2_, n3_, n4_, n5_, n6_, n7_, n8_, n9_, n10_, n12_, n16_, n18_, n20_, n21_, n22_, n24_, n25_, n26_, n27_, n28_, n29_, n30_, n31_, n32_, n40_, n41_, n42_, n43_, n45_, n48_, n54_, n57_, n58_, n59_, n60_, n61_, n63_, n96_, n97_, n99_, n100_, n122_, n126_, n200_, n255_, n375_, n400_, n1000_, n2000_, n9999_, n5764801_, n1000000_, n3000_, m1, m2, le_t, le_f, lt_t, lt_f, eq_t, eq_f, no_lt, no_le, le_no, lt_no, eq_no, no_eq, add_no, wib_t, clamp, nI_add, pk_mul, pk_sub, nor_, nand_, ndif_, shl_, sh1_, shr_, tbn, tb0, tb1, les_t, les_f, pk_div, rem_, remv, and31, wu1, wuc, wui, wu2, ws1, wsc, ws2, wv1, n11_, n13_, n14_, n15_, n17_, n19_, n23_, n56_, n64_, fX7_next, h7]
end G57

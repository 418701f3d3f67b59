/-! WHETHER SO MANY CAN BE LAID: this side's way -/
/-- a loop that counts or ends before -/
theorem wit_or {V E : Type} {b : V → Option (V ⊕ E)} (n : Nat) (I : Nat → V → Prop) (P : E → Prop)
    (hs : ∀ i v, i < n → I i v → (∃ w, b v = some (.inl w) ∧ I (i + 1) w) ∨ ∃ e, b v = some (.inr e) ∧ P e)
    (he : ∀ v, I n v → ∃ e, b v = some (.inr e) ∧ P e) {N : Nat} (hN : n < N) {v : V} (h0 : I 0 v) : ∃ e, wit b N v = some e ∧ P e := by
  have key : ∀ (k i : Nat) (M : Nat) (v : V), i + k = n → k < M → I i v → ∃ e, wit b M v = some e ∧ P e := by
    intro k
    induction k with
    | zero =>
      intro i M v hi hM hI
      obtain ⟨M, rfl⟩ : ∃ m, M = m + 1 := ⟨M - 1, by omega⟩
      have hi2 : i = n := by omega
      rw [hi2] at hI
      obtain ⟨e, h1, h3⟩ := he v hI
      exact ⟨e, by rw [wit, h1], h3⟩
    | succ k ih =>
      intro i M v hi hM hI
      obtain ⟨M, rfl⟩ : ∃ m, M = m + 1 := ⟨M - 1, by omega⟩
      rcases hs i v (by omega) hI with ⟨w, h1, h3⟩ | ⟨e, h1, h3⟩
      · obtain ⟨e, a1, a3⟩ := ih (i + 1) M w (by omega) (by omega) h3
        exact ⟨e, by rw [wit, h1]; exact a1, a3⟩
      · exact ⟨e, by rw [wit, h1], h3⟩
  exact key n 0 N v (by omega) hN h0
/-- the lengths of the last n texts -/
def tlr (L : gLib) : Nat → List Nat
  | 0 => []
  | n + 1 => gtl L (gnt L - (n + 1)) :: tlr L n
theorem tlr_len (L : gLib) : ∀ n, (tlr L n).length = n
  | 0 => rfl
  | n + 1 => by rw [tlr, List.length_cons, tlr_len L n]
theorem tlr_b {L : gLib} (hW : WL L) : ∀ {n : Nat}, n ≤ gnt L → ∀ l ∈ tlr L n, 1 ≤ l ∧ l ≤ 6
  | 0, _, l, hl => by cases hl
  | n + 1, hn, l, hl => by
    rw [tlr] at hl
    rcases List.mem_cons.mp hl with q | q
    · have := hW.2.2.2.2.1 (gnt L - (n + 1)) (by omega)
      rw [q]
      exact ⟨this.2.2.1, this.2.2.2.1⟩
    · exact tlr_b hW (by omega) l q
/-- sorted by counting -/
def csr (xs : List Nat) : Nat → List Nat
  | 0 => []
  | k + 1 => csr xs k ++ xs.filter (fun x => decide (x = k + 1))
theorem csr_mem {xs : List Nat} : ∀ {k y : Nat}, y ∈ csr xs k → 1 ≤ y ∧ y ≤ k
  | 0, y, h => by cases h
  | k + 1, y, h => by
    rw [csr] at h
    rcases List.mem_append.mp h with q | q
    · have := csr_mem q; omega
    · have := (List.mem_filter.mp q).2
      simp only [decide_eq_true_eq] at this
      omega
theorem csr_sort (xs : List Nat) : ∀ k, (csr xs k).Pairwise (· ≤ ·)
  | 0 => List.Pairwise.nil
  | k + 1 => by
    rw [csr, List.pairwise_append]
    refine ⟨csr_sort xs k, ?_, ?_⟩
    · have key : ∀ (l : List Nat), (∀ y ∈ l, y = k + 1) → l.Pairwise (· ≤ ·) := by
        intro l
        induction l with
        | nil => intro _; exact List.Pairwise.nil
        | cons a l ih =>
          intro h
          refine List.pairwise_cons.mpr ⟨fun b hb => ?_, ih (fun y hy => h y (List.mem_cons_of_mem _ hy))⟩
          rw [h a List.mem_cons_self, h b (List.mem_cons_of_mem _ hb)]
          exact Nat.le_refl _
      apply key
      intro y hy
      have := (List.mem_filter.mp hy).2
      simpa using this
    · intro a ha b hb
      have h1 := csr_mem ha
      have h2 := (List.mem_filter.mp hb).2
      simp only [decide_eq_true_eq] at h2
      omega
theorem csr_cons (x : Nat) (xs : List Nat) : ∀ k, (csr (x :: xs) k).Perm (if 1 ≤ x ∧ x ≤ k then x :: csr xs k else csr xs k)
  | 0 => by rw [if_neg (by omega)]; exact List.Perm.refl _
  | k + 1 => by
    have ih := csr_cons x xs k
    rw [csr, csr]
    by_cases e : x = k + 1
    · rw [List.filter_cons_of_pos (by simp [e]), if_pos (by omega)]
      rw [if_neg (by omega)] at ih
      exact (List.Perm.append_right _ ih).trans List.perm_middle
    · rw [List.filter_cons_of_neg (by simp [e])]
      by_cases q : 1 ≤ x ∧ x ≤ k
      · rw [if_pos q] at ih
        rw [if_pos (by omega)]
        exact List.Perm.append_right _ ih
      · rw [if_neg q] at ih
        rw [if_neg (by omega)]
        exact List.Perm.append_right _ ih
theorem csr_perm : ∀ {xs : List Nat}, (∀ x ∈ xs, 1 ≤ x ∧ x ≤ 6) → (csr xs 6).Perm xs
  | [], _ => by exact List.Perm.refl _
  | x :: xs, h => by
    have h1 := csr_cons x xs 6
    rw [if_pos (h x List.mem_cons_self)] at h1
    exact h1.trans ((csr_perm (fun y hy => h y (List.mem_cons_of_mem _ hy))).cons x)
theorem csr_srt {xs : List Nat} (h : ∀ x ∈ xs, 1 ≤ x ∧ x ≤ 6) : csr xs 6 = srt xs := List.Perm.eq_of_pairwise (le := (· ≤ ·)) (fun a b _ _ h1 h2 => Nat.le_antisymm h1 h2) (csr_sort xs 6) (srt_sort xs) ((csr_perm h).trans (srt_perm xs).symm)
theorem take_app (a b : List Nat) (n : Nat) : (a.take n ++ b).take n = (a ++ b).take n := by
  rw [List.take_append, List.take_append, List.take_take, Nat.min_self, List.length_take]
  congr 1
  by_cases q : n ≤ a.length
  · rw [Nat.min_eq_left q, Nat.sub_self, Nat.sub_eq_zero_of_le q]
  · rw [Nat.min_eq_right (by omega)]
def SZ (h : wSt) (acc : List Nat) : Prop := h.1 130 4 = nI acc.length ∧ ∀ i, i < acc.length → h.1 132 i = nI (acc.getD i 0)
def SS (h : wSt) (cs : List Nat) : Prop := h.1 130 6 = nI cs.length ∧ ∀ i, i < cs.length → h.1 133 i = nI (cs.getD i 0)
def sL (c : Nat) : Prop := c = 130 ∨ c = 132 ∨ c = 133
theorem getD_app {a : List Nat} {x i : Nat} (hi : i < a.length + 1) : (a ++ [x]).getD i 0 = if i = a.length then x else a.getD i 0 := by
  rw [List.getD_eq_getElem?_getD, List.getD_eq_getElem?_getD]
  by_cases e : i = a.length
  · rw [if_pos e, e, List.getElem?_append_right (Nat.le_refl _), Nat.sub_self]
    rfl
  · rw [if_neg e, List.getElem?_append_left (by omega)]
section G52
variable {h : wSt} {L : gLib}
theorem c_short1 (hW : WL L) (hC : CL h L) {n H s : Nat} (hn : n ≤ gnt L) (hH : H ≤ 6) (hs1 : 1 ≤ s) (hs : s ≤ 6) {acc : List Nat} (hz : SZ h acc) (ha : acc.length ≤ H) (v2 : Int32) : ∃ g, wit (fun v : (Int32 × wSt) => fX3_gatherShortest_l16 v.2 (nI H) v2 (nI s) v.1) 3000 (nI (gnt L - n), h) = some g ∧ SZ g ((acc ++ (tlr L n).filter (fun x => decide (x = s))).take H) ∧ fr sL h g ∧ (∀ j, j ≠ 4 → g.1 130 j = h.1 130 j) := by
  have n2 := hW.2.1
  obtain ⟨e, he, e1, e2, e3⟩ := wit_or (b := fun v : (Int32 × wSt) => fX3_gatherShortest_l16 v.2 (nI H) v2 (nI s) v.1) n
    (fun i v => ∃ g a, v = (nI (gnt L - n + i), g) ∧ SZ g a ∧ a.length ≤ H ∧ fr sL h g ∧ (∀ j, j ≠ 4 → g.1 130 j = h.1 130 j) ∧ (a ++ (tlr L (n - i)).filter (fun x => decide (x = s))).take H = (acc ++ (tlr L n).filter (fun x => decide (x = s))).take H)
    (fun g => SZ g ((acc ++ (tlr L n).filter (fun x => decide (x = s))).take H) ∧ fr sL h g ∧ (∀ j, j ≠ 4 → g.1 130 j = h.1 130 j))
    (by
      rintro i v hi ⟨g, a, rfl, za, la, fg, gj, ea⟩
      have hC2 := CL_fr hC fg (fun c _ _ => by unfold sL; omega)
      have c1 := hC2.2.1
      have z0 := za.1
      have ht : gnt L - n + i < gnt L := by omega
      have c2 := (hC2.2.2.2.2.1 _ ht).2.2.1
      obtain ⟨-, -, t1, t2, -⟩ := hW.2.2.2.2.1 _ ht
      by_cases hf : a.length = H
      · right
        refine ⟨g, ?_, ?_, fg, gj⟩
        · simp (disch := omega) only [↓reduceIte, wlet, Option.bind_some, true_and, and_true, not_true_eq_false, not_false_eq_true, reduceCtorEq, n0_, n1_, n2_, n3_, n4_, n5_, n6_, n7_, n8_, n9_, n10_, n12_, n16_, n18_, n20_, n21_, n22_, n24_, n25_, n26_, n27_, n28_, n29_, n30_, n31_, n32_, n40_, n41_, n42_, n43_, n45_, n48_, n54_, n57_, n58_, n59_, n60_, n61_, n63_, n96_, n97_, n99_, n100_, n122_, n126_, n200_, n255_, n375_, n400_, n1000_, n2000_, n9999_, n5764801_, n1000000_, n3000_, m1, m2, le_t, le_f, lt_t, lt_f, eq_t, eq_f, no_lt, no_le, le_no, lt_no, eq_no, no_eq, add_no, wib_t, clamp, nI_add, pk_mul, pk_sub, nor_, nand_, ndif_, shl_, sh1_, shr_, tbn, tb0, tb1, les_t, les_f, pk_div, rem_, remv, and31, wu1, wuc, wui, wu2, ws1, wsc, ws2, wv1, n11_, n13_, n14_, n15_, n17_, n19_, n23_, n56_, n64_, fX3_gatherShortest_l16, c1, z0]
        · rw [← ea, List.take_append, List.take_of_length_le (by omega), show H - a.length = 0 by omega, List.take_zero, List.append_nil]
          exact za
      · left
        have er : n - i = (n - (i + 1)) + 1 := by omega
        rw [er, tlr, show gnt L - (n - (i + 1) + 1) = gnt L - n + i by omega] at ea
        by_cases hq : gtl L (gnt L - n + i) = s
        · rw [List.filter_cons_of_pos (by simp [hq]), hq] at ea
          refine ⟨(nI (gnt L - n + (i + 1)), wuI (wuI g 132 a.length (nI s)) 130 4 (nI (a.length + 1))), ?_, _, a ++ [s], rfl, ⟨?_, fun j hj => ?_⟩, by rw [List.length_append, List.length_singleton]; omega, fr_tr fg (fr_tr (fr_wuI (by unfold sL; omega)) (fr_wuI (by unfold sL; omega))), ?_, ?_⟩
          · simp (disch := omega) only [↓reduceIte, wlet, Option.bind_some, true_and, and_true, not_true_eq_false, not_false_eq_true, reduceCtorEq, n0_, n1_, n2_, n3_, n4_, n5_, n6_, n7_, n8_, n9_, n10_, n12_, n16_, n18_, n20_, n21_, n22_, n24_, n25_, n26_, n27_, n28_, n29_, n30_, n31_, n32_, n40_, n41_, n42_, n43_, n45_, n48_, n54_, n57_, n58_, n59_, n60_, n61_, n63_, n96_, n97_, n99_, n100_, n122_, n126_, n200_, n255_, n375_, n400_, n1000_, n2000_, n9999_, n5764801_, n1000000_, n3000_, m1, m2, le_t, le_f, lt_t, lt_f, eq_t, eq_f, no_lt, no_le, le_no, lt_no, eq_no, no_eq, add_no, wib_t, clamp, nI_add, pk_mul, pk_sub, nor_, nand_, ndif_, shl_, sh1_, shr_, tbn, tb0, tb1, les_t, les_f, pk_div, rem_, remv, and31, wu1, wuc, wui, wu2, ws1, wsc, ws2, wv1, n11_, n13_, n14_, n15_, n17_, n19_, n23_, n56_, n64_, fX3_gatherShortest_l16, fX3_gatherShortest_b70_16, c1, z0, c2, hq]
            rfl
          · rw [wu1, List.length_append, List.length_singleton]
          · rw [List.length_append, List.length_singleton] at hj
            rw [wuc (by omega), wuS, getD_app hj]
            by_cases ej : j = a.length
            · rw [if_pos ej, if_pos ej]
            · rw [if_neg ej, if_neg ej]; exact za.2 j (by omega)
          · intro j hj
            rw [wui hj, wuc (by omega)]; exact gj j hj
          · rw [List.append_assoc]; exact ea
        · rw [List.filter_cons_of_neg (by simp [hq])] at ea
          refine ⟨(nI (gnt L - n + (i + 1)), g), ?_, g, a, rfl, za, la, fg, gj, ea⟩
          simp (disch := omega) only [↓reduceIte, wlet, Option.bind_some, true_and, and_true, not_true_eq_false, not_false_eq_true, reduceCtorEq, n0_, n1_, n2_, n3_, n4_, n5_, n6_, n7_, n8_, n9_, n10_, n12_, n16_, n18_, n20_, n21_, n22_, n24_, n25_, n26_, n27_, n28_, n29_, n30_, n31_, n32_, n40_, n41_, n42_, n43_, n45_, n48_, n54_, n57_, n58_, n59_, n60_, n61_, n63_, n96_, n97_, n99_, n100_, n122_, n126_, n200_, n255_, n375_, n400_, n1000_, n2000_, n9999_, n5764801_, n1000000_, n3000_, m1, m2, le_t, le_f, lt_t, lt_f, eq_t, eq_f, no_lt, no_le, le_no, lt_no, eq_no, no_eq, add_no, wib_t, clamp, nI_add, pk_mul, pk_sub, nor_, nand_, ndif_, shl_, sh1_, shr_, tbn, tb0, tb1, les_t, les_f, pk_div, rem_, remv, and31, wu1, wuc, wui, wu2, ws1, wsc, ws2, wv1, n11_, n13_, n14_, n15_, n17_, n19_, n23_, n56_, n64_, fX3_gatherShortest_l16, fX3_gatherShortest_b70_16, c1, z0, c2]
          rfl)
    (by
      rintro v ⟨g, a, rfl, za, la, fg, gj, ea⟩
      have c1 := (CL_fr hC fg (fun c _ _ => by unfold sL; omega)).2.1
      refine ⟨g, ?_, ?_, fg, gj⟩
      · simp (disch := omega) only [↓reduceIte, wlet, Option.bind_some, true_and, and_true, not_true_eq_false, not_false_eq_true, reduceCtorEq, n0_, n1_, n2_, n3_, n4_, n5_, n6_, n7_, n8_, n9_, n10_, n12_, n16_, n18_, n20_, n21_, n22_, n24_, n25_, n26_, n27_, n28_, n29_, n30_, n31_, n32_, n40_, n41_, n42_, n43_, n45_, n48_, n54_, n57_, n58_, n59_, n60_, n61_, n63_, n96_, n97_, n99_, n100_, n122_, n126_, n200_, n255_, n375_, n400_, n1000_, n2000_, n9999_, n5764801_, n1000000_, n3000_, m1, m2, le_t, le_f, lt_t, lt_f, eq_t, eq_f, no_lt, no_le, le_no, lt_no, eq_no, no_eq, add_no, wib_t, clamp, nI_add, pk_mul, pk_sub, nor_, nand_, ndif_, shl_, sh1_, shr_, tbn, tb0, tb1, les_t, les_f, pk_div, rem_, remv, and31, wu1, wuc, wui, wu2, ws1, wsc, ws2, wv1, n11_, n13_, n14_, n15_, n17_, n19_, n23_, n56_, n64_, fX3_gatherShortest_l16, c1]
      · rw [← ea, Nat.sub_self, tlr, List.filter_nil, List.append_nil, List.take_of_length_le la]
        exact za)
    (N := 3000) (by omega) (v := (nI (gnt L - n), h)) ⟨h, acc, rfl, hz, ha, fr_rf, fun _ _ => rfl, rfl⟩
  exact ⟨e, he, e1, e2, e3⟩
theorem c_short (hW : WL L) (hC : CL h L) {n H : Nat} (hn : n ≤ gnt L) (hH : H ≤ 6) : ∃ g, fX3_gatherShortest h (nI H) (nI (gnt L - n)) = some g ∧ SZ g ((srt (tlr L n)).take H) ∧ fr sL h g ∧ (∀ j, j ≠ 4 → g.1 130 j = h.1 130 j) := by
  obtain ⟨e, he, e1, e2, e3⟩ := wit_for (b := fun v : (Int32 × wSt) => fX3_gatherShortest_l7 v.2 (nI H) (nI (gnt L - n)) v.1) (fun _ (u : Unit) => u) 6
    (fun i _ v => ∃ g, v = (nI (i + 1), g) ∧ SZ g ((csr (tlr L n) i).take H) ∧ fr sL h g ∧ (∀ j, j ≠ 4 → g.1 130 j = h.1 130 j))
    (fun _ g => SZ g ((csr (tlr L n) 6).take H) ∧ fr sL h g ∧ (∀ j, j ≠ 4 → g.1 130 j = h.1 130 j))
    (by
      rintro i _ v hi ⟨g, rfl, zg, fg, gj⟩
      obtain ⟨g2, e2, z2, f2, j2⟩ := c_short1 hW (CL_fr hC fg (fun c _ _ => by unfold sL; omega)) hn hH (s := i + 1) (by omega) (by omega) zg (by rw [List.length_take]; omega) (nI (gnt L - n))
      rw [take_app] at z2
      refine ⟨(nI (i + 1 + 1), g2), ?_, g2, rfl, z2, fr_tr fg f2, fun j hj => (j2 j hj).trans (gj j hj)⟩
      simp (disch := omega) only [↓reduceIte, wlet, Option.bind_some, true_and, and_true, not_true_eq_false, not_false_eq_true, reduceCtorEq, n0_, n1_, n2_, n3_, n4_, n5_, n6_, n7_, n8_, n9_, n10_, n12_, n16_, n18_, n20_, n21_, n22_, n24_, n25_, n26_, n27_, n28_, n29_, n30_, n31_, n32_, n40_, n41_, n42_, n43_, n45_, n48_, n54_, n57_, n58_, n59_, n60_, n61_, n63_, n96_, n97_, n99_, n100_, n122_, n126_, n200_, n255_, n375_, n400_, n1000_, n2000_, n9999_, n5764801_, n1000000_, n3000_, m1, m2, le_t, le_f, lt_t, lt_f, eq_t, eq_f, no_lt, no_le, le_no, lt_no, eq_no, no_eq, add_no, wib_t, clamp, nI_add, pk_mul, pk_sub, nor_, nand_, ndif_, shl_, sh1_, shr_, tbn, tb0, tb1, les_t, les_f, pk_div, rem_, remv, and31, wu1, wuc, wui, wu2, ws1, wsc, ws2, wv1, n11_, n13_, n14_, n15_, n17_, n19_, n23_, n56_, n64_, fX3_gatherShortest_l7, e2])
    (by
      rintro _ v ⟨g, rfl, hg⟩
      refine ⟨g, ?_, hg⟩
      simp (disch := omega) only [↓reduceIte, wlet, Option.bind_some, true_and, and_true, not_true_eq_false, not_false_eq_true, reduceCtorEq, n0_, n1_, n2_, n3_, n4_, n5_, n6_, n7_, n8_, n9_, n10_, n12_, n16_, n18_, n20_, n21_, n22_, n24_, n25_, n26_, n27_, n28_, n29_, n30_, n31_, n32_, n40_, n41_, n42_, n43_, n45_, n48_, n54_, n57_, n58_, n59_, n60_, n61_, n63_, n96_, n97_, n99_, n100_, n122_, n126_, n200_, n255_, n375_, n400_, n1000_, n2000_, n9999_, n5764801_, n1000000_, n3000_, m1, m2, le_t, le_f, lt_t, lt_f, eq_t, eq_f, no_lt, no_le, le_no, lt_no, eq_no, no_eq, add_no, wib_t, clamp, nI_add, pk_mul, pk_sub, nor_, nand_, ndif_, shl_, sh1_, shr_, tbn, tb0, tb1, les_t, les_f, pk_div, rem_, remv, and31, wu1, wuc, wui, wu2, ws1, wsc, ws2, wv1, n11_, n13_, n14_, n15_, n17_, n19_, n23_, n56_, n64_, fX3_gatherShortest_l7])
    (N := 3000) (by omega) (a0 := ()) (v0 := (nI 1, wuI h 130 4 (nI 0))) ⟨_, rfl, ⟨by rw [wu1, csr, List.take_nil]; rfl, fun i hi => absurd hi (by simp [csr])⟩, fr_wuI (by unfold sL; omega), fun j hj => wui hj⟩
  rw [csr_srt (tlr_b hW hn)] at e1
  refine ⟨e, ?_, e1, e2, e3⟩
  simp (disch := omega) only [↓reduceIte, wlet, Option.bind_some, true_and, and_true, not_true_eq_false, not_false_eq_true, reduceCtorEq, n0_, n1_, n2_, n3_, n4_, n5_, n6_, n7_, n8_, n9_, n10_, n12_, n16_, n18_, n20_, n21_, n22_, n24_, n25_, n26_, n27_, n28_, n29_, n30_, n31_, n32_, n40_, n41_, n42_, n43_, n45_, n48_, n54_, n57_, n58_, n59_, n60_, n61_, n63_, n96_, n97_, n99_, n100_, n122_, n126_, n200_, n255_, n375_, n400_, n1000_, n2000_, n9999_, n5764801_, n1000000_, n3000_, m1, m2, le_t, le_f, lt_t, lt_f, eq_t, eq_f, no_lt, no_le, le_no, lt_no, eq_no, no_eq, add_no, wib_t, clamp, nI_add, pk_mul, pk_sub, nor_, nand_, ndif_, shl_, sh1_, shr_, tbn, tb0, tb1, les_t, les_f, pk_div, rem_, remv, and31, wu1, wuc, wui, wu2, ws1, wsc, ws2, wv1, n11_, n13_, n14_, n15_, n17_, n19_, n23_, n56_, n64_, fX3_gatherShortest, he]
theorem stS_b {x p : Nat} {a : List Nat × Nat} {m : Nat} (h : a.1.length + a.2 ≤ m) : (stS x p a).1.length + (stS x p a).2 ≤ m + 1 := by
  have h1 : stN x p a.2 ≤ a.2 + 1 := by unfold stN; split <;> omega
  unfold stS
  split
  · show (a.1 ++ [stN x p a.2]).length + 0 ≤ m + 1
    rw [List.length_append, List.length_singleton]; omega
  · show a.1.length + stN x p a.2 ≤ m + 1
    omega
theorem c_stretch (hF : Nat) (hb : hF < 262144) : ∃ g, fX3_gatherStretches h (nI hF) = some g ∧ SS g (caps hF) ∧ fr (fun c => c = 130 ∨ c = 133) h g ∧ (∀ j, j ≠ 6 → g.1 130 j = h.1 130 j) := by
  obtain ⟨e, he, e1, e2, e3⟩ := wit_for (b := fun v : (Int32 × Int32 × wSt) => fX3_gatherStretches_l9 v.2.2 (nI hF) v.1 v.2.1) (stS hF) 18
    (fun p a v => ∃ g, v = (nI a.2, nI p, g) ∧ SS g a.1 ∧ a.1.length + a.2 ≤ p ∧ fr (fun c => c = 130 ∨ c = 133) h g ∧ (∀ j, j ≠ 6 → g.1 130 j = h.1 130 j))
    (fun a g => SS g a.1 ∧ fr (fun c => c = 130 ∨ c = 133) h g ∧ (∀ j, j ≠ 6 → g.1 130 j = h.1 130 j))
    (by
      rintro p ⟨l, n⟩ v hp ⟨g, rfl, sg, hb2, fg, gj⟩
      have hb2 : l.length + n ≤ p := hb2
      have sg : SS g l := sg
      have s0 := sg.1
      have hb3 := stS_b (x := hF) (p := p) (a := (l, n)) hb2
      have hl17 : l.length < 18 := by omega
      have put : ∀ x, SS (wuI (wuI g 133 l.length (nI x)) 130 6 (nI (l.length + 1))) (l ++ [x]) := by
        intro x
        refine ⟨by rw [wu1, List.length_append, List.length_singleton], fun j hj => ?_⟩
        rw [List.length_append, List.length_singleton] at hj
        rw [wuc (by omega), wuS, getD_app hj]
        by_cases ej : j = l.length
        · rw [if_pos ej, if_pos ej]
        · rw [if_neg ej, if_neg ej]; exact sg.2 j (by omega)
      have fput : ∀ x y, fr (fun c => c = 130 ∨ c = 133) g (wuI (wuI g 133 l.length x) 130 6 y) := fun x y => fr_tr (fr_wuI (Or.inr rfl)) (fr_wuI (Or.inl rfl))
      have jput : ∀ x y j, j ≠ 6 → (wuI (wuI g 133 l.length x) 130 6 y).1 130 j = h.1 130 j := fun x y j hj => by rw [wui hj, wuc (by omega)]; exact gj j hj
      cases b1 : hF.testBit p with
      | false =>
        have e : stS hF p (l, n) = (l, 0) := by
          have e0 : stN hF p n = 0 := by unfold stN; rw [b1]; rfl
          unfold stS
          show (if 0 < stN hF p n ∧ _ then (l ++ [stN hF p n], 0) else (l, stN hF p n)) = _
          rw [e0, if_neg (by omega)]
        rw [e] at hb3 ⊢
        refine ⟨(nI 0, nI (p + 1), g), ?_, g, rfl, sg, hb3, fg, gj⟩
        by_cases q5 : p % 6 = 5
        · simp (disch := omega) only [↓reduceIte, wlet, Option.bind_some, true_and, and_true, not_true_eq_false, not_false_eq_true, reduceCtorEq, n0_, n1_, n2_, n3_, n4_, n5_, n6_, n7_, n8_, n9_, n10_, n12_, n16_, n18_, n20_, n21_, n22_, n24_, n25_, n26_, n27_, n28_, n29_, n30_, n31_, n32_, n40_, n41_, n42_, n43_, n45_, n48_, n54_, n57_, n58_, n59_, n60_, n61_, n63_, n96_, n97_, n99_, n100_, n122_, n126_, n200_, n255_, n375_, n400_, n1000_, n2000_, n9999_, n5764801_, n1000000_, n3000_, m1, m2, le_t, le_f, lt_t, lt_f, eq_t, eq_f, no_lt, no_le, le_no, lt_no, eq_no, no_eq, add_no, wib_t, clamp, nI_add, pk_mul, pk_sub, nor_, nand_, ndif_, shl_, sh1_, shr_, tbn, tb0, tb1, les_t, les_f, pk_div, rem_, remv, and31, wu1, wuc, wui, wu2, ws1, wsc, ws2, wv1, n11_, n13_, n14_, n15_, n17_, n19_, n23_, n56_, n64_, fX3_gatherStretches_l9, fX3_gatherStretches_b30_9, fX3_gatherStretches_b44_9, fX3_gatherStretches_b61_9, fX3_gatherStretches_b66_9, fX3_gatherStretches_b99_9, b1, q5]
        · cases b2 : hF.testBit (p + 1)
          · simp (disch := omega) only [↓reduceIte, wlet, Option.bind_some, true_and, and_true, not_true_eq_false, not_false_eq_true, reduceCtorEq, n0_, n1_, n2_, n3_, n4_, n5_, n6_, n7_, n8_, n9_, n10_, n12_, n16_, n18_, n20_, n21_, n22_, n24_, n25_, n26_, n27_, n28_, n29_, n30_, n31_, n32_, n40_, n41_, n42_, n43_, n45_, n48_, n54_, n57_, n58_, n59_, n60_, n61_, n63_, n96_, n97_, n99_, n100_, n122_, n126_, n200_, n255_, n375_, n400_, n1000_, n2000_, n9999_, n5764801_, n1000000_, n3000_, m1, m2, le_t, le_f, lt_t, lt_f, eq_t, eq_f, no_lt, no_le, le_no, lt_no, eq_no, no_eq, add_no, wib_t, clamp, nI_add, pk_mul, pk_sub, nor_, nand_, ndif_, shl_, sh1_, shr_, tbn, tb0, tb1, les_t, les_f, pk_div, rem_, remv, and31, wu1, wuc, wui, wu2, ws1, wsc, ws2, wv1, n11_, n13_, n14_, n15_, n17_, n19_, n23_, n56_, n64_, fX3_gatherStretches_l9, fX3_gatherStretches_b30_9, fX3_gatherStretches_b44_9, fX3_gatherStretches_b61_9, fX3_gatherStretches_b66_9, fX3_gatherStretches_b99_9, b1, b2]
          · simp (disch := omega) only [↓reduceIte, wlet, Option.bind_some, true_and, and_true, not_true_eq_false, not_false_eq_true, reduceCtorEq, n0_, n1_, n2_, n3_, n4_, n5_, n6_, n7_, n8_, n9_, n10_, n12_, n16_, n18_, n20_, n21_, n22_, n24_, n25_, n26_, n27_, n28_, n29_, n30_, n31_, n32_, n40_, n41_, n42_, n43_, n45_, n48_, n54_, n57_, n58_, n59_, n60_, n61_, n63_, n96_, n97_, n99_, n100_, n122_, n126_, n200_, n255_, n375_, n400_, n1000_, n2000_, n9999_, n5764801_, n1000000_, n3000_, m1, m2, le_t, le_f, lt_t, lt_f, eq_t, eq_f, no_lt, no_le, le_no, lt_no, eq_no, no_eq, add_no, wib_t, clamp, nI_add, pk_mul, pk_sub, nor_, nand_, ndif_, shl_, sh1_, shr_, tbn, tb0, tb1, les_t, les_f, pk_div, rem_, remv, and31, wu1, wuc, wui, wu2, ws1, wsc, ws2, wv1, n11_, n13_, n14_, n15_, n17_, n19_, n23_, n56_, n64_, fX3_gatherStretches_l9, fX3_gatherStretches_b30_9, fX3_gatherStretches_b44_9, fX3_gatherStretches_b61_9, fX3_gatherStretches_b66_9, fX3_gatherStretches_b99_9, b1, b2, Bool.true_eq_false]
      | true =>
        by_cases q5 : p % 6 = 5
        · have e : stS hF p (l, n) = (l ++ [n + 1], 0) := by
            have e0 : stN hF p n = n + 1 := by unfold stN; rw [b1]; rfl
            unfold stS
            show (if 0 < stN hF p n ∧ _ then (l ++ [stN hF p n], 0) else (l, stN hF p n)) = _
            rw [e0, if_pos ⟨by omega, Or.inl q5⟩]
          rw [e] at hb3 ⊢
          refine ⟨(nI 0, nI (p + 1), wuI (wuI g 133 l.length (nI (n + 1))) 130 6 (nI (l.length + 1))), ?_, _, rfl, put _, hb3, fr_tr fg (fput _ _), jput _ _⟩
          simp (disch := omega) only [↓reduceIte, wlet, Option.bind_some, true_and, and_true, not_true_eq_false, not_false_eq_true, reduceCtorEq, n0_, n1_, n2_, n3_, n4_, n5_, n6_, n7_, n8_, n9_, n10_, n12_, n16_, n18_, n20_, n21_, n22_, n24_, n25_, n26_, n27_, n28_, n29_, n30_, n31_, n32_, n40_, n41_, n42_, n43_, n45_, n48_, n54_, n57_, n58_, n59_, n60_, n61_, n63_, n96_, n97_, n99_, n100_, n122_, n126_, n200_, n255_, n375_, n400_, n1000_, n2000_, n9999_, n5764801_, n1000000_, n3000_, m1, m2, le_t, le_f, lt_t, lt_f, eq_t, eq_f, no_lt, no_le, le_no, lt_no, eq_no, no_eq, add_no, wib_t, clamp, nI_add, pk_mul, pk_sub, nor_, nand_, ndif_, shl_, sh1_, shr_, tbn, tb0, tb1, les_t, les_f, pk_div, rem_, remv, and31, wu1, wuc, wui, wu2, ws1, wsc, ws2, wv1, n11_, n13_, n14_, n15_, n17_, n19_, n23_, n56_, n64_, fX3_gatherStretches_l9, fX3_gatherStretches_b30_9, fX3_gatherStretches_b44_9, fX3_gatherStretches_b61_9, fX3_gatherStretches_b66_9, fX3_gatherStretches_b99_9, b1, q5, s0, Bool.true_eq_false]
        · cases b2 : hF.testBit (p + 1) with
          | false =>
            have e : stS hF p (l, n) = (l ++ [n + 1], 0) := by
              have e0 : stN hF p n = n + 1 := by unfold stN; rw [b1]; rfl
              unfold stS
              show (if 0 < stN hF p n ∧ _ then (l ++ [stN hF p n], 0) else (l, stN hF p n)) = _
              rw [e0, if_pos ⟨by omega, Or.inr b2⟩]
            rw [e] at hb3 ⊢
            refine ⟨(nI 0, nI (p + 1), wuI (wuI g 133 l.length (nI (n + 1))) 130 6 (nI (l.length + 1))), ?_, _, rfl, put _, hb3, fr_tr fg (fput _ _), jput _ _⟩
            simp (disch := omega) only [↓reduceIte, wlet, Option.bind_some, true_and, and_true, not_true_eq_false, not_false_eq_true, reduceCtorEq, n0_, n1_, n2_, n3_, n4_, n5_, n6_, n7_, n8_, n9_, n10_, n12_, n16_, n18_, n20_, n21_, n22_, n24_, n25_, n26_, n27_, n28_, n29_, n30_, n31_, n32_, n40_, n41_, n42_, n43_, n45_, n48_, n54_, n57_, n58_, n59_, n60_, n61_, n63_, n96_, n97_, n99_, n100_, n122_, n126_, n200_, n255_, n375_, n400_, n1000_, n2000_, n9999_, n5764801_, n1000000_, n3000_, m1, m2, le_t, le_f, lt_t, lt_f, eq_t, eq_f, no_lt, no_le, le_no, lt_no, eq_no, no_eq, add_no, wib_t, clamp, nI_add, pk_mul, pk_sub, nor_, nand_, ndif_, shl_, sh1_, shr_, tbn, tb0, tb1, les_t, les_f, pk_div, rem_, remv, and31, wu1, wuc, wui, wu2, ws1, wsc, ws2, wv1, n11_, n13_, n14_, n15_, n17_, n19_, n23_, n56_, n64_, fX3_gatherStretches_l9, fX3_gatherStretches_b30_9, fX3_gatherStretches_b44_9, fX3_gatherStretches_b61_9, fX3_gatherStretches_b66_9, fX3_gatherStretches_b99_9, b1, b2, s0, Bool.true_eq_false]
          | true =>
            have e : stS hF p (l, n) = (l, n + 1) := by
              have e0 : stN hF p n = n + 1 := by unfold stN; rw [b1]; rfl
              unfold stS
              show (if 0 < stN hF p n ∧ (p % 6 = 5 ∨ hF.testBit (p + 1) = false) then (l ++ [stN hF p n], 0) else (l, stN hF p n)) = _
              rw [e0, b2, if_neg (by rintro ⟨-, q | q⟩; exact q5 q; cases q)]
            rw [e] at hb3 ⊢
            refine ⟨(nI (n + 1), nI (p + 1), g), ?_, g, rfl, sg, hb3, fg, gj⟩
            simp (disch := omega) only [↓reduceIte, wlet, Option.bind_some, true_and, and_true, not_true_eq_false, not_false_eq_true, reduceCtorEq, n0_, n1_, n2_, n3_, n4_, n5_, n6_, n7_, n8_, n9_, n10_, n12_, n16_, n18_, n20_, n21_, n22_, n24_, n25_, n26_, n27_, n28_, n29_, n30_, n31_, n32_, n40_, n41_, n42_, n43_, n45_, n48_, n54_, n57_, n58_, n59_, n60_, n61_, n63_, n96_, n97_, n99_, n100_, n122_, n126_, n200_, n255_, n375_, n400_, n1000_, n2000_, n9999_, n5764801_, n1000000_, n3000_, m1, m2, le_t, le_f, lt_t, lt_f, eq_t, eq_f, no_lt, no_le, le_no, lt_no, eq_no, no_eq, add_no, wib_t, clamp, nI_add, pk_mul, pk_sub, nor_, nand_, ndif_, shl_, sh1_, shr_, tbn, tb0, tb1, les_t, les_f, pk_div, rem_, remv, and31, wu1, wuc, wui, wu2, ws1, wsc, ws2, wv1, n11_, n13_, n14_, n15_, n17_, n19_, n23_, n56_, n64_, fX3_gatherStretches_l9, fX3_gatherStretches_b30_9, fX3_gatherStretches_b44_9, fX3_gatherStretches_b61_9, fX3_gatherStretches_b66_9, fX3_gatherStretches_b99_9, b1, b2, Bool.true_eq_false])
    (by
      rintro ⟨l, n⟩ v ⟨g, rfl, sg, -, fg, gj⟩
      refine ⟨g, ?_, sg, fg, gj⟩
      simp (disch := omega) only [↓reduceIte, wlet, Option.bind_some, true_and, and_true, not_true_eq_false, not_false_eq_true, reduceCtorEq, n0_, n1_, n2_, n3_, n4_, n5_, n6_, n7_, n8_, n9_, n10_, n12_, n16_, n18_, n20_, n21_, n22_, n24_, n25_, n26_, n27_, n28_, n29_, n30_, n31_, n32_, n40_, n41_, n42_, n43_, n45_, n48_, n54_, n57_, n58_, n59_, n60_, n61_, n63_, n96_, n97_, n99_, n100_, n122_, n126_, n200_, n255_, n375_, n400_, n1000_, n2000_, n9999_, n5764801_, n1000000_, n3000_, m1, m2, le_t, le_f, lt_t, lt_f, eq_t, eq_f, no_lt, no_le, le_no, lt_no, eq_no, no_eq, add_no, wib_t, clamp, nI_add, pk_mul, pk_sub, nor_, nand_, ndif_, shl_, sh1_, shr_, tbn, tb0, tb1, les_t, les_f, pk_div, rem_, remv, and31, wu1, wuc, wui, wu2, ws1, wsc, ws2, wv1, n11_, n13_, n14_, n15_, n17_, n19_, n23_, n56_, n64_, fX3_gatherStretches_l9])
    (N := 3000) (by omega) (a0 := ([], 0)) (v0 := (nI 0, nI 0, wuI h 130 6 (nI 0))) ⟨_, rfl, ⟨by rw [wu1]; rfl, fun i hi => absurd hi (by simp)⟩, by simp, fr_wuI (Or.inl rfl), fun j hj => wui hj⟩
  rw [st_all] at e1
  refine ⟨e, ?_, e1, e2, e3⟩
  simp (disch := omega) only [↓reduceIte, wlet, Option.bind_some, true_and, and_true, not_true_eq_false, not_false_eq_true, reduceCtorEq, n0_, n1_, n2_, n3_, n4_, n5_, n6_, n7_, n8_, n9_, n10_, n12_, n16_, n18_, n20_, n21_, n22_, n24_, n25_, n26_, n27_, n28_, n29_, n30_, n31_, n32_, n40_, n41_, n42_, n43_, n45_, n48_, n54_, n57_, n58_, n59_, n60_, n61_, n63_, n96_, n97_, n99_, n100_, n122_, n126_, n200_, n255_, n375_, n400_, n1000_, n2000_, n9999_, n5764801_, n1000000_, n3000_, m1, m2, le_t, le_f, lt_t, lt_f, eq_t, eq_f, no_lt, no_le, le_no, lt_no, eq_no, no_eq, add_no, wib_t, clamp, nI_add, pk_mul, pk_sub, nor_, nand_, ndif_, shl_, sh1_, shr_, tbn, tb0, tb1, les_t, les_f, pk_div, rem_, remv, and31, wu1, wuc, wui, wu2, ws1, wsc, ws2, wv1, n11_, n13_, n14_, n15_, n17_, n19_, n23_, n56_, n64_, fX3_gatherStretches, he]
theorem SS_set {g : wSt} {cs : List Nat} {i v : Nat} (hs : SS g cs) (hi : i < cs.length) : SS (wuI g 133 i (nI v)) (cs.set i v) := by
  refine ⟨by rw [wuc (by omega), List.length_set]; exact hs.1, fun j hj => ?_⟩
  rw [List.length_set] at hj
  rw [wuS, List.getD_eq_getElem?_getD, List.getElem?_set]
  by_cases e : j = i
  · rw [if_pos e, if_pos e.symm, if_pos (by omega)]
    rfl
  · rw [if_neg e, if_neg (fun q => e q.symm), ← List.getD_eq_getElem?_getD]
    exact hs.2 j hj
theorem c_fill {acc : List Nat} (h6 : acc.length ≤ 6) : ∀ (fu k : Nat), acc.length - k < fu → k ≤ acc.length → ∀ (h : wSt) (cs : List Nat), SZ h acc → SS h cs → cs.length ≤ 18 → (∀ i, i < cs.length → cs.getD i 0 ≤ 6) → (∀ i, i < acc.length → acc.getD i 0 ≤ 6) → ∃ b g, fX3_fill fu h (nI k) = some (b, g) ∧ (b = true ↔ Pk cs (acc.reverse.drop k)) ∧ SS g cs ∧ fr (fun c => c = 133) h g
  | 0, k, hf, hk, h, cs, hz, hs, hc, hb, hb2 => by omega
  | fu + 1, k, hf, hk, h, cs, hz, hs, hc, hb, hb2 => by
    have z0 := hz.1
    rw [fX3_fill]
    by_cases hk2 : k = acc.length
    · refine ⟨true, h, ?_, ?_, hs, fr_rf⟩
      · simp (disch := omega) only [↓reduceIte, wlet, Option.bind_some, true_and, and_true, not_true_eq_false, not_false_eq_true, reduceCtorEq, n0_, n1_, n2_, n3_, n4_, n5_, n6_, n7_, n8_, n9_, n10_, n12_, n16_, n18_, n20_, n21_, n22_, n24_, n25_, n26_, n27_, n28_, n29_, n30_, n31_, n32_, n40_, n41_, n42_, n43_, n45_, n48_, n54_, n57_, n58_, n59_, n60_, n61_, n63_, n96_, n97_, n99_, n100_, n122_, n126_, n200_, n255_, n375_, n400_, n1000_, n2000_, n9999_, n5764801_, n1000000_, n3000_, m1, m2, le_t, le_f, lt_t, lt_f, eq_t, eq_f, no_lt, no_le, le_no, lt_no, eq_no, no_eq, add_no, wib_t, clamp, nI_add, pk_mul, pk_sub, nor_, nand_, ndif_, shl_, sh1_, shr_, tbn, tb0, tb1, les_t, les_f, pk_div, rem_, remv, and31, wu1, wuc, wui, wu2, ws1, wsc, ws2, wv1, n11_, n13_, n14_, n15_, n17_, n19_, n23_, n56_, n64_, fX3_fill_b0, z0]
      · rw [List.drop_eq_nil_of_le (by rw [List.length_reverse]; omega)]
        exact ⟨fun _ => trivial, fun _ => rfl⟩
    · have hki : acc.length - 1 - k < acc.length := by omega
      have z1 := hz.2 _ hki
      have l6 := hb2 _ hki
      have hkr : k < acc.reverse.length := by rw [List.length_reverse]; omega
      have er : acc.reverse.drop k = acc.getD (acc.length - 1 - k) 0 :: acc.reverse.drop (k + 1) := by
        rw [List.drop_eq_getElem_cons hkr, List.getElem_reverse, getD_at hki]
      rw [er]
      revert z1 l6
      generalize acc.getD (acc.length - 1 - k) 0 = l
      generalize hrest : acc.reverse.drop (k + 1) = rest
      intro z1 l6
      obtain ⟨e, he, g, b, eg, hbp, sg, fg⟩ := wit_or (b := fun v : (Int32 × Int32 × wSt) => fX3_fill_l35 (fX3_fill fu) v.2.2 (nI k) (nI l) v.1 v.2.1) cs.length
        (fun i v => ∃ tr g, v = (nI tr, nI i, g) ∧ SS g cs ∧ fr (fun c => c = 133) h g ∧ tr < 128 ∧ (∀ j, ∀ hj : j < cs.length, tr.testBit cs[j] = true → l ≤ cs[j] → ¬ Pk (cs.set j (cs[j] - l)) rest) ∧ ∀ j, ∀ hj : j < cs.length, j < i → l ≤ cs[j] → tr.testBit cs[j] = true)
        (fun e => ∃ g b, e = (if b then Sum.inr (true, g) else Sum.inl g) ∧ (b = true ↔ Pk cs (l :: rest)) ∧ SS g cs ∧ fr (fun c => c = 133) h g)
        (by
          rintro i v hi ⟨tr, g, rfl, sg, fg, htr, ht1, ht2⟩
          have s0 := sg.1
          have s1 := sg.2 i hi
          have c6 := hb i hi
          rw [getD_at hi] at s1 c6
          cases hbit : tr.testBit cs[i] with
          | true =>
            left
            refine ⟨(nI tr, nI (i + 1), g), ?_, tr, g, rfl, sg, fg, htr, ht1, fun j hj hji hl => ?_⟩
            · by_cases q : cs[i] < l
              · simp (disch := omega) only [↓reduceIte, wlet, Option.bind_some, true_and, and_true, not_true_eq_false, not_false_eq_true, reduceCtorEq, n0_, n1_, n2_, n3_, n4_, n5_, n6_, n7_, n8_, n9_, n10_, n12_, n16_, n18_, n20_, n21_, n22_, n24_, n25_, n26_, n27_, n28_, n29_, n30_, n31_, n32_, n40_, n41_, n42_, n43_, n45_, n48_, n54_, n57_, n58_, n59_, n60_, n61_, n63_, n96_, n97_, n99_, n100_, n122_, n126_, n200_, n255_, n375_, n400_, n1000_, n2000_, n9999_, n5764801_, n1000000_, n3000_, m1, m2, le_t, le_f, lt_t, lt_f, eq_t, eq_f, no_lt, no_le, le_no, lt_no, eq_no, no_eq, add_no, wib_t, clamp, nI_add, pk_mul, pk_sub, nor_, nand_, ndif_, shl_, sh1_, shr_, tbn, tb0, tb1, les_t, les_f, pk_div, rem_, remv, and31, wu1, wuc, wui, wu2, ws1, wsc, ws2, wv1, n11_, n13_, n14_, n15_, n17_, n19_, n23_, n56_, n64_, fX3_fill_l35, fX3_fill_b67_35, fX3_fill_b123_35, s0, s1, hbit, Bool.true_eq_false]
              · simp (disch := omega) only [↓reduceIte, wlet, Option.bind_some, true_and, and_true, not_true_eq_false, not_false_eq_true, reduceCtorEq, n0_, n1_, n2_, n3_, n4_, n5_, n6_, n7_, n8_, n9_, n10_, n12_, n16_, n18_, n20_, n21_, n22_, n24_, n25_, n26_, n27_, n28_, n29_, n30_, n31_, n32_, n40_, n41_, n42_, n43_, n45_, n48_, n54_, n57_, n58_, n59_, n60_, n61_, n63_, n96_, n97_, n99_, n100_, n122_, n126_, n200_, n255_, n375_, n400_, n1000_, n2000_, n9999_, n5764801_, n1000000_, n3000_, m1, m2, le_t, le_f, lt_t, lt_f, eq_t, eq_f, no_lt, no_le, le_no, lt_no, eq_no, no_eq, add_no, wib_t, clamp, nI_add, pk_mul, pk_sub, nor_, nand_, ndif_, shl_, sh1_, shr_, tbn, tb0, tb1, les_t, les_f, pk_div, rem_, remv, and31, wu1, wuc, wui, wu2, ws1, wsc, ws2, wv1, n11_, n13_, n14_, n15_, n17_, n19_, n23_, n56_, n64_, fX3_fill_l35, fX3_fill_b67_35, fX3_fill_b123_35, s0, s1, hbit, Bool.true_eq_false]
            · by_cases e : j = i
              · subst e; exact hbit
              · exact ht2 j hj (by omega) hl
          | false =>
            by_cases q : cs[i] < l
            · left
              refine ⟨(nI tr, nI (i + 1), g), ?_, tr, g, rfl, sg, fg, htr, ht1, fun j hj hji hl => ?_⟩
              · simp (disch := omega) only [↓reduceIte, wlet, Option.bind_some, true_and, and_true, not_true_eq_false, not_false_eq_true, reduceCtorEq, n0_, n1_, n2_, n3_, n4_, n5_, n6_, n7_, n8_, n9_, n10_, n12_, n16_, n18_, n20_, n21_, n22_, n24_, n25_, n26_, n27_, n28_, n29_, n30_, n31_, n32_, n40_, n41_, n42_, n43_, n45_, n48_, n54_, n57_, n58_, n59_, n60_, n61_, n63_, n96_, n97_, n99_, n100_, n122_, n126_, n200_, n255_, n375_, n400_, n1000_, n2000_, n9999_, n5764801_, n1000000_, n3000_, m1, m2, le_t, le_f, lt_t, lt_f, eq_t, eq_f, no_lt, no_le, le_no, lt_no, eq_no, no_eq, add_no, wib_t, clamp, nI_add, pk_mul, pk_sub, nor_, nand_, ndif_, shl_, sh1_, shr_, tbn, tb0, tb1, les_t, les_f, pk_div, rem_, remv, and31, wu1, wuc, wui, wu2, ws1, wsc, ws2, wv1, n11_, n13_, n14_, n15_, n17_, n19_, n23_, n56_, n64_, fX3_fill_l35, fX3_fill_b67_35, fX3_fill_b123_35, s0, s1, hbit]
              · by_cases e : j = i
                · subst e; omega
                · exact ht2 j hj (by omega) hl
            · have f1 : fr (fun c => c = 133) g (wuI g 133 i (nI (cs[i] - l))) := fr_wuI rfl
              have hz1 : SZ (wuI g 133 i (nI (cs[i] - l))) acc := by
                refine ⟨?_, fun j hj => ?_⟩
                · rw [wuc (by omega), fr_at fg (by omega)]; exact hz.1
                · rw [wuc (by omega), fr_at fg (by omega)]; exact hz.2 j hj
              obtain ⟨b', g', e', hb', sg', fg'⟩ := c_fill h6 fu (k + 1) (by omega) (by omega) (wuI g 133 i (nI (cs[i] - l))) (cs.set i (cs[i] - l)) hz1 (SS_set sg hi) (by rw [List.length_set]; exact hc) (fun j hj => by
                rw [List.length_set] at hj
                rw [List.getD_eq_getElem?_getD, List.getElem?_set]
                by_cases e : i = j
                · rw [if_pos e, if_pos (by omega)]
                  show cs[i] - l ≤ 6
                  omega
                · rw [if_neg e, ← List.getD_eq_getElem?_getD]; exact hb j hj) hb2
              rw [hrest] at hb'
              have sg2 : SS (wuI g' 133 i (nI cs[i])) cs := by
                have := SS_set (v := cs[i]) sg' (by rw [List.length_set]; exact hi)
                rw [List.set_set, List.set_getElem_self] at this
                exact this
              have f2 : fr (fun c => c = 133) h (wuI g' 133 i (nI cs[i])) := fr_tr fg (fr_tr f1 (fr_tr fg' (fr_wuI rfl)))
              cases b' with
              | true =>
                right
                refine ⟨.inr (true, wuI g' 133 i (nI cs[i])), ?_, _, true, rfl, ⟨fun _ => Pk_idx.mpr ⟨i, hi, by omega, hb'.mp rfl⟩, fun _ => rfl⟩, sg2, f2⟩
                simp (disch := omega) only [↓reduceIte, wlet, Option.bind_some, true_and, and_true, not_true_eq_false, not_false_eq_true, reduceCtorEq, n0_, n1_, n2_, n3_, n4_, n5_, n6_, n7_, n8_, n9_, n10_, n12_, n16_, n18_, n20_, n21_, n22_, n24_, n25_, n26_, n27_, n28_, n29_, n30_, n31_, n32_, n40_, n41_, n42_, n43_, n45_, n48_, n54_, n57_, n58_, n59_, n60_, n61_, n63_, n96_, n97_, n99_, n100_, n122_, n126_, n200_, n255_, n375_, n400_, n1000_, n2000_, n9999_, n5764801_, n1000000_, n3000_, m1, m2, le_t, le_f, lt_t, lt_f, eq_t, eq_f, no_lt, no_le, le_no, lt_no, eq_no, no_eq, add_no, wib_t, clamp, nI_add, pk_mul, pk_sub, nor_, nand_, ndif_, shl_, sh1_, shr_, tbn, tb0, tb1, les_t, les_f, pk_div, rem_, remv, and31, wu1, wuc, wui, wu2, ws1, wsc, ws2, wv1, n11_, n13_, n14_, n15_, n17_, n19_, n23_, n56_, n64_, fX3_fill_l35, fX3_fill_b67_35, fX3_fill_b123_35, s0, s1, hbit, e']
              | false =>
                left
                have hno : ¬ Pk (cs.set i (cs[i] - l)) rest := fun q => by cases hb'.mpr q
                have tb : ∀ x, (tr ||| 2 ^ cs[i]).testBit x = (tr.testBit x || decide (cs[i] = x)) := fun x => by rw [Nat.testBit_or, Nat.testBit_two_pow]
                refine ⟨(nI (tr ||| 2 ^ cs[i]), nI (i + 1), wuI g' 133 i (nI cs[i])), ?_, tr ||| 2 ^ cs[i], _, rfl, sg2, f2, ?_, ?_, ?_⟩
                · simp (disch := omega) only [↓reduceIte, wlet, Option.bind_some, true_and, and_true, not_true_eq_false, not_false_eq_true, reduceCtorEq, n0_, n1_, n2_, n3_, n4_, n5_, n6_, n7_, n8_, n9_, n10_, n12_, n16_, n18_, n20_, n21_, n22_, n24_, n25_, n26_, n27_, n28_, n29_, n30_, n31_, n32_, n40_, n41_, n42_, n43_, n45_, n48_, n54_, n57_, n58_, n59_, n60_, n61_, n63_, n96_, n97_, n99_, n100_, n122_, n126_, n200_, n255_, n375_, n400_, n1000_, n2000_, n9999_, n5764801_, n1000000_, n3000_, m1, m2, le_t, le_f, lt_t, lt_f, eq_t, eq_f, no_lt, no_le, le_no, lt_no, eq_no, no_eq, add_no, wib_t, clamp, nI_add, pk_mul, pk_sub, nor_, nand_, ndif_, shl_, sh1_, shr_, tbn, tb0, tb1, les_t, les_f, pk_div, rem_, remv, and31, wu1, wuc, wui, wu2, ws1, wsc, ws2, wv1, n11_, n13_, n14_, n15_, n17_, n19_, n23_, n56_, n64_, fX3_fill_l35, fX3_fill_b67_35, fX3_fill_b123_35, s0, s1, hbit, e', Option.isSome_none, Option.isSome_some, Bool.false_eq_true]
                · have : 2 ^ cs[i] < 2 ^ 7 := Nat.pow_lt_pow_right (by decide) (by omega)
                  exact Nat.or_lt_two_pow (n := 7) htr this
                · intro j hj hq hl
                  rw [tb, Bool.or_eq_true] at hq
                  rcases hq with hq | hq
                  · exact ht1 j hj hq hl
                  · have hq : cs[i] = cs[j] := by simpa using hq
                    intro hp
                    rw [← hq] at hp
                    exact hno (Pk_same hj hi hq.symm hp)
                · intro j hj hji hl
                  rw [tb, Bool.or_eq_true]
                  by_cases e : j = i
                  · subst e
                    exact Or.inr (by simp)
                  · exact Or.inl (ht2 j hj (by omega) hl))
        (by
          rintro v ⟨tr, g, rfl, sg, fg, htr, ht1, ht2⟩
          have s0 := sg.1
          refine ⟨.inl g, ?_, g, false, rfl, ⟨fun q => (by cases q), fun q => ?_⟩, sg, fg⟩
          · simp (disch := omega) only [↓reduceIte, wlet, Option.bind_some, true_and, and_true, not_true_eq_false, not_false_eq_true, reduceCtorEq, n0_, n1_, n2_, n3_, n4_, n5_, n6_, n7_, n8_, n9_, n10_, n12_, n16_, n18_, n20_, n21_, n22_, n24_, n25_, n26_, n27_, n28_, n29_, n30_, n31_, n32_, n40_, n41_, n42_, n43_, n45_, n48_, n54_, n57_, n58_, n59_, n60_, n61_, n63_, n96_, n97_, n99_, n100_, n122_, n126_, n200_, n255_, n375_, n400_, n1000_, n2000_, n9999_, n5764801_, n1000000_, n3000_, m1, m2, le_t, le_f, lt_t, lt_f, eq_t, eq_f, no_lt, no_le, le_no, lt_no, eq_no, no_eq, add_no, wib_t, clamp, nI_add, pk_mul, pk_sub, nor_, nand_, ndif_, shl_, sh1_, shr_, tbn, tb0, tb1, les_t, les_f, pk_div, rem_, remv, and31, wu1, wuc, wui, wu2, ws1, wsc, ws2, wv1, n11_, n13_, n14_, n15_, n17_, n19_, n23_, n56_, n64_, fX3_fill_l35, s0]
          · obtain ⟨i, hi, q1, q2⟩ := Pk_idx.mp q
            exact absurd q2 (ht1 i hi (ht2 i hi hi q1) q1))
        (N := 3000) (by omega) (v := (nI 0, nI 0, h)) ⟨0, h, rfl, hs, fr_rf, by omega, fun j hj hq => (by rw [Nat.zero_testBit] at hq; cases hq), fun j hj hji => absurd hji (Nat.not_lt_zero _)⟩
      refine ⟨b, g, ?_, hbp, sg, fg⟩
      cases b with
      | true =>
        rw [if_pos rfl] at eg
        simp (disch := omega) only [↓reduceIte, wlet, Option.bind_some, true_and, and_true, not_true_eq_false, not_false_eq_true, reduceCtorEq, n0_, n1_, n2_, n3_, n4_, n5_, n6_, n7_, n8_, n9_, n10_, n12_, n16_, n18_, n20_, n21_, n22_, n24_, n25_, n26_, n27_, n28_, n29_, n30_, n31_, n32_, n40_, n41_, n42_, n43_, n45_, n48_, n54_, n57_, n58_, n59_, n60_, n61_, n63_, n96_, n97_, n99_, n100_, n122_, n126_, n200_, n255_, n375_, n400_, n1000_, n2000_, n9999_, n5764801_, n1000000_, n3000_, m1, m2, le_t, le_f, lt_t, lt_f, eq_t, eq_f, no_lt, no_le, le_no, lt_no, eq_no, no_eq, add_no, wib_t, clamp, nI_add, pk_mul, pk_sub, nor_, nand_, ndif_, shl_, sh1_, shr_, tbn, tb0, tb1, les_t, les_f, pk_div, rem_, remv, and31, wu1, wuc, wui, wu2, ws1, wsc, ws2, wv1, n11_, n13_, n14_, n15_, n17_, n19_, n23_, n56_, n64_, fX3_fill_b0, z0, z1, he, eg]
      | false =>
        rw [if_neg (by decide)] at eg
        simp (disch := omega) only [↓reduceIte, wlet, Option.bind_some, true_and, and_true, not_true_eq_false, not_false_eq_true, reduceCtorEq, n0_, n1_, n2_, n3_, n4_, n5_, n6_, n7_, n8_, n9_, n10_, n12_, n16_, n18_, n20_, n21_, n22_, n24_, n25_, n26_, n27_, n28_, n29_, n30_, n31_, n32_, n40_, n41_, n42_, n43_, n45_, n48_, n54_, n57_, n58_, n59_, n60_, n61_, n63_, n96_, n97_, n99_, n100_, n122_, n126_, n200_, n255_, n375_, n400_, n1000_, n2000_, n9999_, n5764801_, n1000000_, n3000_, m1, m2, le_t, le_f, lt_t, lt_f, eq_t, eq_f, no_lt, no_le, le_no, lt_no, eq_no, no_eq, add_no, wib_t, clamp, nI_add, pk_mul, pk_sub, nor_, nand_, ndif_, shl_, sh1_, shr_, tbn, tb0, tb1, les_t, les_f, pk_div, rem_, remv, and31, wu1, wuc, wui, wu2, ws1, wsc, ws2, wv1, n11_, n13_, n14_, n15_, n17_, n19_, n23_, n56_, n64_, fX3_fill_b0, z0, z1, he, eg]
theorem caps_b (F : Nat) : (caps F).length ≤ 18 ∧ ∀ c ∈ caps F, c ≤ 6 := by
  have s0 := st_le (mk F 0) (mk_lt F 0)
  have s1 := st_le (mk F 1) (mk_lt F 1)
  have s2 := st_le (mk F 2) (mk_lt F 2)
  unfold caps
  refine ⟨by rw [List.length_append, List.length_append]; omega, fun c hc => ?_⟩
  rcases List.mem_append.mp hc with q | q
  · rcases List.mem_append.mp q with q | q
    · exact s0.2 c q
    · exact s1.2 c q
  · exact s2.2 c q
theorem c_canLay (hW : WL L) (hC : CL h L) {n H F : Nat} (hn : n ≤ gnt L) (hH : H ≤ 6) (hF : F < 262144) : ∃ b g, fX3_canLay h (nI H) (nI (gnt L - n)) (nI F) = some (b, g) ∧ (b = true ↔ H ≤ bst (tlr L n) F) ∧ fr sL h g ∧ g.1 130 1 = h.1 130 1 := by
  have n2 := hW.2.1
  have hb := tlr_b hW hn
  rw [bst_lay hb, tlr_len]
  obtain ⟨g1, e1, z1, f1, j1⟩ := c_short hW hC hn hH
  have z0 := z1.1
  have hlen : ((srt (tlr L n)).take H).length = min H n := by rw [List.length_take, srt_len, tlr_len]
  by_cases hq : H ≤ n
  · have hl2 : ((srt (tlr L n)).take H).length = H := by rw [hlen, Nat.min_eq_left hq]
    rw [hl2] at z0
    obtain ⟨g2, e2, s2, f2, j2⟩ := c_stretch (h := g1) F hF
    obtain ⟨cb1, cb2⟩ := caps_b F
    obtain ⟨b, g3, e3, hb3, s3, f3⟩ := c_fill (acc := (srt (tlr L n)).take H) (by omega) 64 0 (by omega) (by omega) g2 (caps F) ⟨by rw [j2 4 (by omega)]; exact z1.1, fun i hi => by rw [fr_at f2 (by omega)]; exact z1.2 i hi⟩ s2 cb1 (fun i hi => by rw [getD_at hi]; exact cb2 _ (List.getElem_mem hi)) (fun i hi => by
      rw [getD_at hi]
      exact (hb _ ((srt_perm _).subset (List.mem_of_mem_take (List.getElem_mem hi)))).2)
    refine ⟨b, g3, ?_, ?_, fr_tr f1 (fr_tr (fr_mono f2 (fun c q => by unfold sL; omega)) (fr_mono f3 (fun c q => by unfold sL; omega))), ?_⟩
    · simp (disch := omega) only [↓reduceIte, wlet, Option.bind_some, true_and, and_true, not_true_eq_false, not_false_eq_true, reduceCtorEq, n0_, n1_, n2_, n3_, n4_, n5_, n6_, n7_, n8_, n9_, n10_, n12_, n16_, n18_, n20_, n21_, n22_, n24_, n25_, n26_, n27_, n28_, n29_, n30_, n31_, n32_, n40_, n41_, n42_, n43_, n45_, n48_, n54_, n57_, n58_, n59_, n60_, n61_, n63_, n96_, n97_, n99_, n100_, n122_, n126_, n200_, n255_, n375_, n400_, n1000_, n2000_, n9999_, n5764801_, n1000000_, n3000_, m1, m2, le_t, le_f, lt_t, lt_f, eq_t, eq_f, no_lt, no_le, le_no, lt_no, eq_no, no_eq, add_no, wib_t, clamp, nI_add, pk_mul, pk_sub, nor_, nand_, ndif_, shl_, sh1_, shr_, tbn, tb0, tb1, les_t, les_f, pk_div, rem_, remv, and31, wu1, wuc, wui, wu2, ws1, wsc, ws2, wv1, n11_, n13_, n14_, n15_, n17_, n19_, n23_, n56_, n64_, fX3_canLay, e1, z0, e2, e3]
    · rw [hb3, List.drop_zero]
      constructor
      · exact fun q => ⟨hq, Pk_lens (List.reverse_perm _) q⟩
      · exact fun q => Pk_lens (List.reverse_perm _).symm q.2
    · rw [fr_at f3 (by omega), j2 1 (by omega), j1 1 (by omega)]
  · have hl2 : ((srt (tlr L n)).take H).length = n := by rw [hlen, Nat.min_eq_right (by omega)]
    rw [hl2] at z0
    refine ⟨false, g1, ?_, ⟨fun q => (by cases q), fun q => absurd q.1 hq⟩, f1, j1 1 (by omega)⟩
    simp (disch := omega) only [↓reduceIte, wlet, Option.bind_some, true_and, and_true, not_true_eq_false, not_false_eq_true, reduceCtorEq, n0_, n1_, n2_, n3_, n4_, n5_, n6_, n7_, n8_, n9_, n10_, n12_, n16_, n18_, n20_, n21_, n22_, n24_, n25_, n26_, n27_, n28_, n29_, n30_, n31_, n32_, n40_, n41_, n42_, n43_, n45_, n48_, n54_, n57_, n58_, n59_, n60_, n61_, n63_, n96_, n97_, n99_, n100_, n122_, n126_, n200_, n255_, n375_, n400_, n1000_, n2000_, n9999_, n5764801_, n1000000_, n3000_, m1, m2, le_t, le_f, lt_t, lt_f, eq_t, eq_f, no_lt, no_le, le_no, lt_no, eq_no, no_eq, add_no, wib_t, clamp, nI_add, pk_mul, pk_sub, nor_, nand_, ndif_, shl_, sh1_, shr_, tbn, tb0, tb1, les_t, les_f, pk_div, rem_, remv, and31, wu1, wuc, wui, wu2, ws1, wsc, ws2, wv1, n11_, n13_, n14_, n15_, n17_, n19_, n23_, n56_, n64_, fX3_canLay, e1, z0]
end G52

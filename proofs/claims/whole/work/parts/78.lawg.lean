/-! THE LAW'S TEXT: ghosts -/
/-- a piece of the law: the token state, this side's steps, the other's codes, what it says -/
abbrev gPc : Type := (Nat × Nat) × List Int32 × List Int32 × ((Nat → Int32) → Int32)
def gFa (T : gTp) (b : Nat) : Nat := if gIs T b 21 then 1 else if gIs T b 22 then 2 else if gIs T b 23 then 3 else if gIs T b 24 then 4 else 0
def gJo (T : gTp) (l b : Nat) : Nat := if l = 0 then (if gIs T b 19 then 26 else if gIs T b 20 then 27 else 0) else if l = 1 then (if gIg T b 60 then 24 else if gIg T b 61 then 25 else 0) else if l = 2 then (if gIg T b 43 then 20 else if gIg T b 45 then 21 else 0) else (if gIg T b 42 then 22 else 0)
def cJ (c : Nat) : Int32 := if c = 26 then -6 else if c = 27 then -7 else if c = 24 then -8 else if c = 25 then -9 else if c = 20 then -10 else if c = 21 then -11 else if c = 22 then -12 else 0
def vJ (c : Nat) (x y : Int32) : Int32 := if c = 26 then (if x = 0 then 0 else if y = 0 then 0 else 1) else if c = 27 then (if x = 0 then (if y = 0 then 0 else 1) else 1) else if c = 24 then (if y ≤ x then 0 else 1) else if c = 25 then (if x = y then 1 else 0) else if c = 20 then x + y else if c = 21 then x - y else x * y
def vN (x : Int32) : Int32 := if x = 0 then 1 else 0
def gStt (T : gTp) (b : Nat) : Bool := decide (gFa T b ≠ 0) || (gIs T b 18 || (decide (gTk T b = 2) || gIg T b 40))
def gAs (T : gTp) (b : Nat) : Int32 := if gFa T b = 0 then nI (gTn T b) else -nI (gFa T b)
def gAr (T : gTp) (b : Nat) : Int32 := if gFa T b = 0 then nI (100 + gTn T b) else nI (gFa T b)
def gAv (T : gTp) (b : Nat) (e : Nat → Int32) : Int32 := if gFa T b = 0 then nI (gTn T b) else e (gFa T b)
def gPz (s : Nat × Nat) : gPc := (s, [], [], fun _ => 0)
def gPn (x : gPc) : gPc := (x.1, x.2.1 ++ [-5], nI 30 :: x.2.2.1, fun e => vN (x.2.2.2 e))
def gPo (T : gTp) (x : gPc) : gPc := (gTs T 41 x.1, x.2.1, nI 28 :: (x.2.2.1 ++ [nI 29]), x.2.2.2)
def gPa (T : gTp) (s : Nat × Nat) : gPc := (nx T s, [gAs T s.1], [gAr T s.1], gAv T s.1)
def gPart (r0 r1 : Nat → Nat × Nat → gPc) (T : gTp) (d : Nat) (s : Nat × Nat) : gPc :=
  if s.2 ≠ 0 then gPz s else if gStt T s.1 = false then gPz (fl T 1 s) else if 4 < d then gPz (fl T 5 s) else if gIs T s.1 18 then gPn (r1 (d + 1) (nx T s)) else if gIg T s.1 40 then gPo T (r0 (d + 1) (nx T s)) else gPa T s
def gJn (T : gTp) (l : Nat) (a x : gPc) : gPc := (x.1, a.2.1 ++ (x.2.1 ++ [cJ (gJo T l a.1.1)]), a.2.2.1 ++ (nI (gJo T l a.1.1) :: x.2.2.1), fun e => vJ (gJo T l a.1.1) (a.2.2.2 e) (x.2.2.2 e))
def gLp (r : Nat × Nat → gPc) (T : gTp) (l : Nat) : Nat → gPc → gPc
  | 0, a => a
  | m + 1, a => if a.1.2 ≠ 0 ∨ gJo T l a.1.1 = 0 then a else gLp r T l m (gJn T l a (r (nx T a.1)))
def gMo (l : Nat) : Nat := if l = 1 then 1 else 1000
def gX (T : gTp) : Nat → Bool → Nat → Nat → Nat × Nat → gPc
  | 0, _, _, _, s => gPz s
  | n + 1, true, l, d, s => if 3 < l then gX T n false 0 d s else gLp (gX T n true (l + 1) d) T l (gMo l) (gX T n true (l + 1) d s)
  | n + 1, false, _, d, s => gPart (gX T n true 0) (gX T n false 0) T d s
section G78
variable {T : gTp} {b : Nat}
theorem gX_p {n l d : Nat} {s : Nat × Nat} : gX T (n + 1) false l d s = gPart (gX T n true 0) (gX T n false 0) T d s := rfl
theorem gX_4 {n l d : Nat} {s : Nat × Nat} (h : 3 < l) : gX T (n + 1) true l d s = gX T n false 0 d s := if_pos h
theorem gX_l {n l d : Nat} {s : Nat × Nat} (h : l ≤ 3) : gX T (n + 1) true l d s = gLp (gX T n true (l + 1) d) T l (gMo l) (gX T n true (l + 1) d s) := if_neg (by omega)
theorem gLp_0 {r : Nat × Nat → gPc} {l : Nat} {a : gPc} (h : a.1.2 ≠ 0 ∨ gJo T l a.1.1 = 0) : ∀ {m : Nat}, gLp r T l m a = a
  | 0 => rfl
  | _ + 1 => if_pos h
theorem gLp_s {r : Nat × Nat → gPc} {l m : Nat} {a : gPc} (h : ¬ (a.1.2 ≠ 0 ∨ gJo T l a.1.1 = 0)) : gLp r T l (m + 1) a = gLp r T l m (gJn T l a (r (nx T a.1))) := if_neg h
theorem gLp_2 {r : Nat × Nat → gPc} {l m : Nat} {a : gPc} (h : (gLp r T l m a).1.2 = 0) : a.1.2 = 0 := by
  by_cases q : a.1.2 = 0
  · exact q
  · rw [gLp_0 (Or.inl q)] at h; exact h
/-- parts: the ways -/
theorem gP_f {r0 r1 : Nat → Nat × Nat → gPc} {d : Nat} {s : Nat × Nat} (h : s.2 ≠ 0) : gPart r0 r1 T d s = gPz s := if_pos h
theorem gP_1 {r0 r1 : Nat → Nat × Nat → gPc} {d : Nat} {s : Nat × Nat} (h : s.2 = 0) (h1 : gStt T s.1 = false) : gPart r0 r1 T d s = gPz (fl T 1 s) := by
  unfold gPart; rw [if_neg (fun z => z h), if_pos h1]
theorem gP_5 {r0 r1 : Nat → Nat × Nat → gPc} {d : Nat} {s : Nat × Nat} (h : s.2 = 0) (h1 : gStt T s.1 = true) (hd : 4 < d) : gPart r0 r1 T d s = gPz (fl T 5 s) := by
  unfold gPart; rw [if_neg (fun z => z h), if_neg (by rw [h1]; decide), if_pos hd]
theorem gP_n {r0 r1 : Nat → Nat × Nat → gPc} {d : Nat} {s : Nat × Nat} (h : s.2 = 0) (h1 : gStt T s.1 = true) (hd : d ≤ 4) (hn : gIs T s.1 18 = true) : gPart r0 r1 T d s = gPn (r1 (d + 1) (nx T s)) := by
  unfold gPart; rw [if_neg (fun z => z h), if_neg (by rw [h1]; decide), if_neg (by omega), if_pos hn]
theorem gP_o {r0 r1 : Nat → Nat × Nat → gPc} {d : Nat} {s : Nat × Nat} (h : s.2 = 0) (h1 : gStt T s.1 = true) (hd : d ≤ 4) (hn : gIs T s.1 18 = false) (ho : gIg T s.1 40 = true) : gPart r0 r1 T d s = gPo T (r0 (d + 1) (nx T s)) := by
  unfold gPart; rw [if_neg (fun z => z h), if_neg (by rw [h1]; decide), if_neg (by omega), if_neg (by rw [hn]; decide), if_pos ho]
theorem gP_a {r0 r1 : Nat → Nat × Nat → gPc} {d : Nat} {s : Nat × Nat} (h : s.2 = 0) (h1 : gStt T s.1 = true) (hd : d ≤ 4) (hn : gIs T s.1 18 = false) (ho : gIg T s.1 40 = false) : gPart r0 r1 T d s = gPa T s := by
  unfold gPart; rw [if_neg (fun z => z h), if_neg (by rw [h1]; decide), if_neg (by omega), if_neg (by rw [hn]; decide), if_neg (by rw [ho]; decide)]
theorem gP_c {r0 r1 : Nat → Nat × Nat → gPc} {d : Nat} {s : Nat × Nat} (Q : gPc → Prop) (q0 : s.2 ≠ 0 → Q (gPz s)) (q1 : s.2 = 0 → gStt T s.1 = false → Q (gPz (fl T 1 s))) (q5 : s.2 = 0 → gStt T s.1 = true → 4 < d → Q (gPz (fl T 5 s)))
    (qn : s.2 = 0 → gStt T s.1 = true → d ≤ 4 → gIs T s.1 18 = true → Q (gPn (r1 (d + 1) (nx T s)))) (qo : s.2 = 0 → gStt T s.1 = true → d ≤ 4 → gIs T s.1 18 = false → gIg T s.1 40 = true → Q (gPo T (r0 (d + 1) (nx T s)))) (qa : s.2 = 0 → gStt T s.1 = true → d ≤ 4 → gIs T s.1 18 = false → gIg T s.1 40 = false → Q (gPa T s)) : Q (gPart r0 r1 T d s) := by
  by_cases h : s.2 = 0
  · cases h1 : gStt T s.1 with
    | false => rw [gP_1 h h1]; exact q1 h h1
    | true =>
      by_cases hd : 4 < d
      · rw [gP_5 h h1 hd]; exact q5 h h1 hd
      · have hd : d ≤ 4 := by omega
        cases hn : gIs T s.1 18 with
        | true => rw [gP_n h h1 hd hn]; exact qn h h1 hd hn
        | false =>
          cases ho : gIg T s.1 40 with
          | true => rw [gP_o h h1 hd hn ho]; exact qo h h1 hd hn ho
          | false => rw [gP_a h h1 hd hn ho]; exact qa h h1 hd hn ho
  · rw [gP_f h]; exact q0 h
theorem gFa_le : gFa T b ≤ 4 := by
  unfold gFa
  split
  · omega
  · split
    · omega
    · split
      · omega
      · split <;> omega
theorem gFa_1 (h : gFa T b ≠ 0) : gTk T b = 1 := by
  have key : ∀ i, gIs T b i = true → gTk T b = 1 := fun i q => by
    unfold gIs at q
    simp only [Bool.and_eq_true, decide_eq_true_eq] at q
    exact q.1
  unfold gFa at h
  split at h
  · rename_i q; exact key _ q
  · split at h
    · rename_i q; exact key _ q
    · split at h
      · rename_i q; exact key _ q
      · split at h
        · rename_i q; exact key _ q
        · exact absurd rfl h
theorem gIs_1 {i : Nat} (h : gIs T b i = true) : gTk T b = 1 := by
  unfold gIs at h
  simp only [Bool.and_eq_true, decide_eq_true_eq] at h
  exact h.1
theorem gIg_3 {i : Nat} (h : gIg T b i = true) : gTk T b = 3 ∧ T.2 (gPl T b) = i := by
  unfold gIg at h
  simp only [Bool.and_eq_true, decide_eq_true_eq] at h
  exact h
theorem gIg_ne {i j : Nat} (hij : i ≠ j) (h : gIg T b i = true) : gIg T b j = false := by
  have := gIg_3 h
  unfold gIg
  rw [decide_eq_false (p := T.2 (gPl T b) = j) (by omega), Bool.and_false]
theorem gIg_w {i j : Nat} (h : gIg T b i = true) : gIs T b j = false := by
  have := (gIg_3 h).1
  unfold gIs
  rw [decide_eq_false (p := gTk T b = 1) (by omega), Bool.false_and]
theorem gIs_w {i j : Nat} (h : gIs T b i = true) : gIg T b j = false := by
  have := gIs_1 h
  unfold gIg
  rw [decide_eq_false (p := gTk T b = 3) (by omega), Bool.false_and]
/-- a token that is not the end takes room -/
theorem gTe_s (hb : b ≤ T.1) (hk : gTk T b ≠ 0) : b < gTe T b ∧ gTe T b ≤ T.1 := by
  obtain ⟨p1, p2⟩ := gPl_b hb
  obtain ⟨t1, t2, t3⟩ := gTe_b hb
  have : gPl T b ≠ T.1 := fun q => hk (by unfold gTk; rw [if_pos q])
  have := t3 (by omega)
  omega
theorem gSt_k (h : gStt T b = true) : gTk T b ≠ 0 := by
  unfold gStt at h
  simp only [Bool.or_eq_true, decide_eq_true_eq] at h
  rcases h with h | h | h | h
  · rw [gFa_1 h]; omega
  · rw [gIs_1 h]; omega
  · rw [h]; omega
  · rw [(gIg_3 h).1]; omega
theorem gJ_k {l : Nat} (h : gJo T l b ≠ 0) : gTk T b ≠ 0 := by
  unfold gJo at h
  split at h
  · split at h
    · rename_i q; rw [gIs_1 q]; omega
    · split at h
      · rename_i q; rw [gIs_1 q]; omega
      · exact absurd rfl h
  · split at h
    · split at h
      · rename_i q; rw [(gIg_3 q).1]; omega
      · split at h
        · rename_i q; rw [(gIg_3 q).1]; omega
        · exact absurd rfl h
    · split at h
      · split at h
        · rename_i q; rw [(gIg_3 q).1]; omega
        · split at h
          · rename_i q; rw [(gIg_3 q).1]; omega
          · exact absurd rfl h
      · split at h
        · rename_i q; rw [(gIg_3 q).1]; omega
        · exact absurd rfl h
/-- how much is read, how long the lists are -/
def gLg (s : Nat × Nat) (T : gTp) (x : gPc) : Prop := x.1.1 ≤ T.1 ∧ (x.1.2 = 0 → s.1 + x.2.1.length ≤ x.1.1 ∧ s.1 + x.2.2.1.length ≤ x.1.1)
theorem fl_1 {k : Nat} {s : Nat × Nat} : (fl T k s).1 = s.1 := by unfold fl; split <;> rfl
theorem nx_le {s : Nat × Nat} (h : s.1 ≤ T.1) : (nx T s).1 ≤ T.1 := by
  unfold nx; split
  · exact (gTe_b h).2.1
  · exact h
theorem gTs_le {x : Nat} {s : Nat × Nat} (h : s.1 ≤ T.1) : (gTs T x s).1 ≤ T.1 := by
  unfold gTs; split
  · exact nx_le h
  · rw [fl_1]; exact h
theorem gTs_3 {x : Nat} {s : Nat × Nat} (h : (gTs T x s).2 = 0) : s.2 = 0 ∧ gIg T s.1 x = true ∧ gTs T x s = (gTe T s.1, 0) := by
  have h2 := gTs_2 h
  unfold gTs at h ⊢
  cases q : gIg T s.1 x with
  | true => rw [if_pos (show true = true from rfl), nx_0 h2]; exact ⟨h2, rfl, rfl⟩
  | false => rw [q, if_neg (by decide)] at h; exact absurd h (fl_ne (by omega))
theorem gLp_n {r : Nat × Nat → gPc} {l : Nat} {s0 : Nat × Nat} (hr : ∀ s, s.1 ≤ T.1 → gLg s T (r s)) : ∀ (m : Nat) (a : gPc), gLg s0 T a → gLg s0 T (gLp r T l m a)
  | 0, a, h => h
  | m + 1, a, h => by
    by_cases c : a.1.2 ≠ 0 ∨ gJo T l a.1.1 = 0
    · rw [gLp_0 c]; exact h
    · rw [gLp_s c]
      have c1 : a.1.2 = 0 := by
        by_cases q : a.1.2 = 0
        · exact q
        · exact absurd (Or.inl q) c
      have c2 : gJo T l a.1.1 ≠ 0 := fun q => c (Or.inr q)
      obtain ⟨t1, t2⟩ := gTe_s h.1 (gJ_k c2)
      obtain ⟨a1, a2⟩ := h.2 c1
      have hx := hr (nx T a.1) (nx_le h.1)
      rw [nx_0 c1] at hx ⊢
      refine gLp_n hr m _ ⟨hx.1, fun q => ?_⟩
      obtain ⟨x1, x2⟩ := hx.2 q
      have x1 : gTe T a.1.1 + (r (gTe T a.1.1, 0)).2.1.length ≤ (r (gTe T a.1.1, 0)).1.1 := x1
      have x2 : gTe T a.1.1 + (r (gTe T a.1.1, 0)).2.2.1.length ≤ (r (gTe T a.1.1, 0)).1.1 := x2
      show s0.1 + (a.2.1 ++ ((r (gTe T a.1.1, 0)).2.1 ++ [cJ (gJo T l a.1.1)])).length ≤ (r (gTe T a.1.1, 0)).1.1 ∧ s0.1 + (a.2.2.1 ++ (nI (gJo T l a.1.1) :: (r (gTe T a.1.1, 0)).2.2.1)).length ≤ (r (gTe T a.1.1, 0)).1.1
      rw [List.length_append, List.length_append, List.length_append, List.length_cons, List.length_cons, List.length_nil]
      omega
theorem gX_n : ∀ (n : Nat), (∀ d s, s.1 ≤ T.1 → gLg s T (gX T n false 0 d s)) ∧ ∀ l d s, s.1 ≤ T.1 → gLg s T (gX T n true l d s)
  | 0 => ⟨fun d s h => ⟨h, fun _ => ⟨Nat.le_refl _, Nat.le_refl _⟩⟩, fun l d s h => ⟨h, fun _ => ⟨Nat.le_refl _, Nat.le_refl _⟩⟩⟩
  | n + 1 => by
    obtain ⟨i1, i2⟩ := gX_n n
    have hp : ∀ d s, s.1 ≤ T.1 → gLg s T (gX T (n + 1) false 0 d s) := by
      intro d s h
      rw [gX_p]
      refine gP_c (fun x => gLg s T x) (fun _ => ⟨h, fun _ => ⟨Nat.le_refl _, Nat.le_refl _⟩⟩) (fun _ _ => ⟨by show (fl T 1 s).1 ≤ T.1; rw [fl_1]; exact h, fun q => absurd q (fl_ne (by omega))⟩) (fun _ _ _ => ⟨by show (fl T 5 s).1 ≤ T.1; rw [fl_1]; exact h, fun q => absurd q (fl_ne (by omega))⟩) (fun h0 hs hd hn => ?_) (fun h0 hs hd hn ho => ?_) (fun h0 hs hd hn ho => ?_)
      · obtain ⟨t1, t2⟩ := gTe_s h (gSt_k hs)
        have hx := i1 (d + 1) (nx T s) (nx_le h)
        rw [nx_0 h0] at hx ⊢
        refine ⟨hx.1, fun q => ?_⟩
        obtain ⟨x1, x2⟩ := hx.2 q
        revert x1 x2
        generalize gX T n false 0 (d + 1) (gTe T s.1, 0) = x
        intro x1 x2
        have x1 : gTe T s.1 + x.2.1.length ≤ x.1.1 := x1
        have x2 : gTe T s.1 + x.2.2.1.length ≤ x.1.1 := x2
        show s.1 + (x.2.1 ++ [-5]).length ≤ x.1.1 ∧ s.1 + (nI 30 :: x.2.2.1).length ≤ x.1.1
        rw [List.length_append, List.length_cons, List.length_cons, List.length_nil]
        omega
      · obtain ⟨t1, t2⟩ := gTe_s h (gSt_k hs)
        have hx := i2 0 (d + 1) (nx T s) (nx_le h)
        rw [nx_0 h0] at hx ⊢
        revert hx
        generalize gX T n true 0 (d + 1) (gTe T s.1, 0) = x
        intro hx
        refine ⟨gTs_le hx.1, fun q => ?_⟩
        have q : (gTs T 41 x.1).2 = 0 := q
        obtain ⟨q1, q2, q3⟩ := gTs_3 q
        obtain ⟨x1, x2⟩ := hx.2 q1
        obtain ⟨u1, u2⟩ := gTe_s hx.1 (show gTk T x.1.1 ≠ 0 by rw [(gIg_3 q2).1]; omega)
        have x1 : gTe T s.1 + x.2.1.length ≤ x.1.1 := x1
        have x2 : gTe T s.1 + x.2.2.1.length ≤ x.1.1 := x2
        show s.1 + x.2.1.length ≤ (gTs T 41 x.1).1 ∧ s.1 + (nI 28 :: (x.2.2.1 ++ [nI 29])).length ≤ (gTs T 41 x.1).1
        rw [q3, List.length_cons, List.length_append, List.length_cons, List.length_nil]
        show s.1 + x.2.1.length ≤ gTe T x.1.1 ∧ s.1 + (x.2.2.1.length + (0 + 1) + 1) ≤ gTe T x.1.1
        omega
      · obtain ⟨t1, t2⟩ := gTe_s h (gSt_k hs)
        refine ⟨nx_le h, fun _ => ?_⟩
        show s.1 + 1 ≤ (nx T s).1 ∧ s.1 + 1 ≤ (nx T s).1
        rw [nx_0 h0]
        show s.1 + 1 ≤ gTe T s.1 ∧ s.1 + 1 ≤ gTe T s.1
        omega
    refine ⟨hp, fun l d s h => ?_⟩
    by_cases hl : 3 < l
    · rw [gX_4 hl]; exact i1 d s h
    · rw [gX_l (by omega)]
      exact gLp_n (fun s2 h2 => i2 (l + 1) d s2 h2) _ _ (i2 (l + 1) d s h)
/-- fuel: a part, a level -/
def gFp (d : Nat) : Nat := 1 + 6 * (5 - d)
def gFl (l d : Nat) : Nat := gFp d + (5 - l)
/-- what holds of all that can be read -/
theorem gLp_i {r : Nat × Nat → gPc} {l : Nat} (Q : gPc → Prop) (Qx : gPc → Prop) (hr : ∀ s, s.2 = 0 → s.1 ≤ T.1 → (r s).1.2 = 0 → Qx (r s)) (hr1 : ∀ s, s.1 ≤ T.1 → (r s).1.1 ≤ T.1) (hj : ∀ a x, Q a → Qx x → gJo T l a.1.1 ≠ 0 → Q (gJn T l a x)) : ∀ (m : Nat) (a : gPc), a.1.1 ≤ T.1 → Q a → (gLp r T l m a).1.2 = 0 → Q (gLp r T l m a)
  | 0, a, _, h, _ => h
  | m + 1, a, h1, h, q => by
    by_cases c : a.1.2 ≠ 0 ∨ gJo T l a.1.1 = 0
    · rw [gLp_0 c]; exact h
    · rw [gLp_s c] at q ⊢
      have c1 : a.1.2 = 0 := by
        by_cases q : a.1.2 = 0
        · exact q
        · exact absurd (Or.inl q) c
      have q2 : (gJn T l a (r (nx T a.1))).1.2 = 0 := gLp_2 q
      have q2 : (r (nx T a.1)).1.2 = 0 := q2
      exact gLp_i Q Qx hr hr1 hj m _ (hr1 _ (nx_le h1)) (hj a _ h (hr _ (by rw [nx_2]; exact c1) (nx_le h1) q2) (fun z => c (Or.inr z))) q
theorem gX_i (PP : Nat → gPc → Prop) (PL : Nat → Nat → gPc → Prop)
    (ha : ∀ d s, d ≤ 4 → s.1 ≤ T.1 → gStt T s.1 = true → gIs T s.1 18 = false → gIg T s.1 40 = false → PP d (gPa T s))
    (hn : ∀ d x, d ≤ 4 → PP (d + 1) x → PP d (gPn x)) (ho : ∀ d x, d ≤ 4 → PL 0 (d + 1) x → PP d (gPo T x))
    (h4 : ∀ d x, PP d x → PL 4 d x) (hl : ∀ l d x, l ≤ 3 → PL (l + 1) d x → PL l d x)
    (hj : ∀ l d a x, l ≤ 3 → l ≠ 1 → PL l d a → PL (l + 1) d x → gJo T l a.1.1 ≠ 0 → PL l d (gJn T l a x))
    (hj1 : ∀ d a x, PL 2 d a → PL 2 d x → gJo T 1 a.1.1 ≠ 0 → PL 1 d (gJn T 1 a x)) :
    ∀ (n : Nat), (∀ d s, d ≤ 5 → gFp d ≤ n → s.1 ≤ T.1 → s.2 = 0 → (gX T n false 0 d s).1.2 = 0 → PP d (gX T n false 0 d s)) ∧ ∀ l d s, l ≤ 4 → d ≤ 5 → gFl l d ≤ n → s.1 ≤ T.1 → s.2 = 0 → (gX T n true l d s).1.2 = 0 → PL l d (gX T n true l d s)
  | 0 => ⟨fun d s _ h => by unfold gFp at h; omega, fun l d s _ _ h => by unfold gFl gFp at h; omega⟩
  | n + 1 => by
    obtain ⟨i1, i2⟩ := gX_i PP PL ha hn ho h4 hl hj hj1 n
    refine ⟨fun d s hd hf h h0 => ?_, fun l d s hl4 hd hf h h0 => ?_⟩
    · rw [gX_p]
      refine gP_c (fun x => x.1.2 = 0 → PP d x) (fun q => absurd h0 q) (fun _ _ q => absurd q (fl_ne (by omega))) (fun _ _ _ q => absurd q (fl_ne (by omega))) (fun _ hs hd4 hn4 q => ?_) (fun _ hs hd4 hn4 ho4 q => ?_) (fun _ hs hd4 hn4 ho4 q => ha d s hd4 h hs hn4 ho4)
      · exact hn d _ hd4 (i1 (d + 1) _ (by omega) (by unfold gFp at hf ⊢; omega) (nx_le h) (by rw [nx_2]; exact h0) q)
      · exact ho d _ hd4 (i2 0 (d + 1) _ (by omega) (by omega) (by unfold gFl; unfold gFp at hf ⊢; omega) (nx_le h) (by rw [nx_2]; exact h0) (gTs_2 q))
    · by_cases c : 3 < l
      · have : l = 4 := by omega
        subst this
        rw [gX_4 c]
        intro q
        exact h4 d _ (i1 d s hd (by unfold gFl at hf; omega) h h0 q)
      · rw [gX_l (by omega)]
        intro q
        have q0 := gLp_2 q
        have hf1 : gFl (l + 1) d ≤ n := by unfold gFl at hf ⊢; omega
        have b0 := i2 (l + 1) d s (by omega) hd hf1 h h0 q0
        have n0 := ((gX_n (T := T) n).2 (l + 1) d s h).1
        by_cases c1 : l = 1
        · subst c1
          revert q
          show (gLp _ T 1 1 _).1.2 = 0 → PL 1 d (gLp _ T 1 1 _)
          by_cases c : (gX T n true (1 + 1) d s).1.2 ≠ 0 ∨ gJo T 1 (gX T n true (1 + 1) d s).1.1 = 0
          · rw [gLp_0 c]
            intro _
            exact hl 1 d _ (by omega) b0
          · rw [gLp_s c]
            intro q
            have q : (gX T n true (1 + 1) d (nx T (gX T n true (1 + 1) d s).1)).1.2 = 0 := q
            exact hj1 d _ _ b0 (i2 2 d _ (by omega) hd hf1 (nx_le n0) (by rw [nx_2]; exact q0) q) (fun z => c (Or.inr z))
        · exact gLp_i (PL l d) (PL (l + 1) d) (fun s2 h2 h3 q2 => i2 (l + 1) d s2 (by omega) hd hf1 h3 h2 q2) (fun s2 h2 => ((gX_n (T := T) n).2 (l + 1) d s2 h2).1) (fun a x pa px pj => hj l d a x (by omega) c1 pa px pj) _ _ n0 (hl l d _ (by omega) b0) q
end G78

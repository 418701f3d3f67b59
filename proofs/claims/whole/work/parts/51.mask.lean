/-! FREE LINES as bits, their stretches, how many can be laid -/
def blk (p l : Nat) : Nat := (2 ^ l - 1) * 2 ^ p
def fit (F p l : Nat) : Bool := decide (p % 6 + l ≤ 6) && decide (bdf (blk p l) F = 0)
def stN (x p n : Nat) : Nat := if x.testBit p then n + 1 else 0
def stS (x p : Nat) (a : List Nat × Nat) : List Nat × Nat := if 0 < stN x p a.2 ∧ (p % 6 = 5 ∨ x.testBit (p + 1) = false) then (a.1 ++ [stN x p a.2], 0) else (a.1, stN x p a.2)
def st (m : Nat) : List Nat := (gF (stS m) 6 ([], 0)).1
def mk (F k : Nat) : Nat := F / 2 ^ (6 * k) % 2 ^ 6
def caps (F : Nat) : List Nat := st (mk F 0) ++ st (mk F 1) ++ st (mk F 2)
def oth (F k : Nat) : List Nat := if k = 0 then st (mk F 1) ++ st (mk F 2) else if k = 1 then st (mk F 0) ++ st (mk F 2) else st (mk F 0) ++ st (mk F 1)
def nzf (l : List Nat) : List Nat := l.filter (fun x => decide (0 < x))
theorem mk_bit (F k b : Nat) : (mk F k).testBit b = (decide (b < 6) && F.testBit (6 * k + b)) := by
  unfold mk
  rw [Nat.testBit_mod_two_pow, Nat.testBit_div_two_pow, Nat.add_comm b]
theorem mk_lt (F k : Nat) : mk F k < 64 := Nat.mod_lt _ (by decide)
theorem blk_bit (p l b : Nat) : (blk p l).testBit b = (decide (p ≤ b) && decide (b < p + l)) := wanted_bit l p b
theorem caps_perm (F : Nat) {k : Nat} (hk : k < 3) : (caps F).Perm (st (mk F k) ++ oth F k) := by
  unfold caps oth
  rcases (show k = 0 ∨ k = 1 ∨ k = 2 by omega) with rfl | rfl | rfl
  · rw [if_pos rfl, List.append_assoc]
  · rw [if_neg (by omega), if_pos rfl, ← List.append_assoc]
    exact List.Perm.append_right _ List.perm_append_comm
  · rw [if_neg (by omega), if_neg (by omega)]
    exact List.perm_append_comm
theorem mk_at {F p l k : Nat} (hk : k = p / 6) (hl : p % 6 + l ≤ 6) : mk (bdf F (blk p l)) k = bdf (mk F k) (blk (p % 6) l) := by
  apply Nat.eq_of_testBit_eq
  intro b
  rw [mk_bit, bdf_bit, bdf_bit, mk_bit, blk_bit, blk_bit]
  by_cases hb : b < 6
  · have e1 : decide (p ≤ 6 * k + b) = decide (p % 6 ≤ b) := decide_eq_decide.mpr (by omega)
    have e2 : decide (6 * k + b < p + l) = decide (b < p % 6 + l) := decide_eq_decide.mpr (by omega)
    rw [e1, e2, Bool.and_assoc]
  · rw [decide_eq_false hb]
    rfl
theorem mk_ne {F p l k : Nat} (hk : k ≠ p / 6) (hl : p % 6 + l ≤ 6) : mk (bdf F (blk p l)) k = mk F k := by
  apply Nat.eq_of_testBit_eq
  intro b
  rw [mk_bit, bdf_bit, mk_bit, blk_bit]
  by_cases hb : b < 6
  · have e : (decide (p ≤ 6 * k + b) && decide (6 * k + b < p + l)) = false := by
      by_cases q : p ≤ 6 * k + b
      · rw [decide_eq_false (show ¬ 6 * k + b < p + l by omega), Bool.and_false]
      · rw [decide_eq_false q, Bool.false_and]
    rw [e, Bool.not_false, Bool.and_true]
  · rw [decide_eq_false hb]
    rfl
theorem oth_same {F p l : Nat} (hp : p < 18) (hl : p % 6 + l ≤ 6) : oth (bdf F (blk p l)) (p / 6) = oth F (p / 6) := by
  unfold oth
  rcases (show p / 6 = 0 ∨ p / 6 = 1 ∨ p / 6 = 2 by omega) with e | e | e
  · rw [mk_ne (k := 1) (by omega) hl, mk_ne (k := 2) (by omega) hl, if_pos e, if_pos e]
  · have e0 : ¬ p / 6 = 0 := by omega
    rw [mk_ne (k := 0) (by omega) hl, mk_ne (k := 2) (by omega) hl, if_neg e0, if_neg e0, if_pos e, if_pos e]
  · have e0 : ¬ p / 6 = 0 := by omega
    have e1 : ¬ p / 6 = 1 := by omega
    rw [mk_ne (k := 0) (by omega) hl, mk_ne (k := 1) (by omega) hl, if_neg e0, if_neg e0, if_neg e1, if_neg e1]
theorem fit_mk {F p l : Nat} (hl : p % 6 + l ≤ 6) : bdf (blk p l) F = 0 ↔ bdf (blk (p % 6) l) (mk F (p / 6)) = 0 := by
  rw [bdf_0, bdf_0]
  constructor
  · intro h b hb
    rw [blk_bit] at hb
    simp only [Bool.and_eq_true, decide_eq_true_eq] at hb
    have := h (6 * (p / 6) + b) (by rw [blk_bit]; simp only [Bool.and_eq_true, decide_eq_true_eq]; omega)
    rw [mk_bit, this, decide_eq_true (show b < 6 by omega)]
    rfl
  · intro h x hx
    rw [blk_bit] at hx
    simp only [Bool.and_eq_true, decide_eq_true_eq] at hx
    have := h (x - 6 * (p / 6)) (by rw [blk_bit]; simp only [Bool.and_eq_true, decide_eq_true_eq]; omega)
    rw [mk_bit, show 6 * (p / 6) + (x - 6 * (p / 6)) = x by omega] at this
    simp only [Bool.and_eq_true] at this
    exact this.2
/-! few numbers, all tried -/
def splitB (m l p : Nat) : Bool := (List.range (st m).length).any (fun i => (List.range 7).any (fun a => decide (a + l ≤ (st m).getD i 0) && (nzf (a :: ((st m).getD i 0 - l - a) :: (st m).eraseIdx i)).isPerm (st (bdf m (blk p l)))))
def placeB (m l i : Nat) : Bool := (List.range 6).any (fun p => decide (p + l ≤ 6) && decide (bdf (blk p l) m = 0) && (nzf (((st m).getD i 0 - l) :: (st m).eraseIdx i)).isPerm (st (bdf m (blk p l))))
theorem splitA : ∀ m, m < 64 → ∀ l, l < 7 → ∀ p, p < 6 → (1 ≤ l ∧ p + l ≤ 6 ∧ bdf (blk p l) m = 0) → splitB m l p = true := by decide +kernel
theorem placeA : ∀ m, m < 64 → ∀ l, l < 7 → ∀ i, i < (st m).length → 1 ≤ l → l ≤ (st m).getD i 0 → placeB m l i = true := by decide +kernel
theorem st_0 : ∀ m, m < 64 → (gF (stS m) 6 ([], 0)).2 = 0 := by decide +kernel
theorem st_le : ∀ m, m < 64 → (st m).length ≤ 3 ∧ ∀ c ∈ st m, c ≤ 6 := by decide +kernel
theorem st_run (F k : Nat) (pre : List Nat) : ∀ n, n ≤ 6 → gF (fun j => stS F (6 * k + j)) n (pre, 0) = (pre ++ (gF (stS (mk F k)) n ([], 0)).1, (gF (stS (mk F k)) n ([], 0)).2)
  | 0, _ => by simp [gF]
  | n + 1, hn => by
    rw [gF, gF, st_run F k pre n (by omega)]
    have e1 : (mk F k).testBit n = F.testBit (6 * k + n) := by rw [mk_bit, decide_eq_true (show n < 6 by omega), Bool.true_and]
    generalize gF (stS (mk F k)) n ([], 0) = a
    have e2 : stN F (6 * k + n) a.2 = stN (mk F k) n a.2 := by unfold stN; rw [e1]
    have e3 : ((6 * k + n) % 6 = 5 ∨ F.testBit (6 * k + n + 1) = false) ↔ (n % 6 = 5 ∨ (mk F k).testBit (n + 1) = false) := by
      by_cases q : n = 5
      · exact ⟨fun _ => Or.inl (by omega), fun _ => Or.inl (by omega)⟩
      · have e4 : (mk F k).testBit (n + 1) = F.testBit (6 * k + n + 1) := by rw [mk_bit, decide_eq_true (show n + 1 < 6 by omega), Bool.true_and, Nat.add_assoc]
        rw [e4]
        have : (6 * k + n) % 6 = 5 ↔ n % 6 = 5 := by omega
        rw [this]
    unfold stS
    simp only [e2, e3]
    split
    · rw [List.append_assoc]
    · rfl
theorem st_all (F : Nat) : gF (stS F) 18 ([], 0) = (caps F, 0) := by
  have h := fun k pre => st_run F k pre 6 (by omega)
  have z := fun k => st_0 (mk F k) (mk_lt F k)
  rw [show (18 : Nat) = 12 + 6 from rfl, gF_add, show (12 : Nat) = 6 + 6 from rfl, gF_add]
  have h0 := h 0 []
  have h1 := h 1 (st (mk F 0))
  have h2 := h 2 (st (mk F 0) ++ st (mk F 1))
  rw [z] at h0 h1 h2
  have e0 : (fun j => stS F (6 * 0 + j)) = stS F := by funext j; rw [Nat.mul_zero, Nat.zero_add]
  rw [e0, List.nil_append] at h0
  rw [h0]
  have h1 : gF (fun j => stS F (6 + j)) 6 (st (mk F 0), 0) = (st (mk F 0) ++ st (mk F 1), 0) := h1
  rw [show (gF (stS (mk F 0)) 6 ([], 0)).1 = st (mk F 0) from rfl, h1]
  exact h2
/-! laying -/
def Lp : Nat → List Nat → Prop
  | _, [] => True
  | F, l :: ls => ∃ p, p < 18 ∧ fit F p l = true ∧ Lp (bdf F (blk p l)) ls
theorem fit_spec {F p l : Nat} : fit F p l = true ↔ p % 6 + l ≤ 6 ∧ bdf (blk p l) F = 0 := by
  unfold fit
  simp only [Bool.and_eq_true, decide_eq_true_eq]
theorem getD_at {l : List Nat} {i : Nat} (h : i < l.length) : l.getD i 0 = l[i] := by
  rw [List.getD_eq_getElem?_getD, List.getElem?_eq_getElem h]
  rfl
theorem Lp_Pk : ∀ (ls : List Nat), (∀ l ∈ ls, 1 ≤ l ∧ l ≤ 6) → ∀ F, Lp F ls ↔ Pk (caps F) ls
  | [], _, _ => ⟨fun _ => trivial, fun _ => trivial⟩
  | l :: ls, hl, F => by
    obtain ⟨l1, l6⟩ := hl l List.mem_cons_self
    have hls : ∀ x ∈ ls, 1 ≤ x ∧ x ≤ 6 := fun x hx => hl x (List.mem_cons_of_mem _ hx)
    have hls1 : ∀ x ∈ ls, 1 ≤ x := fun x hx => (hls x hx).1
    constructor
    · rintro ⟨p, hp, hf, hL⟩
      obtain ⟨f1, f2⟩ := fit_spec.mp hf
      have ih := (Lp_Pk ls hls _).mp hL
      have sp := splitA (mk F (p / 6)) (mk_lt F _) l (by omega) (p % 6) (by omega) ⟨l1, f1, (fit_mk f1).mp f2⟩
      unfold splitB at sp
      rw [List.any_eq_true] at sp
      obtain ⟨i, hi, sp⟩ := sp
      rw [List.any_eq_true] at sp
      obtain ⟨a, ha, sp⟩ := sp
      rw [List.mem_range] at hi
      simp only [Bool.and_eq_true, decide_eq_true_eq] at sp
      obtain ⟨s1, s2⟩ := sp
      rw [getD_at hi] at s1 s2
      have s2 := List.isPerm_iff.mp s2
      have c1 := caps_perm (bdf F (blk p l)) (k := p / 6) (by omega)
      rw [mk_at rfl f1, oth_same hp f1] at c1
      have q1 := Pk_perm c1 ih
      have q2 := Pk_perm (List.Perm.append_right _ s2.symm) q1
      have q3 := (Pk_nz hls1 (cs := a :: ((st (mk F (p / 6)))[i] - l - a) :: (st (mk F (p / 6))).eraseIdx i)).mpr q2
      have q4 := Pk_merge q3
      rw [show a + ((st (mk F (p / 6)))[i] - l - a) = (st (mk F (p / 6)))[i] - l by omega] at q4
      exact ⟨(st (mk F (p / 6)))[i], (st (mk F (p / 6))).eraseIdx i ++ oth F (p / 6), (caps_perm F (by omega)).trans (List.Perm.append_right _ (erase_perm hi)), by omega, q4⟩
    · rintro ⟨c, ds, h1, h2, h3⟩
      have hc : c ∈ caps F := h1.symm.subset List.mem_cons_self
      have hk : ∃ k, k < 3 ∧ c ∈ st (mk F k) := by
        unfold caps at hc
        rcases List.mem_append.mp hc with q | q
        · rcases List.mem_append.mp q with q | q
          · exact ⟨0, by omega, q⟩
          · exact ⟨1, by omega, q⟩
        · exact ⟨2, by omega, q⟩
      obtain ⟨k, hk, hc⟩ := hk
      obtain ⟨i, hi, e⟩ := List.getElem_of_mem hc
      have pl := placeA (mk F k) (mk_lt F k) l (by omega) i hi l1 (by rw [getD_at hi]; omega)
      unfold placeB at pl
      rw [List.any_eq_true] at pl
      obtain ⟨j, hj, pl⟩ := pl
      rw [List.mem_range] at hj
      simp only [Bool.and_eq_true, decide_eq_true_eq] at pl
      obtain ⟨⟨p1, p2⟩, p3⟩ := pl
      rw [getD_at hi, e] at p3
      have p3 := List.isPerm_iff.mp p3
      have e1 : (6 * k + j) % 6 = j := by omega
      have e2 : (6 * k + j) / 6 = k := by omega
      have f1 : (6 * k + j) % 6 + l ≤ 6 := by omega
      have f2 : bdf (blk (6 * k + j) l) F = 0 := (fit_mk f1).mpr (by rw [e1, e2]; exact p2)
      refine ⟨6 * k + j, by omega, fit_spec.mpr ⟨f1, f2⟩, (Lp_Pk ls hls _).mpr ?_⟩
      have c1 := caps_perm (bdf F (blk (6 * k + j) l)) (k := k) hk
      have m1' := mk_at (F := F) (p := 6 * k + j) (l := l) (k := k) e2.symm f1
      have o1 := oth_same (F := F) (p := 6 * k + j) (l := l) (by omega) f1
      rw [e2] at o1
      rw [m1', o1, e1] at c1
      have h4 := erase_perm hi
      rw [e] at h4
      have h5 : ds.Perm ((st (mk F k)).eraseIdx i ++ oth F k) := (h1.symm.trans ((caps_perm F hk).trans (List.Perm.append_right _ h4))).cons_inv
      have q1 : Pk ((c - l) :: (st (mk F k)).eraseIdx i ++ oth F k) ls := Pk_perm (h5.cons _) h3
      have q2 := (Pk_nz hls1).mp q1
      exact Pk_perm c1.symm (Pk_perm (List.Perm.append_right _ p3) q2)
/-! how many at most -/
def bst : List Nat → Nat → Nat
  | [], _ => 0
  | l :: ls, F => gF (fun p a => if fit F p l then max a (1 + bst ls (bdf F (blk p l))) else a) 18 (bst ls F)
theorem gMax_iff {q : Nat → Bool} {v : Nat → Nat} (n a : Nat) : ∀ m, n ≤ gF (fun p a => if q p then max a (v p) else a) m a ↔ n ≤ a ∨ ∃ p, p < m ∧ q p = true ∧ n ≤ v p
  | 0 => by
    constructor
    · exact fun h => Or.inl h
    · rintro (h | ⟨p, h, -⟩)
      · exact h
      · omega
  | m + 1 => by
    have ih := gMax_iff (q := q) (v := v) n a m
    rw [gF]
    cases hq : q m with
    | false =>
      rw [if_neg (by decide), ih]
      constructor
      · rintro (h | ⟨p, h1, h2⟩)
        · exact Or.inl h
        · exact Or.inr ⟨p, by omega, h2⟩
      · rintro (h | ⟨p, h1, h2, h3⟩)
        · exact Or.inl h
        · by_cases e : p = m
          · rw [e, hq] at h2; cases h2
          · exact Or.inr ⟨p, by omega, h2, h3⟩
    | true =>
      rw [if_pos rfl, show ∀ x y : Nat, n ≤ max x y ↔ n ≤ x ∨ n ≤ y from fun x y => by omega, ih]
      constructor
      · rintro ((h | ⟨p, h1, h2⟩) | h)
        · exact Or.inl h
        · exact Or.inr ⟨p, by omega, h2⟩
        · exact Or.inr ⟨m, by omega, hq, h⟩
      · rintro (h | ⟨p, h1, h2, h3⟩)
        · exact Or.inl (Or.inl h)
        · by_cases e : p = m
          · rw [e] at h3; exact Or.inr h3
          · exact Or.inl (Or.inr ⟨p, by omega, h2, h3⟩)
theorem bst_cons {l : Nat} {ls : List Nat} {F n : Nat} : n ≤ bst (l :: ls) F ↔ n ≤ bst ls F ∨ ∃ p, p < 18 ∧ fit F p l = true ∧ n ≤ 1 + bst ls (bdf F (blk p l)) := gMax_iff (q := fun p => fit F p l) (v := fun p => 1 + bst ls (bdf F (blk p l))) n _ 18
theorem bst_iff : ∀ {ls : List Nat} {F n : Nat}, n ≤ bst ls F ↔ ∃ us, us.Sublist ls ∧ us.length = n ∧ Lp F us
  | [], F, n => by
    constructor
    · intro h
      have : n = 0 := Nat.le_zero.mp h
      exact ⟨[], List.Sublist.refl _, this.symm, trivial⟩
    · rintro ⟨us, h1, h2, -⟩
      have := List.sublist_nil.mp h1
      rw [this] at h2
      rw [← h2]
      exact Nat.le_refl _
  | l :: ls, F, n => by
    rw [bst_cons]
    constructor
    · rintro (h | ⟨p, h1, h2, h3⟩)
      · obtain ⟨us, u1, u2, u3⟩ := bst_iff.mp h
        exact ⟨us, u1.cons l, u2, u3⟩
      · cases n with
        | zero => exact ⟨[], List.nil_sublist _, rfl, trivial⟩
        | succ n =>
          obtain ⟨us, u1, u2, u3⟩ := bst_iff.mp (show n ≤ bst ls (bdf F (blk p l)) by omega)
          exact ⟨l :: us, u1.cons_cons l, by rw [List.length_cons, u2], p, h1, h2, u3⟩
    · rintro ⟨us, u1, u2, u3⟩
      rcases List.sublist_cons_iff.mp u1 with h | ⟨vs, rfl, h⟩
      · exact Or.inl (bst_iff.mpr ⟨us, h, u2, u3⟩)
      · obtain ⟨p, p1, p2, p3⟩ := u3
        rw [List.length_cons] at u2
        have := bst_iff.mpr ⟨vs, h, rfl, p3⟩
        exact Or.inr ⟨p, p1, p2, by omega⟩
theorem bst_lay {ls : List Nat} (hl : ∀ l ∈ ls, 1 ≤ l ∧ l ≤ 6) {F n : Nat} : n ≤ bst ls F ↔ n ≤ ls.length ∧ Pk (caps F) ((srt ls).take n) := by
  rw [bst_iff]
  constructor
  · rintro ⟨us, u1, u2, u3⟩
    have h1 := u1.length_le
    refine ⟨by omega, ?_⟩
    have h2 := (Lp_Pk us (fun x hx => hl x (u1.subset hx)) F).mp u3
    have h3 := Pk_lens (srt_perm us).symm h2
    have h4 := Dm_sub u1
    rw [u2] at h4
    exact Pk_mono h4 h3
  · rintro ⟨h1, h2⟩
    obtain ⟨us, p1, p2⟩ := List.exists_perm_sublist (List.take_sublist n (srt ls)) (srt_perm ls)
    have h3 := Pk_lens p1.symm h2
    refine ⟨us, p2, ?_, (Lp_Pk us (fun x hx => hl x (p2.subset hx)) F).mpr h3⟩
    rw [p1.length_eq, List.length_take, srt_len]
    omega
theorem bst_le : ∀ (ls : List Nat) (F : Nat), bst ls F ≤ ls.length := fun ls F => by
  obtain ⟨us, u1, u2, -⟩ := bst_iff.mp (Nat.le_refl (bst ls F))
  rw [← u2]
  exact u1.length_le

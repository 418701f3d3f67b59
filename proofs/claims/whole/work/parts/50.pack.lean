/-! PACKING: lengths into stretches -/
def Pk : List Nat → List Nat → Prop
  | _, [] => True
  | cs, l :: ls => ∃ c ds, cs.Perm (c :: ds) ∧ l ≤ c ∧ Pk ((c - l) :: ds) ls
theorem Pk_perm : ∀ {ls cs ds : List Nat}, cs.Perm ds → Pk cs ls → Pk ds ls
  | [], _, _, _, _ => trivial
  | l :: ls, cs, ds, h, ⟨c, es, h1, h2, h3⟩ => ⟨c, es, h.symm.trans h1, h2, h3⟩
theorem perm_cc {x y : Nat} {xs ys : List Nat} (h : (x :: xs).Perm (y :: ys)) : (x = y ∧ xs.Perm ys) ∨ ∃ zs, xs.Perm (y :: zs) ∧ ys.Perm (x :: zs) := by
  by_cases e : x = y
  · subst e
    exact Or.inl ⟨rfl, h.cons_inv⟩
  · right
    have hy : y ∈ xs := by
      have := h.symm.subset (List.mem_cons_self)
      rcases List.mem_cons.mp this with q | q
      · exact absurd q.symm e
      · exact q
    have h1 := List.perm_cons_erase hy
    refine ⟨xs.erase y, h1, ?_⟩
    have h2 : (x :: xs).Perm (y :: x :: xs.erase y) := (h1.cons x).trans (List.Perm.swap y x _)
    exact (h.symm.trans h2).cons_inv
theorem Pk_add : ∀ {ls cs : List Nat} (x : Nat), Pk cs ls → Pk (x :: cs) ls
  | [], _, _, _ => trivial
  | l :: ls, cs, x, ⟨c, ds, h1, h2, h3⟩ => ⟨c, x :: ds, (h1.cons x).trans (List.Perm.swap c x ds), h2, Pk_perm (List.Perm.swap (c - l) x ds) (Pk_add x h3)⟩
theorem Pk_merge : ∀ {ls cs : List Nat} {a b : Nat}, Pk (a :: b :: cs) ls → Pk ((a + b) :: cs) ls
  | [], _, _, _, _ => trivial
  | l :: ls, cs, a, b, ⟨c, ds, h1, h2, h3⟩ => by
    rcases perm_cc h1 with ⟨rfl, h4⟩ | ⟨zs, h4, h5⟩
    · have := Pk_merge (Pk_perm (h4.symm.cons (a - l)) h3)
      refine ⟨a + b, cs, List.Perm.refl _, by omega, ?_⟩
      rw [show a + b - l = a - l + b by omega]
      exact this
    · rcases perm_cc h4 with ⟨rfl, h6⟩ | ⟨ws, h6, h7⟩
      · have q1 : ((b - l) :: ds).Perm (a :: (b - l) :: zs) := (h5.cons _).trans (List.Perm.swap _ _ _)
        have q2 := Pk_merge (Pk_perm (q1.trans ((h6.symm.cons _).cons _)) h3)
        refine ⟨a + b, cs, List.Perm.refl _, by omega, ?_⟩
        rw [show a + b - l = a + (b - l) by omega]
        exact q2
      · have q1 : ((c - l) :: ds).Perm (a :: b :: (c - l) :: ws) := by
          refine ((h5.trans (h7.cons a)).cons _).trans ?_
          exact (List.Perm.swap a _ _).trans ((List.Perm.swap b _ _).cons a)
        have q2 := Pk_merge (Pk_perm q1 h3)
        exact ⟨c, (a + b) :: ws, (h6.cons _).trans (List.Perm.swap _ _ _), h2, Pk_perm (List.Perm.swap _ _ _) q2⟩
theorem Pk_cap {ls cs : List Nat} {a b : Nat} (hab : a ≤ b) (h : Pk (a :: cs) ls) : Pk (b :: cs) ls := by
  have := Pk_merge (Pk_add (b - a) h)
  rw [show b - a + a = b by omega] at this
  exact this
/-- shorter ones, one by one -/
def Dm : List Nat → List Nat → Prop
  | [], [] => True
  | s :: ss, u :: us => s ≤ u ∧ Dm ss us
  | _, _ => False
theorem Pk_mono : ∀ {ss us cs : List Nat}, Dm ss us → Pk cs us → Pk cs ss
  | [], _, _, _, _ => trivial
  | s :: ss, [], _, h, _ => h.elim
  | s :: ss, u :: us, cs, ⟨h1, h2⟩, ⟨c, ds, h3, h4, h5⟩ => ⟨c, ds, h3, by omega, Pk_cap (by omega) (Pk_mono h2 h5)⟩
theorem Pk_swap {a b : Nat} {ls cs : List Nat} (h : Pk cs (a :: b :: ls)) : Pk cs (b :: a :: ls) := by
  obtain ⟨c, ds, h1, h2, c2, ds2, h3, h4, h5⟩ := h
  rcases perm_cc h3 with ⟨e, h6⟩ | ⟨zs, h6, h7⟩
  · subst e
    refine ⟨c, ds, h1, by omega, c - b, ds, List.Perm.refl _, by omega, ?_⟩
    rw [show c - b - a = c - a - b by omega]
    exact Pk_perm (h6.symm.cons _) h5
  · refine ⟨c2, c :: zs, h1.trans ((h6.cons c).trans (List.Perm.swap _ _ _)), h4, c, (c2 - b) :: zs, List.Perm.swap _ _ _, h2, ?_⟩
    exact Pk_perm ((h7.cons _).trans (List.Perm.swap _ _ _)) h5
theorem Pk_lens {ls ms : List Nat} (h : ls.Perm ms) : ∀ {cs : List Nat}, Pk cs ls → Pk cs ms := by
  induction h with
  | nil => exact fun h => h
  | cons x _ ih => exact fun ⟨c, ds, h1, h2, h3⟩ => ⟨c, ds, h1, h2, ih h3⟩
  | swap x y l => exact fun h => Pk_swap h
  | trans _ _ ih1 ih2 => exact fun h => ih2 (ih1 h)
/-- empty stretches don't matter -/
theorem Pk_0 : ∀ {ls cs : List Nat}, (∀ l ∈ ls, 1 ≤ l) → Pk (0 :: cs) ls → Pk cs ls
  | [], _, _, _ => trivial
  | l :: ls, cs, hl, ⟨c, ds, h1, h2, h3⟩ => by
    have h0 := hl l List.mem_cons_self
    rcases perm_cc h1 with ⟨e, h4⟩ | ⟨zs, h4, h5⟩
    · omega
    · exact ⟨c, zs, h4, h2, Pk_0 (fun x hx => hl x (List.mem_cons_of_mem _ hx)) (Pk_perm ((h5.cons _).trans (List.Perm.swap _ _ _)) h3)⟩
theorem Pk_nz {ls : List Nat} (hl : ∀ l ∈ ls, 1 ≤ l) : ∀ {cs ds : List Nat}, Pk (cs ++ ds) ls ↔ Pk (cs.filter (fun x => decide (0 < x)) ++ ds) ls
  | [], ds => Iff.rfl
  | c :: cs, ds => by
    by_cases e : c = 0
    · subst e
      rw [List.filter_cons_of_neg (by simp)]
      refine ⟨fun h => (Pk_nz hl).mp (Pk_0 hl h), fun h => Pk_add 0 ((Pk_nz hl).mpr h)⟩
    · rw [List.filter_cons_of_pos (by simp; omega)]
      have h1 : (c :: cs ++ ds).Perm (cs ++ c :: ds) := by
        rw [List.cons_append]
        exact (List.perm_middle).symm
      have h2 : (c :: cs.filter (fun x => decide (0 < x)) ++ ds).Perm (cs.filter (fun x => decide (0 < x)) ++ c :: ds) := by
        rw [List.cons_append]
        exact (List.perm_middle).symm
      exact ⟨fun h => Pk_perm h2.symm ((Pk_nz hl).mp (Pk_perm h1 h)), fun h => Pk_perm h1.symm ((Pk_nz hl).mpr (Pk_perm h2 h))⟩
/-- by places -/
theorem set_perm {cs : List Nat} {i : Nat} (h : i < cs.length) (v : Nat) : (cs.set i v).Perm (v :: cs.eraseIdx i) := by
  induction cs generalizing i with
  | nil => simp at h
  | cons c cs ih =>
    cases i with
    | zero => simp
    | succ i =>
      rw [List.set_cons_succ, List.eraseIdx_cons_succ]
      exact ((ih (by simp at h; omega)).cons c).trans (List.Perm.swap _ _ _)
theorem erase_perm {cs : List Nat} {i : Nat} (h : i < cs.length) : cs.Perm (cs[i] :: cs.eraseIdx i) := by
  have := set_perm h cs[i]
  rw [List.set_getElem_self] at this
  exact this
theorem Pk_idx {cs ls : List Nat} {l : Nat} : Pk cs (l :: ls) ↔ ∃ i, ∃ h : i < cs.length, l ≤ cs[i] ∧ Pk (cs.set i (cs[i] - l)) ls := by
  constructor
  · rintro ⟨c, ds, h1, h2, h3⟩
    have hc : c ∈ cs := h1.symm.subset List.mem_cons_self
    obtain ⟨i, hi, e⟩ := List.getElem_of_mem hc
    refine ⟨i, hi, by omega, ?_⟩
    have h4 := erase_perm hi
    rw [e] at h4
    have h5 : ds.Perm (cs.eraseIdx i) := (h1.symm.trans h4).cons_inv
    rw [e]
    exact Pk_perm ((h5.cons _).trans (set_perm hi _).symm) h3
  · rintro ⟨i, hi, h1, h2⟩
    exact ⟨cs[i], cs.eraseIdx i, erase_perm hi, h1, Pk_perm (set_perm hi _) h2⟩
theorem Pk_same {cs ls : List Nat} {i j v : Nat} (hi : i < cs.length) (hj : j < cs.length) (e : cs[i] = cs[j]) (h : Pk (cs.set i v) ls) : Pk (cs.set j v) ls := by
  have h1 := erase_perm hi
  have h2 := erase_perm hj
  rw [e] at h1
  have h3 : (cs.eraseIdx i).Perm (cs.eraseIdx j) := (h1.symm.trans h2).cons_inv
  exact Pk_perm (((set_perm hi v).trans (h3.cons v)).trans (set_perm hj v).symm) h
/-! the shortest suffice -/
def ins (x : Nat) : List Nat → List Nat
  | [] => [x]
  | h :: l => if x ≤ h then x :: h :: l else h :: ins x l
def srt : List Nat → List Nat
  | [] => []
  | x :: l => ins x (srt l)
theorem ins_perm (x : Nat) : ∀ l, (ins x l).Perm (x :: l)
  | [] => List.Perm.refl _
  | h :: l => by
    rw [ins]
    split
    · exact List.Perm.refl _
    · exact ((ins_perm x l).cons h).trans (List.Perm.swap _ _ _)
theorem srt_perm : ∀ l, (srt l).Perm l
  | [] => List.Perm.refl _
  | x :: l => (ins_perm x _).trans ((srt_perm l).cons x)
theorem ins_sort {x : Nat} : ∀ {l : List Nat}, l.Pairwise (· ≤ ·) → (ins x l).Pairwise (· ≤ ·)
  | [], _ => by simp [ins]
  | h :: l, hp => by
    rw [List.pairwise_cons] at hp
    rw [ins]
    split
    · rw [List.pairwise_cons]
      refine ⟨?_, List.pairwise_cons.mpr hp⟩
      intro y hy
      rcases List.mem_cons.mp hy with q | q
      · omega
      · have := hp.1 y q; omega
    · rw [List.pairwise_cons]
      refine ⟨?_, ins_sort hp.2⟩
      intro y hy
      rcases List.mem_cons.mp ((ins_perm x l).subset hy) with q | q
      · omega
      · exact hp.1 y q
theorem srt_sort : ∀ l : List Nat, (srt l).Pairwise (· ≤ ·)
  | [] => List.Pairwise.nil
  | x :: l => ins_sort (srt_sort l)
theorem Dm_refl : ∀ l, Dm l l
  | [] => trivial
  | x :: l => ⟨Nat.le_refl _, Dm_refl l⟩
/-- put in below a greater one -/
theorem Dm_2 {x : Nat} : ∀ {a b : List Nat} {k : Nat} {m : Nat}, x ≤ k → (k :: b).Pairwise (· ≤ ·) → Dm (a.take m) b → m ≤ a.length → Dm ((ins x a).take (m + 1)) (k :: b)
  | [], b, k, m, h1, h2, h3, hm => by
    have e : m = 0 := by simp at hm; exact hm
    subst e
    cases b with
    | nil => exact ⟨h1, trivial⟩
    | cons _ _ => exact h3.elim
  | h :: a, b, k, 0, h1, h2, h3, hm => by
    cases b with
    | nil =>
      rw [ins]
      split
      · exact ⟨h1, trivial⟩
      · exact ⟨by omega, trivial⟩
    | cons _ _ => exact h3.elim
  | h :: a, b, k, m + 1, h1, h2, h3, hm => by
    cases b with
    | nil => exact h3.elim
    | cons k2 b =>
      rw [List.take_succ_cons] at h3
      rw [ins]
      split
      · rw [List.take_succ_cons, List.take_succ_cons]
        exact ⟨h1, h3⟩
      · rw [List.take_succ_cons]
        have hp := List.pairwise_cons.mp h2
        have hk := hp.1 k2 List.mem_cons_self
        exact ⟨by omega, Dm_2 (by omega) hp.2 h3.2 (by simp at hm; omega)⟩
theorem Dm_ins {x : Nat} : ∀ {a b : List Nat} {n : Nat}, b.Pairwise (· ≤ ·) → Dm (a.take n) b → n ≤ a.length → Dm ((ins x a).take (n + 1)) (ins x b)
  | a, [], n, hb, h, hn => by
    cases a with
    | nil => exact ⟨Nat.le_refl _, by rw [List.take_nil]; trivial⟩
    | cons h0 a =>
      cases n with
      | zero =>
        rw [ins, ins]
        split
        · exact ⟨Nat.le_refl _, trivial⟩
        · exact ⟨by omega, trivial⟩
      | succ n => exact h.elim
  | [], k :: b, n, hb, h, hn => by rw [List.take_nil] at h; exact h.elim
  | h0 :: a, k :: b, 0, hb, h, hn => h.elim
  | h0 :: a, k :: b, n + 1, hb, h, hn => by
    rw [List.take_succ_cons] at h
    obtain ⟨h1, h2⟩ := h
    have hp := List.pairwise_cons.mp hb
    rw [ins, ins]
    by_cases q1 : x ≤ h0
    · rw [if_pos q1, if_pos (by omega), List.take_succ_cons, List.take_succ_cons]
      exact ⟨Nat.le_refl _, h1, h2⟩
    · rw [if_neg q1, List.take_succ_cons]
      by_cases q2 : x ≤ k
      · rw [if_pos q2]
        exact ⟨by omega, Dm_2 q2 hb h2 (by simp at hn; omega)⟩
      · rw [if_neg q2]
        exact ⟨h1, Dm_ins hp.2 h2 (by simp at hn; omega)⟩
theorem Dm_trans : ∀ {a b c : List Nat}, Dm a b → Dm b c → Dm a c
  | [], [], [], _, _ => trivial
  | [], [], _ :: _, _, h => h.elim
  | [], _ :: _, _, h, _ => h.elim
  | _ :: _, [], _, h, _ => h.elim
  | _ :: _, _ :: _, [], _, h => h.elim
  | _ :: _, _ :: _, _ :: _, ⟨h1, h2⟩, ⟨h3, h4⟩ => ⟨by omega, Dm_trans h2 h4⟩
theorem Dm_skip {x : Nat} : ∀ {a : List Nat} {n : Nat}, a.Pairwise (· ≤ ·) → n ≤ a.length → Dm ((ins x a).take n) (a.take n)
  | [], n, _, hn => by
    have e : n = 0 := by simp at hn; exact hn
    subst e
    trivial
  | h :: a, 0, _, _ => by rw [List.take_zero, List.take_zero]; trivial
  | h :: a, n + 1, hp, hn => by
    have hq := List.pairwise_cons.mp hp
    rw [ins]
    split
    · rename_i q
      rw [List.take_succ_cons, List.take_succ_cons]
      refine ⟨q, ?_⟩
      have key : ∀ {a : List Nat} {h n : Nat}, (h :: a).Pairwise (· ≤ ·) → n ≤ a.length → Dm ((h :: a).take n) (a.take n) := by
        intro a
        induction a with
        | nil =>
          intro h n _ hn
          have e : n = 0 := by simp at hn; exact hn
          subst e
          trivial
        | cons b a ih =>
          intro h n hp hn
          cases n with
          | zero => rw [List.take_zero, List.take_zero]; trivial
          | succ n =>
            rw [List.take_succ_cons, List.take_succ_cons]
            have hq := List.pairwise_cons.mp hp
            exact ⟨hq.1 b List.mem_cons_self, ih hq.2 (by simp at hn; omega)⟩
      exact key hp (by simp at hn; omega)
    · rw [List.take_succ_cons, List.take_succ_cons]
      exact ⟨Nat.le_refl _, Dm_skip hq.2 (by simp at hn; omega)⟩
theorem srt_len (l : List Nat) : (srt l).length = l.length := (srt_perm l).length_eq
theorem Dm_sub {us ls : List Nat} (h : us.Sublist ls) : Dm ((srt ls).take us.length) (srt us) := by
  induction h with
  | slnil => trivial
  | @cons us ls x h ih =>
    have h1 := h.length_le
    rw [srt]
    exact Dm_trans (Dm_skip (srt_sort _) (by rw [srt_len]; exact h1)) ih
  | @cons_cons us ls x h ih =>
    have h1 := h.length_le
    rw [srt, srt, List.length_cons]
    exact Dm_ins (srt_sort _) ih (by rw [srt_len]; exact h1)

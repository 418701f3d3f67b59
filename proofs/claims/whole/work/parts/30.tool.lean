/-! TOOLS for the mathematics over the functions -/
/-- a loop ends: a measure falls -/
theorem wit_ind {V E : Type} {b : V → Option (V ⊕ E)} (I : V → Prop) (P : E → Prop) (μ : V → Nat) (hs : ∀ v, I v → (∃ v2, b v = some (.inl v2) ∧ I v2 ∧ μ v2 < μ v) ∨ ∃ e, b v = some (.inr e) ∧ P e) : ∀ (n : Nat) (v : V), I v → μ v < n → ∃ e, wit b n v = some e ∧ P e := by
  intro n
  induction n with
  | zero => intro v _ h; exact absurd h (Nat.not_lt_zero _)
  | succ n ih =>
    intro v hI hn
    rcases hs v hI with ⟨v2, h1, h2, h3⟩ | ⟨e, h1, h2⟩
    · obtain ⟨e, he, hP⟩ := ih v2 h2 (by omega)
      exact ⟨e, by rw [wit, h1]; exact he, hP⟩
    · exact ⟨e, by rw [wit, h1], h2⟩
def gF {α : Type} (f : Nat → α → α) : Nat → α → α
  | 0, a => a
  | n + 1, a => f n (gF f n a)
/-- a loop that counts -/
theorem wit_for {V E α : Type} {b : V → Option (V ⊕ E)} (f : Nat → α → α) (n : Nat) (I : Nat → α → V → Prop) (P : α → E → Prop)
    (hs : ∀ i a v, i < n → I i a v → ∃ v2, b v = some (.inl v2) ∧ I (i + 1) (f i a) v2)
    (he : ∀ a v, I n a v → ∃ e, b v = some (.inr e) ∧ P a e) {N : Nat} (hN : n < N) {a0 : α} {v0 : V} (h0 : I 0 a0 v0) :
    ∃ e, wit b N v0 = some e ∧ P (gF f n a0) e := by
  have key : ∀ (k i : Nat) (M : Nat) (v : V), i + k = n → k < M → I i (gF f i a0) v → ∃ e, wit b M v = some e ∧ P (gF f n a0) e := by
    intro k
    induction k with
    | zero =>
      intro i M v hi hM hI
      obtain ⟨M, rfl⟩ : ∃ m, M = m + 1 := ⟨M - 1, by omega⟩
      have hi2 : i = n := by omega
      rw [hi2] at hI
      obtain ⟨e, h1, h2⟩ := he _ v hI
      exact ⟨e, by rw [wit, h1], h2⟩
    | succ k ih =>
      intro i M v hi hM hI
      obtain ⟨M, rfl⟩ : ∃ m, M = m + 1 := ⟨M - 1, by omega⟩
      obtain ⟨v2, h1, h2⟩ := hs i _ v (by omega) hI
      obtain ⟨e, h3, h4⟩ := ih (i + 1) M v2 (by omega) (by omega) h2
      exact ⟨e, by rw [wit, h1]; exact h3, h4⟩
  exact key n 0 N v0 (by omega) hN h0
def gFn (p : Nat → Bool) : Nat → Nat → Option Nat
  | 0, _ => none
  | k + 1, i => if p i then some i else gFn p k (i + 1)
/-- a loop that looks for the first -/
theorem wit_find {V E : Type} {b : V → Option (V ⊕ E)} (p : Nat → Bool) (n : Nat) (I : Nat → V → Prop) (P : Option Nat → E → Prop)
    (hs : ∀ i v, i < n → I i v → (p i = true → ∃ e, b v = some (.inr e) ∧ P (some i) e) ∧ (p i = false → ∃ v2, b v = some (.inl v2) ∧ I (i + 1) v2))
    (he : ∀ v, I n v → ∃ e, b v = some (.inr e) ∧ P none e) {N : Nat} (hN : n < N) {v0 : V} (h0 : I 0 v0) :
    ∃ e, wit b N v0 = some e ∧ P (gFn p n 0) e := by
  have key : ∀ (k i : Nat) (M : Nat) (v : V), i + k = n → k < M → I i v → ∃ e, wit b M v = some e ∧ P (gFn p k i) e := by
    intro k
    induction k with
    | zero =>
      intro i M v hi hM hI
      obtain ⟨M, rfl⟩ : ∃ m, M = m + 1 := ⟨M - 1, by omega⟩
      have hi2 : i = n := by omega
      rw [hi2] at hI
      obtain ⟨e, h1, h2⟩ := he v hI
      exact ⟨e, by rw [wit, h1], h2⟩
    | succ k ih =>
      intro i M v hi hM hI
      obtain ⟨M, rfl⟩ : ∃ m, M = m + 1 := ⟨M - 1, by omega⟩
      obtain ⟨ht, hf⟩ := hs i v (by omega) hI
      cases hp : p i with
      | true =>
        obtain ⟨e, h1, h2⟩ := ht hp
        exact ⟨e, by rw [wit, h1], by rw [gFn, hp, if_pos rfl]; exact h2⟩
      | false =>
        obtain ⟨v2, h1, h2⟩ := hf hp
        obtain ⟨e, h3, h4⟩ := ih (i + 1) M v2 (by omega) (by omega) h2
        exact ⟨e, by rw [wit, h1]; exact h3, by rw [gFn, hp, if_neg (by decide)]; exact h4⟩
  exact key n 0 N v0 (by omega) hN h0
theorem gFn_some {p : Nat → Bool} : ∀ {k i j : Nat}, gFn p k i = some j → i ≤ j ∧ j < i + k ∧ p j = true
  | 0, i, j, h => by cases h
  | k + 1, i, j, h => by
    rw [gFn] at h
    cases hp : p i with
    | true =>
      rw [hp, if_pos rfl] at h
      cases h
      exact ⟨by omega, by omega, hp⟩
    | false =>
      rw [hp, if_neg (by decide)] at h
      obtain ⟨h1, h2, h3⟩ := gFn_some h
      exact ⟨by omega, by omega, h3⟩
theorem gFn_none {p : Nat → Bool} : ∀ {k i : Nat}, gFn p k i = none → ∀ j, i ≤ j → j < i + k → p j = false
  | 0, i, h => fun j h1 h2 => by omega
  | k + 1, i, h => by
    rw [gFn] at h
    cases hp : p i with
    | true => rw [hp, if_pos rfl] at h; cases h
    | false =>
      rw [hp, if_neg (by decide)] at h
      intro j h1 h2
      rcases Nat.lt_or_ge i j with q | q
      · exact gFn_none h j (by omega) (by omega)
      · have : j = i := by omega
        rw [this]; exact hp
theorem gFn_first {p : Nat → Bool} : ∀ {k i j : Nat}, gFn p k i = some j → ∀ m, i ≤ m → m < j → p m = false
  | 0, i, j, h => by cases h
  | k + 1, i, j, h => by
    rw [gFn] at h
    cases hp : p i with
    | true =>
      rw [hp, if_pos rfl] at h
      cases h
      intro m h1 h2
      omega
    | false =>
      rw [hp, if_neg (by decide)] at h
      intro m h1 h2
      rcases Nat.lt_or_ge i m with q | q
      · exact gFn_first h m (by omega) h2
      · have : m = i := by omega
        rw [this]; exact hp
theorem gFn_cong {p q : Nat → Bool} : ∀ {k i : Nat}, (∀ j, i ≤ j → j < i + k → p j = q j) → gFn p k i = gFn q k i
  | 0, i, h => rfl
  | k + 1, i, h => by rw [gFn, gFn, h i (by omega) (by omega), gFn_cong (fun j h1 h2 => h j (by omega) (by omega))]
theorem gF_cong {α : Type} {f g : Nat → α → α} : ∀ {n : Nat} {a : α}, (∀ i a, i < n → f i a = g i a) → gF f n a = gF g n a
  | 0, a, h => rfl
  | n + 1, a, h => by rw [gF, gF, gF_cong (fun i a hi => h i a (by omega)), h _ _ (by omega)]
/-- a loop over layers -/
theorem wit_list {V E α τ : Type} {b : V → Option (V ⊕ E)} (f : τ → α → α) (I : List τ → α → V → Prop) (P : α → E → Prop)
    (hs : ∀ t l a v, I (t :: l) a v → ∃ v2, b v = some (.inl v2) ∧ I l (f t a) v2)
    (he : ∀ a v, I [] a v → ∃ e, b v = some (.inr e) ∧ P a e) : ∀ (l : List τ) (a : α) (v : V) (N : Nat), l.length < N → I l a v →
    ∃ e, wit b N v = some e ∧ P (l.foldl (fun a t => f t a) a) e := by
  intro l
  induction l with
  | nil =>
    intro a v N hN hI
    obtain ⟨N, rfl⟩ : ∃ m, N = m + 1 := ⟨N - 1, by omega⟩
    obtain ⟨e, h1, h2⟩ := he a v hI
    exact ⟨e, by rw [wit, h1], h2⟩
  | cons t l ih =>
    intro a v N hN hI
    rw [List.length_cons] at hN
    obtain ⟨N, rfl⟩ : ∃ m, N = m + 1 := ⟨N - 1, by omega⟩
    obtain ⟨v2, h1, h2⟩ := hs t l a v hI
    obtain ⟨e, h3, h4⟩ := ih _ v2 N (by omega) h2
    exact ⟨e, by rw [wit, h1]; exact h3, h4⟩
/-- the uppermost for which it is so -/
def gUp (p : Nat → Nat → Bool) : Nat → List Nat → Option Nat
  | _, [] => none
  | d, t :: l => if p t d then some t else gUp p (d + 1) l
theorem gUp_mem {p : Nat → Nat → Bool} : ∀ {l : List Nat} {d t : Nat}, gUp p d l = some t → t ∈ l
  | [], d, t, h => by cases h
  | u :: l, d, t, h => by
    rw [gUp] at h
    cases hp : p u d with
    | true => rw [hp, if_pos rfl] at h; cases h; exact List.mem_cons_self
    | false => rw [hp, if_neg (by decide)] at h; exact List.mem_cons_of_mem _ (gUp_mem h)
theorem wit_up {V E : Type} {b : V → Option (V ⊕ E)} (p : Nat → Nat → Bool) (I : Nat → List Nat → V → Prop) (P : Option Nat → E → Prop)
    (hs : ∀ d t l v, I d (t :: l) v → (p t d = true → ∃ e, b v = some (.inr e) ∧ P (some t) e) ∧ (p t d = false → ∃ v2, b v = some (.inl v2) ∧ I (d + 1) l v2))
    (he : ∀ d v, I d [] v → ∃ e, b v = some (.inr e) ∧ P none e) : ∀ (l : List Nat) (d : Nat) (v : V) (N : Nat), l.length < N → I d l v →
    ∃ e, wit b N v = some e ∧ P (gUp p d l) e := by
  intro l
  induction l with
  | nil =>
    intro d v N hN hI
    obtain ⟨N, rfl⟩ : ∃ m, N = m + 1 := ⟨N - 1, by omega⟩
    obtain ⟨e, h1, h2⟩ := he d v hI
    exact ⟨e, by rw [wit, h1], h2⟩
  | cons t l ih =>
    intro d v N hN hI
    rw [List.length_cons] at hN
    obtain ⟨N, rfl⟩ : ∃ m, N = m + 1 := ⟨N - 1, by omega⟩
    obtain ⟨ht, hf⟩ := hs d t l v hI
    cases hp : p t d with
    | true =>
      obtain ⟨e, h1, h2⟩ := ht hp
      exact ⟨e, by rw [wit, h1], by rw [gUp, hp, if_pos rfl]; exact h2⟩
    | false =>
      obtain ⟨v2, h1, h2⟩ := hf hp
      obtain ⟨e, h3, h4⟩ := ih _ v2 N (by omega) h2
      exact ⟨e, by rw [wit, h1]; exact h3, by rw [gUp, hp, if_neg (by decide)]; exact h4⟩
/-- only such cells have changed -/
def fr (P : Nat → Prop) (h h2 : wSt) : Prop := ∀ c, ¬ P c → h2.1 c = h.1 c ∧ h2.2 c = h.2 c
theorem fr_rf {P : Nat → Prop} {h : wSt} : fr P h h := fun _ _ => ⟨rfl, rfl⟩
theorem fr_tr {P : Nat → Prop} {h h2 h3 : wSt} (a : fr P h h2) (b : fr P h2 h3) : fr P h h3 := fun c hc => ⟨(b c hc).1.trans (a c hc).1, (b c hc).2.trans (a c hc).2⟩
theorem fr_mono {P Q : Nat → Prop} {h h2 : wSt} (a : fr P h h2) (hcd : ∀ c, P c → Q c) : fr Q h h2 := fun c hc => a c (fun q => hc (hcd c q))
theorem fr_wuI {P : Nat → Prop} {h : wSt} {c i : Nat} {x : Int32} (hc : P c) : fr P h (wuI h c i x) := fun a ha => wsI_ne a (fun e => ha (e ▸ hc))
theorem fr_wsI {P : Nat → Prop} {h : wSt} {c : Nat} {f : Nat → Int32} (hc : P c) : fr P h (wsI h c f) := fun a ha => wsI_ne a (fun e => ha (e ▸ hc))
theorem fr_wuJ {P : Nat → Prop} {h : wSt} {c i : Nat} {x : Int64} (hc : P c) : fr P h (wuJ h c i x) := fun a ha => wsJ_ne a (fun e => ha (e ▸ hc))
theorem fr_wsJ {P : Nat → Prop} {h : wSt} {c : Nat} {f : Nat → Int64} (hc : P c) : fr P h (wsJ h c f) := fun a ha => wsJ_ne a (fun e => ha (e ▸ hc))
/-! numbers that are small -/
def wno : Int32 := -1
def wno2 : Int32 := -2
def rI : Option Nat → Int32
  | none => wno
  | some t => nI t
theorem m1 : -nI 1 = wno := rfl
theorem m2 : -nI 2 = wno2 := rfl
theorem le_t {a b : Nat} (h : a ≤ b) (hb : b < 2147483648) : (nI a ≤ nI b) = True := eq_true (nI_le h (by omega))
theorem le_f {a b : Nat} (h : b < a) (hb : a < 2147483648) : (nI a ≤ nI b) = False := eq_false (nI_ge h (by omega))
theorem lt_t {a b : Nat} (h : a < b) (hb : b < 2147483648) : (nI a < nI b) = True := eq_true (nI_lt h (by omega))
theorem lt_f {a b : Nat} (h : b ≤ a) (hb : a < 2147483648) : (nI a < nI b) = False := eq_false (nI_nlt h (by omega))
theorem eq_t {a b : Nat} (h : a = b) : (nI a = nI b) = True := eq_true (by rw [h])
theorem eq_f {a b : Nat} (h : a ≠ b) (ha : a < 2147483648) (hb : b < 2147483648) : (nI a = nI b) = False := eq_false (fun e => h ((nI_eq (by omega) (by omega)).mp e))
theorem no_toInt : wno.toInt = -1 := by decide
theorem no_lt {a : Nat} (h : a < 2147483648) : (wno < nI a) = True := eq_true (by rw [Int32.lt_iff_toInt_lt, no_toInt, nI_toInt (by omega)]; omega)
theorem no_le {a : Nat} (h : a < 2147483648) : (wno ≤ nI a) = True := eq_true (by rw [Int32.le_iff_toInt_le, no_toInt, nI_toInt (by omega)]; omega)
theorem le_no {a : Nat} (h : a < 2147483648) : (nI a ≤ wno) = False := eq_false (by rw [Int32.le_iff_toInt_le, no_toInt, nI_toInt (by omega)]; omega)
theorem lt_no {a : Nat} (h : a < 2147483648) : (nI a < wno) = False := eq_false (by rw [Int32.lt_iff_toInt_lt, no_toInt, nI_toInt (by omega)]; omega)
theorem eq_no {a : Nat} (h : a < 2147483648) : (nI a = wno) = False := eq_false (fun e => by
  have h1 : (nI a).toInt = wno.toInt := by rw [e]
  rw [no_toInt, nI_toInt (by omega)] at h1
  omega)
theorem no_eq {a : Nat} (h : a < 2147483648) : (wno = nI a) = False := eq_false (fun e => by
  have h1 : (nI a).toInt = wno.toInt := by rw [e]
  rw [no_toInt, nI_toInt (by omega)] at h1
  omega)
theorem add_no {a : Nat} (h : 0 < a) : nI a + wno = nI (a - 1) := by
  obtain ⟨b, rfl⟩ : ∃ b, a = b + 1 := ⟨a - 1, by omega⟩
  exact pk_m1 b
theorem rI_eq {a b : Option Nat} (ha : ∀ t, a = some t → t < 2147483648) (hb : ∀ t, b = some t → t < 2147483648) : rI a = rI b ↔ a = b := by
  cases a with
  | none =>
    cases b with
    | none => simp
    | some t => simp [rI, no_eq (hb t rfl)]
  | some s =>
    cases b with
    | none => simp [rI, eq_no (ha s rfl)]
    | some t => simp [rI, nI_eq (show s < 2 ^ 31 by have := ha s rfl; omega) (show t < 2 ^ 31 by have := hb t rfl; omega)]
theorem wib_t {a n : Nat} (h : a < n) (ha : a < 2147483648) : wib (nI a) n = True := eq_true (by
  unfold wib
  rw [nI_clamp (by omega)]
  intro q
  rcases q with q | q
  · exact nI_pos (by omega) q
  · omega)
theorem clamp {a : Nat} (ha : a < 2147483648) : (nI a).toNatClampNeg = a := nI_clamp (by omega)
theorem nor_ (a b : Nat) : nI a ||| nI b = nI (a ||| b) := by
  apply Int32.toBitVec_inj.1
  show BitVec.ofNat 32 a ||| BitVec.ofNat 32 b = BitVec.ofNat 32 (a ||| b)
  apply BitVec.eq_of_getLsbD_eq
  intro i hi
  simp [hi]
theorem nand_ (a b : Nat) : nI a &&& nI b = nI (a &&& b) := by
  apply Int32.toBitVec_inj.1
  show BitVec.ofNat 32 a &&& BitVec.ofNat 32 b = BitVec.ofNat 32 (a &&& b)
  apply BitVec.eq_of_getLsbD_eq
  intro i hi
  simp [hi]
/-- what is in a and not in b -/
def bdf (a b : Nat) : Nat := a ^^^ (a &&& b)
theorem bdf_bit (a b i : Nat) : (bdf a b).testBit i = (a.testBit i && !b.testBit i) := by
  unfold bdf
  rw [Nat.testBit_xor, Nat.testBit_and]
  cases a.testBit i <;> cases b.testBit i <;> rfl
theorem ndif_ (a b : Nat) : nI a &&& (nI b ^^^ wno) = nI (bdf a b) := by
  apply Int32.toBitVec_inj.1
  show BitVec.ofNat 32 a &&& (BitVec.ofNat 32 b ^^^ BitVec.allOnes 32) = BitVec.ofNat 32 (bdf a b)
  apply BitVec.eq_of_getLsbD_eq
  intro i hi
  rw [BitVec.getLsbD_and, BitVec.getLsbD_xor, BitVec.getLsbD_allOnes, BitVec.getLsbD_ofNat, BitVec.getLsbD_ofNat, BitVec.getLsbD_ofNat, bdf_bit]
  simp [hi]
theorem smod_k : ∀ n, n < 32 → ((nI n).toBitVec.smod 32).toNat = n := by decide +kernel
theorem and31 {k : Nat} (h : k < 32) : k &&& 31 = k := by
  rw [show (31 : Nat) = 2 ^ 5 - 1 from rfl, Nat.and_two_pow_sub_one_eq_mod]
  exact Nat.mod_eq_of_lt h
theorem shl_ {n k : Nat} (hk : k < 32) (h : n * 2 ^ k < 4294967296) : nI n <<< nI k = nI (n * 2 ^ k) := pk_shlN _ k (smod_k k hk) (by omega)
theorem sh1_ {k : Nat} (hk : k < 31) : nI 1 <<< nI k = nI (2 ^ k) := by
  have h1 : (2 : Nat) ^ k < 2 ^ 31 := Nat.pow_lt_pow_right (by decide) hk
  rw [shl_ (by omega) (by omega), Nat.one_mul]
theorem shr_ {n k : Nat} (hk : k < 32) (h : n < 2147483648) : nI n >>> nI k = nI (n >>> k) := by
  rw [pk_shrN (by omega) _ k (smod_k k hk), Nat.shiftRight_eq_div_pow]
theorem tbn (n k : Nat) : (n >>> k) &&& 1 = (n.testBit k).toNat := by
  rw [Nat.and_one_is_mod, Nat.testBit_eq_decide_div_mod_eq, Nat.shiftRight_eq_div_pow]
  rcases Nat.mod_two_eq_zero_or_one (n / 2 ^ k) with h | h <;> rw [h] <;> rfl
theorem tb0 (b : Bool) : (nI b.toNat = nI 0) = (b = false) := by cases b <;> simp <;> decide
theorem tb1 (b : Bool) : (nI b.toNat = nI 1) = (b = true) := by cases b <;> simp <;> decide
theorem les_t {x a b : Nat} (h : x + b ≤ a) (ha : a < 1073741824) : (nI x ≤ nI a - nI b) = True := by
  rw [pk_sub (by omega)]; exact le_t (by omega) (by omega)
theorem les_f {x a b : Nat} (h : a < x + b) (ha : a < 1073741824) (hb : b < 1073741824) (hx : x < 1073741824) : (nI x ≤ nI a - nI b) = False := eq_false (by
  rw [Int32.le_iff_toInt_le, nI_toInt (by omega), pk_sub_toInt (by omega) (by omega)]; omega)
theorem rem_ {a d : Nat} : a - a / d * d = a % d := by
  have := Nat.div_add_mod a d
  rw [Nat.mul_comm] at this
  omega
theorem remv {a d : Nat} : nI a - nI (a / d * d) = nI (a % d) := by
  rw [pk_sub (Nat.div_mul_le_self a d), rem_]
theorem wu1 {h : wSt} {c i : Nat} {x : Int32} : (wuI h c i x).1 c i = x := by simp [wuI, wsI, upd]
theorem wuc {h : wSt} {c d i : Nat} {x : Int32} (hc : d ≠ c) : (wuI h c i x).1 d = h.1 d := by simp [wuI, wsI, hc]
theorem wui {h : wSt} {c i j : Nat} {x : Int32} (hi : j ≠ i) : (wuI h c i x).1 c j = h.1 c j := by simp [wuI, wsI, upd, hi]
theorem wu2 {h : wSt} {c i : Nat} {x : Int32} : (wuI h c i x).2 = h.2 := rfl
theorem ws1 {h : wSt} {c : Nat} {f : Nat → Int32} : (wsI h c f).1 c = f := by simp [wsI]
theorem wsc {h : wSt} {c d : Nat} {f : Nat → Int32} (hc : d ≠ c) : (wsI h c f).1 d = h.1 d := by simp [wsI, hc]
theorem ws2 {h : wSt} {c : Nat} {f : Nat → Int32} : (wsI h c f).2 = h.2 := rfl
theorem wv1 {h : wSt} {c i : Nat} {x : Int64} : (wuJ h c i x).1 = h.1 := rfl
theorem wv2 {h : wSt} {c i : Nat} {x : Int64} : (wuJ h c i x).2 c i = x := by simp [wuJ, wsJ, vp_updL]
theorem wvc {h : wSt} {c d i : Nat} {x : Int64} (hc : d ≠ c) : (wuJ h c i x).2 d = h.2 d := by simp [wuJ, wsJ, hc]
theorem wvi {h : wSt} {c i j : Nat} {x : Int64} (hi : j ≠ i) : (wuJ h c i x).2 c j = h.2 c j := by simp [wuJ, wsJ, vp_updL, hi]
theorem wy1 {h : wSt} {c : Nat} {f : Nat → Int64} : (wsJ h c f).1 = h.1 := rfl
theorem wy2 {h : wSt} {c : Nat} {f : Nat → Int64} : (wsJ h c f).2 c = f := by simp [wsJ]
theorem wyc {h : wSt} {c d : Nat} {f : Nat → Int64} (hc : d ≠ c) : (wsJ h c f).2 d = h.2 d := by simp [wsJ, hc]
theorem n0_ : (0 : Int32) = nI 0 := rfl
theorem n1_ : (1 : Int32) = nI 1 := rfl
theorem n2_ : (2 : Int32) = nI 2 := rfl
theorem n3_ : (3 : Int32) = nI 3 := rfl
theorem n4_ : (4 : Int32) = nI 4 := rfl
theorem n5_ : (5 : Int32) = nI 5 := rfl
theorem n6_ : (6 : Int32) = nI 6 := rfl
theorem n7_ : (7 : Int32) = nI 7 := rfl
theorem n8_ : (8 : Int32) = nI 8 := rfl
theorem n9_ : (9 : Int32) = nI 9 := rfl
theorem n10_ : (10 : Int32) = nI 10 := rfl
theorem n12_ : (12 : Int32) = nI 12 := rfl
theorem n16_ : (16 : Int32) = nI 16 := rfl
theorem n18_ : (18 : Int32) = nI 18 := rfl
theorem n20_ : (20 : Int32) = nI 20 := rfl
theorem n21_ : (21 : Int32) = nI 21 := rfl
theorem n22_ : (22 : Int32) = nI 22 := rfl
theorem n24_ : (24 : Int32) = nI 24 := rfl
theorem n25_ : (25 : Int32) = nI 25 := rfl
theorem n26_ : (26 : Int32) = nI 26 := rfl
theorem n27_ : (27 : Int32) = nI 27 := rfl
theorem n28_ : (28 : Int32) = nI 28 := rfl
theorem n29_ : (29 : Int32) = nI 29 := rfl
theorem n30_ : (30 : Int32) = nI 30 := rfl
theorem n31_ : (31 : Int32) = nI 31 := rfl
theorem n32_ : (32 : Int32) = nI 32 := rfl
theorem n40_ : (40 : Int32) = nI 40 := rfl
theorem n41_ : (41 : Int32) = nI 41 := rfl
theorem n42_ : (42 : Int32) = nI 42 := rfl
theorem n43_ : (43 : Int32) = nI 43 := rfl
theorem n45_ : (45 : Int32) = nI 45 := rfl
theorem n48_ : (48 : Int32) = nI 48 := rfl
theorem n54_ : (54 : Int32) = nI 54 := rfl
theorem n57_ : (57 : Int32) = nI 57 := rfl
theorem n58_ : (58 : Int32) = nI 58 := rfl
theorem n59_ : (59 : Int32) = nI 59 := rfl
theorem n60_ : (60 : Int32) = nI 60 := rfl
theorem n61_ : (61 : Int32) = nI 61 := rfl
theorem n63_ : (63 : Int32) = nI 63 := rfl
theorem n96_ : (96 : Int32) = nI 96 := rfl
theorem n97_ : (97 : Int32) = nI 97 := rfl
theorem n99_ : (99 : Int32) = nI 99 := rfl
theorem n100_ : (100 : Int32) = nI 100 := rfl
theorem n122_ : (122 : Int32) = nI 122 := rfl
theorem n126_ : (126 : Int32) = nI 126 := rfl
theorem n200_ : (200 : Int32) = nI 200 := rfl
theorem n255_ : (255 : Int32) = nI 255 := rfl
theorem n375_ : (375 : Int32) = nI 375 := rfl
theorem n400_ : (400 : Int32) = nI 400 := rfl
theorem n1000_ : (1000 : Int32) = nI 1000 := rfl
theorem n2000_ : (2000 : Int32) = nI 2000 := rfl
theorem n9999_ : (9999 : Int32) = nI 9999 := rfl
theorem n5764801_ : (5764801 : Int32) = nI 5764801 := rfl
theorem n1000000_ : (1000000 : Int32) = nI 1000000 := rfl
theorem n3000_ : (3000 : Int32) = nI 3000 := rfl

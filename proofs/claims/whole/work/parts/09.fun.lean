/-! FUNCTIONS OUT OF CODE: an answer, or none where the machine would throw or a bound is passed -/
def wok {α : Type} (o : Option α) (K : α → Prop) : Prop := ∃ x, o = some x ∧ K x
theorem wok_s {α : Type} {x : α} {K : α → Prop} (h : wok (some x) K) : K x := by
  obtain ⟨y, h1, h2⟩ := h
  cases h1
  exact h2
theorem wok_n {α : Type} {K : α → Prop} {P : Prop} (h : wok (none : Option α) K) : P := by
  obtain ⟨y, h1, h2⟩ := h
  cases h1
theorem wok_t {α : Type} {c : Prop} [Decidable c] {A B : Option α} {K : α → Prop} (h : wok (if c then A else B) K) (hc : c) : wok A K := by
  rw [if_pos hc] at h
  exact h
theorem wok_f {α : Type} {c : Prop} [Decidable c] {A B : Option α} {K : α → Prop} (h : wok (if c then A else B) K) (hc : ¬ c) : wok B K := by
  rw [if_neg hc] at h
  exact h
theorem wok_g {α : Type} {c : Prop} [Decidable c] {A : Option α} {K : α → Prop} (h : wok (if c then A else none) K) : c ∧ wok A K := by
  by_cases hc : c
  · exact ⟨hc, wok_t h hc⟩
  · exact wok_n (wok_f h hc)
theorem wok_b {α β : Type} {o : Option α} {f : α → Option β} {K : β → Prop} (h : wok (o.bind f) K) : ∃ x, o = some x ∧ wok (f x) K := by
  cases o with
  | none => exact wok_n h
  | some x => exact ⟨x, rfl, h⟩
def wlet {α β : Type} (a : α) (f : α → β) : β := f a
theorem wok_l {α β : Type} {a x : α} {f : α → Option β} {K : β → Prop} (h : wok (wlet a f) K) (hx : x = a) : wok (f x) K := by
  subst hx
  exact h
/-- a loop: the body says how it goes on, or how it ends; so many rounds at most -/
def wit {V E : Type} (b : V → Option (V ⊕ E)) : Nat → V → Option E
  | 0, _ => none
  | n + 1, v => match b v with
    | none => none
    | some (.inl v2) => wit b n v2
    | some (.inr e) => some e
theorem wit_M {V E : Type} {b : V → Option (V ⊕ E)} {KE : E → Prop} {G : V → Prop} (step : ∀ (v : V) (K : V ⊕ E → Prop), (∀ v2, K (.inl v2) → G v2) → (∀ e, K (.inr e) → KE e) → wok (b v) K → G v) : ∀ (n : Nat) (v : V), wok (wit b n v) KE → G v := by
  intro n
  induction n with
  | zero => intro v h; exact wok_n h
  | succ n ih =>
    intro v h
    refine step v (fun o => match o with | .inl v2 => wok (wit b n v2) KE | .inr e => KE e) (fun v2 h2 => ih v2 h2) (fun e h2 => h2) ?_
    rw [wit] at h
    cases hb : b v with
    | none => rw [hb] at h; exact wok_n h
    | some o =>
      rw [hb] at h
      cases o with
      | inl v2 => exact ⟨_, rfl, h⟩
      | inr e =>
        have h : wok (some e) KE := h
        have h2 : KE e := wok_s h
        exact ⟨_, rfl, h2⟩
/-- an index within -/
abbrev wib (i : Int32) (n : Nat) : Prop := ¬ (i < 0 ∨ n ≤ i.toNatClampNeg)
/-- so many places of rows of n0 and n1 places -/
abbrev wcp (n : Int32) (n0 n1 : Nat) : Prop := ¬ n < 0 ∧ n.toNatClampNeg ≤ n0 ∧ n.toNatClampNeg ≤ n1
abbrev wmx (x y : Int32) : Int32 := if x < y then y else x
abbrev wmn (x y : Int32) : Int32 := if y < x then y else x
def wb (b : Bool) : Int32 := if b then 1 else 0
theorem wb_0 {b : Bool} (h : wb b = 0) : ¬ b = true := by
  cases b
  · decide
  · exact absurd h (by decide)
theorem wb_n0 {b : Bool} (h : ¬ wb b = 0) : b = true := by
  cases b
  · exact absurd rfl h
  · rfl
theorem wb_n (b : Bool) : narrow .boolean (.int (wb b)) = .int (wb b) := by cases b <;> rfl
theorem wb_i {x : Int32} (h : x = 0 ∨ x = 1) : x = wb (decide (x = 1)) := by
  rcases h with rfl | rfl <;> decide
/-- what a method leaves -/
def wFI (K : Int32 → wSt → Prop) : Option Value → wSt → Prop := fun r h => ∃ x, r = some (.int x) ∧ K x h
def wFZ (K : Bool → wSt → Prop) : Option Value → wSt → Prop := fun r h => ∃ x, r = some (.int (wb x)) ∧ K x h
def wFJ (K : Int64 → wSt → Prop) : Option Value → wSt → Prop := fun r h => ∃ x, r = some (.long x) ∧ K x h
def wFV (K : wSt → Prop) : Option Value → wSt → Prop := fun r h => r = none ∧ K h
/-- fewer locals known -/
def wsub : List (Option Value) → List (Option Value) → Prop
  | [], _ => True
  | none :: a, b => wsub a b.tail
  | some v :: a, some w :: b => v = w ∧ wsub a b
  | some _ :: _, _ => False
theorem wsub_spec : ∀ (a b : List (Option Value)), wsub a b → ∀ (i : Nat) (v : Value), a[i]? = some (some v) → b[i]? = some (some v)
  | [], _, _, i, v, h => by simp at h
  | none :: a, b, hs, i, v, h => by
    match i, h with
    | 0, h => simp at h
    | i + 1, h =>
      have h : a[i]? = some (some v) := h
      have := wsub_spec a b.tail hs i v h
      rw [List.getElem?_tail] at this
      exact this
  | some w :: a, some u :: b, hs, i, v, h => by
    obtain ⟨e, hs⟩ := hs
    subst e
    match i, h with
    | 0, h => exact h
    | i + 1, h => exact wsub_spec a b hs i v h
  | some w :: a, none :: b, hs, _, _, _ => False.elim hs
  | some w :: a, [], hs, _, _, _ => False.elim hs
section WF
variable {p : Program} {l : Launch} {e : Env} {R : Room} {s : State} {m : MethodId} {args : Array Value} {below : List Frame} {meth : Method} {c : Code} {ck cn : Nat} {Q : State → Prop} {nL : Nat} {D : va_G} {dA : Nat → ClassId} {b0 : Nat} {ad : Nat → Nat} {S : List wSh} {pc : Nat} {ls ls2 : List (Option Value)} {st : List Value} {h : wSt}
theorem w_fg (hf : wsub ls2 ls) (k : wM p l e R s m args below meth c ck cn Q nL D dA b0 ad S pc ls2 st h) : wM p l e R s m args below meth c ck cn Q nL D dA b0 ad S pc ls st h := w_forget (wsub_spec ls2 ls hf) k
end WF
theorem w_meth2 {l : Launch} {y : MethodName} {cc : ByteArray} {nL : Nat} {ret : Option FieldType} {d : Nat} {S : List wSh} {av : List Value} {h : wSt} {F : Option Value → wSt → Prop} {ls : List (Option Value)} (j : Nat) (hy : plainName y.cls = true) (hlen : (wlo av).length ≤ nL) (hls : wlo av ++ List.replicate j none = ls)
    (body : ∀ (p : Program) (e : Env) (s : State) (m : MethodId) (args : Array Value) (below : List Frame) (meth : Method) (c : Code) (D : va_G) (dA : Nat → ClassId) (b0 : Nat) (ad : Nat → Nat), wCx p s m args meth c y.cls cc nL D dA b0 ad → meth.sig.returnType = ret → wM p l e (wR d) s m args below meth c 0 0 (wE below args s D dA b0 ad S F) nL D dA b0 ad S 0 ls [] h) : wC l y cc nL ret d S av h F := by
  refine w_meth hy hlen ?_ (fun p e s m args below meth c D dA b0 ad X hr _ => body p e s m args below meth c D dA b0 ad X hr)
  intro i v hv
  rw [← hls] at hv
  by_cases hi : i < (wlo av).length
  · rwa [List.getElem?_append_left hi] at hv
  · rw [List.getElem?_append_right (by omega)] at hv
    obtain ⟨h1, h2⟩ := List.getElem?_eq_some_iff.mp hv
    rw [List.getElem_replicate] at h2
    cases h2

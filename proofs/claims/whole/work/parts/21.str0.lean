
def wS1 : List (String × Nat) := [("WornSkin$Tape", 38), ("WornSkin$Library", 82), ("WornSkin$Tape", 68), ("WornSkin$Tape", 70), ("WornSkin$Tape", 72), ("WornSkin$Tape", 74), ("WornSkin$Tape", 76), ("WornSkin$Tape", 78), ("WornSkin$Tape", 80), ("WornSkin$Tape", 82), ("WornSkin$Tape", 84), ("WornSkin$Tape", 86), ("WornSkin$Tape", 88), ("WornSkin$Tape", 90), ("WornSkin$Tape", 92), ("WornSkin$Tape", 94), ("WornSkin$Tape", 96), ("WornSkin$Tape", 98), ("WornSkin$Tape", 100), ("WornSkin$Tape", 102), ("WornSkin$Tape", 104), ("WornSkin$Law", 86), ("WornSkin$Law", 88), ("WornSkin$Law", 90), ("WornSkin$Law", 92)]
def wtm (i : Nat) : Term := .string (wS1.getD i ("", 0)).1 (wS1.getD i ("", 0)).2
abbrev wN1 : List Cond := flatC (Jvm.Cond.and given_1 narrow_1)
theorem w_hex : ∀ i, i < 25 → Cond.exactly (wtm i) "java/lang/String" ∈ wN1 := by decide +kernel
theorem w_hco : ∀ i, i < 25 → Cond.eq (.field (wtm i) "java/lang/String" "coder" "B") (.int 0) ∈ wN1 := by decide +kernel
theorem w_har : ∀ i, i < 25 → Cond.arrayOf (.field (wtm i) "java/lang/String" "value" "[B") .byte ∈ wN1 := by decide +kernel
theorem w_hle : ∀ i, i < 25 → Cond.eq (.length (.field (wtm i) "java/lang/String" "value" "[B")) (.int (Int32.ofNat (wSl.getD i 0))) ∈ wN1 := by decide +kernel
theorem w_hel : ∀ i, i < 25 → ∀ j, j < wSl.getD i 0 → Cond.eq (.elem (.field (wtm i) "java/lang/String" "value" "[B") (.int (Int32.ofNat j))) (.int ((wSb.getD i []).getD j 0)) ∈ wN1 := by decide +kernel
theorem w_hlen : ∀ i, i < 25 → wSl.getD i 0 < 16 := by decide +kernel
/-- two texts differ in their lengths, or at a place -/
theorem w_hdif : ∀ i, i < 25 → ∀ j, j < 25 → i ≠ j → wSl.getD i 0 ≠ wSl.getD j 0 ∨ ∃ k, k < wSl.getD i 0 ∧ (wSb.getD i []).getD k 0 ≠ (wSb.getD j []).getD k 0 := by decide +kernel
/-- where each entry's text is said to be one of these -/
theorem w_hpr : ∀ q ∈ wSk, (q.1, q.2.1) = wS1.getD q.2.2.2 ("", 0) ∨ Cond.eq (wtm q.2.2.2) (.string q.1 q.2.1) ∈ wN1 ∨ Cond.eq (.string q.1 q.2.1) (wtm q.2.2.2) ∈ wN1 := by decide +kernel
theorem w_hsr : ∀ q ∈ wSk, Cond.stringRef q.1 q.2.1 q.2.2.1 ∈ lw_tbl ∧ q.2.2.2 < 25 := by decide +kernel
theorem w_texts {args : Array Value} {s : State} {A : Nat → Prop} (hg : ∀ c ∈ wN1, c.before args s = true) (hts : ∀ w ∈ lw_tbl, w.before args s = true) (hA : ∀ a : Nat, a < s.heap.size → ¬ A a) :
    ∃ adK adV : Nat → Nat, vk_S 25 wSl wSb adK adV A s s.heap ∧ ∀ q ∈ wSk, vk_R q.1 q.2.1 q.2.2.1 (adK q.2.2.2) s := by
  have h0 : ∀ i : Nat, ∃ q : Nat × Nat, i < 25 → (wtm i).eval args s none [] s = some (.ref q.1) ∧ va_O "java/lang/String" q.1 A s s.heap ∧ va_OF "java/lang/String" "coder" "B" (.int 0) q.1 A s s.heap ∧ va_OF "java/lang/String" "value" "[B" (.ref q.2) q.1 A s s.heap ∧ va_T .byte q.2 (wSl.getD i 0) (fun j => .int ((wSb.getD i []).getD j 0)) A s s.heap := by
    intro i
    by_cases hi : i < 25
    · obtain ⟨a, c, cA, kA, q1, q2, q3, q4, q5, q6, -⟩ := Cond.exactly_spec (args := args) (first := s) (o := none) (s := s) (idx := []) (t := wtm i) (cls := "java/lang/String") (hg _ (w_hex i hi))
      obtain ⟨t, ht, hT⟩ := va_Tof (f := fun j => .int ((wSb.getD i []).getD j 0)) (A := A) (show wSl.getD i 0 < 2 ^ 31 by have := w_hlen i hi; omega) (hg _ (w_har i hi)) (va_eqt (hg _ (w_hle i hi))) (fun j hj => va_eqt (hg _ (w_hel i hi j hj))) hA
      exact ⟨(a, t), fun _ => ⟨q1, ⟨cA, q3, q5, by rw [q6]; exact q2, hA a (Array.getElem?_eq_some_iff.mp q3).1⟩, vk_OFof q1 (va_eqt (hg _ (w_hco i hi))) hA, vk_OFof q1 ht hA, hT⟩⟩
    · exact ⟨(0, 0), fun h => absurd h hi⟩
  obtain ⟨ad, had⟩ := Classical.axiomOfChoice h0
  refine ⟨fun i => (ad i).1, fun i => (ad i).2, ⟨fun i hi => (had i hi).2, fun i j hi hj e => ?_⟩, fun q hq => ?_⟩
  · by_cases hij : i = j
    · exact hij
    · exfalso
      obtain ⟨-, -, -, ⟨cf, kf, fi, f, cell, a1, a2, a3, a4, a5, -⟩, ⟨c1, b1, -, -, b3, b4, b5, -⟩⟩ := had i hi
      obtain ⟨-, -, -, ⟨cf', kf', fi', f', cell', a1', a2', a3', a4', a5', -⟩, ⟨c2, d1, -, -, d3, d4, d5, -⟩⟩ := had j hj
      have e : (ad i).1 = (ad j).1 := e
      have ef : f = f' := by
        have := a1.symm.trans a1'
        simp only [Option.some.injEq, Prod.mk.injEq] at this
        exact this.2.2.2
      have ec : cell = cell' := by rw [e] at a3; exact Option.some.inj (a3.symm.trans a3')
      subst ef
      subst ec
      have ev : (ad i).2 = (ad j).2 := by
        have := a5.symm.trans a5'
        simp only [Option.some.injEq, Value.ref.injEq] at this
        exact this
      rw [ev] at b1
      have ecc : c1 = c2 := Option.some.inj (b1.symm.trans d1)
      subst ecc
      have el : wSl.getD i 0 = wSl.getD j 0 := by
        have := b4.symm.trans d4
        exact (nI_eq (by have := w_hlen i hi; omega) (by have := w_hlen j hj; omega)).mp this
      rcases w_hdif i hi j hj hij with h | ⟨k, hk, h⟩
      · exact h el
      · have x1 := b5 k hk
        have x2 := d5 k (by rw [← el]; exact hk)
        have := x1.symm.trans x2
        simp only [Option.some.injEq, Value.int.injEq] at this
        exact h this
  · obtain ⟨h1, h2⟩ := w_hsr q hq
    refine vk_R.of (hts _ h1) ?_
    have hv := (had q.2.2.2 h2).1
    rcases w_hpr q hq with h | h | h
    · have e1 : wtm q.2.2.2 = .string q.1 q.2.1 := by unfold wtm; rw [← h]
      rw [← e1]; exact hv
    · exact va_eqR (hg _ h) hv
    · exact va_eqv (hg _ h) hv

/-! WHAT IS HELD, as plain numbers: the library, the shelf; how each side holds it -/
abbrev gLib : Type := (Nat → Nat → Nat) × (Nat → Nat → List Nat) × (Nat → Nat → Nat → Nat → Bool)
/-- week, how thick, which lie bare above, the layers of each place from above -/
abbrev gSh : Type := Nat × (Nat → Nat) × (Nat → Nat) × (Nat → List Nat)
def gns (L : gLib) : Nat := L.1 0 0
def gnt (L : gLib) : Nat := L.1 0 1
def gnd (L : gLib) : Nat := L.1 0 2
def gln (L : gLib) (i : Nat) : Nat := L.1 1 i
def gtk (L : gLib) (i : Nat) : Nat := L.1 2 i
def gho (L : gLib) (i : Nat) : Nat := L.1 3 i
def gkd (L : gLib) (i : Nat) : Nat := L.1 4 i
def gga (L : gLib) (i : Nat) : Nat := L.1 5 i
def gtl (L : gLib) (i : Nat) : Nat := L.1 6 i
def gdm (L : gLib) (i : Nat) : Nat := L.1 7 i
def gnm (L : gLib) (j i : Nat) : List Nat := L.2.1 j i
def gsh (L : gLib) : Nat → Nat → Nat → Nat → Bool := L.2.2
/-- a line's layers as each side keeps them -/
def e7 : List Nat → Nat
  | [] => 0
  | t :: l => 7 * e7 l + (t + 1)
def e8 : List Nat → Nat
  | [] => 0
  | t :: l => e8 l + t * 8 ^ l.length
/-- a name's letters -/
def eN (b : Nat) (w : List Nat) : Nat := w.foldl (fun a x => a * b + x) 0
def WN (w : List Nat) : Prop := 1 ≤ w.length ∧ w.length ≤ 8 ∧ ∀ x ∈ w, 1 ≤ x ∧ x ≤ 26
def WL (L : gLib) : Prop := gns L ≤ 3 ∧ gnt L ≤ 6 ∧ gnd L ≤ 12 ∧ (∀ i, i < gns L → 1 ≤ gln L i ∧ gln L i ≤ 6 ∧ 1 ≤ gtk L i ∧ gtk L i ≤ 30 ∧ gho L i < 2 ^ gln L i ∧ WN (gnm L 0 i))
  ∧ (∀ t, t < gnt L → gkd L t ≤ 3 ∧ gga L t ≤ 1 ∧ 1 ≤ gtl L t ∧ gtl L t ≤ 6 ∧ WN (gnm L 1 t)) ∧ ∀ i, i < gnd L → gdm L i ≤ 9
/-- the law's stack alone -/
def sq (c : Nat) : Prop := c = 15
/-- the other side's room for the law -/
def sr (c : Nat) : Prop := 203 ≤ c ∧ c ≤ 214
def LawC (h : wSt) (f : Nat → Nat → Nat → Nat → Bool) : Prop := ∀ h2 : wSt, h2.1 13 = h.1 13 → h2.1 14 = h.1 14 → ∀ a b c d, a < 64 → b < 64 → c < 64 → d < 64 → ∃ h3, fX2_holds h2 13 (nI a) (nI b) (nI c) (nI d) = some (f a b c d, h3) ∧ fr sq h2 h3
def LawR (h : wSt) (f : Nat → Nat → Nat → Nat → Bool) : Prop := ∀ h2 : wSt, h2.1 200 0 = h.1 200 0 → h2.1 201 0 = h.1 201 0 → (∀ i, i < 1000 → h2.1 202 i = h.1 202 i) → ∀ t a b c d, t < 12 → a < 64 → b < 64 → c < 64 → d < 64 → h2.1 197 t = nI c → ∃ h3, fX11_showsBy_b38 h2 (nI t) (nI d) (nI a) (nI b) = some (f a b c d, h3) ∧ fr sr h2 h3
def CL (h : wSt) (L : gLib) : Prop := h.1 3 0 = nI (gns L) ∧ h.1 3 5 = nI (gnt L) ∧ h.1 3 10 = nI (gnd L) ∧ (∀ i, i < gns L → h.1 5 i = nI (gln L i) ∧ h.1 6 i = nI (gtk L i) ∧ h.1 7 i = nI (gho L i) ∧ h.2 4 i = lN (eN 32 (gnm L 0 i)))
  ∧ (∀ t, t < gnt L → h.1 9 t = nI (gkd L t) ∧ h.1 10 t = nI (gga L t) ∧ h.1 11 t = nI (gtl L t) ∧ h.2 8 t = lN (eN 32 (gnm L 1 t))) ∧ (∀ i, i < gnd L → h.1 12 i = nI (gdm L i)) ∧ (0 < gnt L → LawC h (gsh L))
def ML (h : wSt) (L : gLib) : Prop := h.1 190 0 = nI (gns L) ∧ h.1 190 1 = nI (gnt L) ∧ h.1 190 2 = nI (gnd L) ∧ (∀ i, i < gns L → h.1 193 i = nI (gln L i) ∧ h.1 194 i = nI (gtk L i) ∧ h.1 195 i = nI (gho L i) ∧ h.2 191 i = lN (eN 27 (gnm L 0 i)))
  ∧ (∀ t, t < gnt L → h.1 196 t = nI (gkd L t) ∧ h.1 197 t = nI (gga L t) ∧ h.1 198 t = nI (gtl L t) ∧ h.2 192 t = lN (eN 27 (gnm L 1 t))) ∧ (∀ i, i < gnd L → h.1 199 i = nI (gdm L i)) ∧ (0 < gnt L → LawR h (gsh L))
/-- a shelf that can be -/
def WS (L : gLib) (S : gSh) : Prop := S.1 < 1048576 ∧ (∀ i, i < 3 → S.2.1 i ≤ 30 ∧ S.2.2.1 i < 64 ∧ (gns L ≤ i → S.2.1 i = 0 ∧ S.2.2.1 i = 0))
  ∧ (∀ p, p < 18 → (S.2.2.2 p).length ≤ 9 ∧ ∀ t ∈ S.2.2.2 p, t < gnt L) ∧ (∀ i j, i < 3 → j < 6 → (S.2.2.1 i).testBit j = true → S.2.2.2 (6 * i + j) ≠ []) ∧ ∀ i j, i < 3 → j < 6 → (gns L ≤ i ∨ gln L i ≤ j) → S.2.2.2 (6 * i + j) = []
def SH (h : wSt) (k : Nat) (S : gSh) : Prop := h.1 k 1 = nI S.1 ∧ (∀ i, i < 3 → h.1 (k + 1) i = nI (S.2.1 i) ∧ h.1 (k + 2) i = nI (S.2.2.1 i)) ∧ ∀ p, p < 18 → h.1 (k + 3) p = nI (S.2.2.2 p).length ∧ h.1 (k + 4) p = nI (e8 (S.2.2.2 p))
def MS (h : wSt) (c o : Nat) (S : gSh) : Prop := h.1 c o = nI S.1 ∧ (∀ i, i < 3 → h.1 c (o + 1 + i) = nI (S.2.1 i) ∧ h.1 c (o + 4 + i) = nI (S.2.2.1 i)) ∧ ∀ p, p < 18 → h.1 c (o + 7 + p) = nI (e7 (S.2.2.2 p))
/-- the two sides with a shelf -/
def CX (h : wSt) (L : gLib) (k : Nat) (S : gSh) : Prop := WL L ∧ CL h L ∧ WS L S ∧ SH h k S ∧ 29 ≤ k
def MX (h : wSt) (L : gLib) (S : gSh) : Prop := WL L ∧ ML h L ∧ WS L S ∧ MS h 225 0 S
theorem LawC_fr {h h2 : wSt} {f : Nat → Nat → Nat → Nat → Bool} (a : LawC h f) (h1 : h2.1 13 = h.1 13) (h3 : h2.1 14 = h.1 14) : LawC h2 f := fun g g1 g2 => a g (g1.trans h1) (g2.trans h3)
theorem CL_fr {h h2 : wSt} {L : gLib} {P : Nat → Prop} (a : CL h L) (f : fr P h h2) (hP : ∀ c, 3 ≤ c → c ≤ 14 → ¬ P c) : CL h2 L := by
  obtain ⟨a1, a2, a3, a4, a5, a6, a7⟩ := a
  have g := fun c h1 h2 => f c (hP c h1 h2)
  unfold CL
  rw [(g 3 (by omega) (by omega)).1, (g 5 (by omega) (by omega)).1, (g 6 (by omega) (by omega)).1, (g 7 (by omega) (by omega)).1, (g 9 (by omega) (by omega)).1, (g 10 (by omega) (by omega)).1, (g 11 (by omega) (by omega)).1, (g 12 (by omega) (by omega)).1, (g 4 (by omega) (by omega)).2, (g 8 (by omega) (by omega)).2]
  exact ⟨a1, a2, a3, a4, a5, a6, fun q => LawC_fr (a7 q) (g 13 (by omega) (by omega)).1 (g 14 (by omega) (by omega)).1⟩
theorem ML_fr {h h2 : wSt} {L : gLib} {P : Nat → Prop} (a : ML h L) (f : fr P h h2) (hP : ∀ c, 190 ≤ c → c ≤ 202 → ¬ P c) : ML h2 L := by
  obtain ⟨a1, a2, a3, a4, a5, a6, a7⟩ := a
  have g := fun c h1 h2 => f c (hP c h1 h2)
  unfold ML
  rw [(g 190 (by omega) (by omega)).1, (g 193 (by omega) (by omega)).1, (g 194 (by omega) (by omega)).1, (g 195 (by omega) (by omega)).1, (g 196 (by omega) (by omega)).1, (g 197 (by omega) (by omega)).1, (g 198 (by omega) (by omega)).1, (g 199 (by omega) (by omega)).1, (g 191 (by omega) (by omega)).2, (g 192 (by omega) (by omega)).2]
  refine ⟨a1, a2, a3, a4, a5, a6, fun q h3 b1 b2 b3 => a7 q h3 ?_ ?_ ?_⟩
  · rw [b1, (g 200 (by omega) (by omega)).1]
  · rw [b2, (g 201 (by omega) (by omega)).1]
  · intro i hi
    rw [b3 i hi, (g 202 (by omega) (by omega)).1]
theorem SH_fr {h h2 : wSt} {k : Nat} {S : gSh} {P : Nat → Prop} (a : SH h k S) (f : fr P h h2) (hP : ∀ c, k ≤ c → c ≤ k + 4 → ¬ P c) : SH h2 k S := by
  have g := fun c h1 h2 => f c (hP c h1 h2)
  unfold SH
  rw [(g k (by omega) (by omega)).1, (g (k + 1) (by omega) (by omega)).1, (g (k + 2) (by omega) (by omega)).1, (g (k + 3) (by omega) (by omega)).1, (g (k + 4) (by omega) (by omega)).1]
  exact a
theorem MS_fr {h h2 : wSt} {c o : Nat} {S : gSh} {P : Nat → Prop} (a : MS h c o S) (f : fr P h h2) (hP : ¬ P c) : MS h2 c o S := by
  unfold MS
  rw [(f c hP).1]
  exact a
theorem CX_fr {h h2 : wSt} {L : gLib} {k : Nat} {S : gSh} (a : CX h L k S) (f : fr sq h h2) : CX h2 L k S := by
  obtain ⟨a1, a2, a3, a4, a5⟩ := a
  exact ⟨a1, CL_fr a2 f (fun c h1 h2 => by unfold sq; omega), a3, SH_fr a4 f (fun c h1 h2 => by unfold sq; omega), a5⟩
theorem MX_fr {h h2 : wSt} {L : gLib} {S : gSh} {P : Nat → Prop} (a : MX h L S) (f : fr P h h2) (hP : ∀ c, 190 ≤ c → c ≤ 202 → ¬ P c) (hP2 : ¬ P 225) : MX h2 L S := by
  obtain ⟨a1, a2, a3, a4⟩ := a
  exact ⟨a1, ML_fr a2 f hP, a3, MS_fr a4 f hP2⟩
theorem MX_sr {h h2 : wSt} {L : gLib} {S : gSh} (a : MX h L S) (f : fr sr h h2) : MX h2 L S := MX_fr a f (fun c h1 h2 => by unfold sr; omega) (by unfold sr; omega)
/-! layers in numbers -/
theorem e8_lt : ∀ {l : List Nat}, (∀ t ∈ l, t < 8) → e8 l < 8 ^ l.length
  | [], _ => by simp [e8]
  | t :: l, h => by
    have h1 := e8_lt (l := l) (fun u hu => h u (List.mem_cons_of_mem _ hu))
    have h2 : t < 8 := h t List.mem_cons_self
    rw [e8, List.length_cons, Nat.pow_succ]
    have h3 : t * 8 ^ l.length ≤ 7 * 8 ^ l.length := Nat.mul_le_mul_right _ (by omega)
    omega
theorem e8_lt9 {l : List Nat} (hl : l.length ≤ 9) (h : ∀ t ∈ l, t < 6) : e8 l < 134217728 := by
  have h1 := e8_lt (l := l) (fun t ht => by have := h t ht; omega)
  have h2 : 8 ^ l.length ≤ 8 ^ 9 := Nat.pow_le_pow_right (by decide) hl
  omega
theorem e7_lt : ∀ {l : List Nat}, (∀ t ∈ l, t < 6) → e7 l < 7 ^ l.length
  | [], _ => by simp [e7]
  | t :: l, h => by
    have h1 := e7_lt (l := l) (fun u hu => h u (List.mem_cons_of_mem _ hu))
    have h2 : t < 6 := h t List.mem_cons_self
    rw [e7, List.length_cons, Nat.pow_succ]
    omega
theorem e7_lt9 {l : List Nat} (hl : l.length ≤ 9) (h : ∀ t ∈ l, t < 6) : e7 l < 40353607 := by
  have h1 := e7_lt (l := l) h
  have h2 : 7 ^ l.length ≤ 7 ^ 9 := Nat.pow_le_pow_right (by decide) hl
  omega
/-- the layer so many from below -/
theorem e8_at : ∀ {l : List Nat} {t : Nat} (l0 : List Nat), (∀ u ∈ l0 ++ t :: l, u < 8) → (e8 (l0 ++ t :: l) / 8 ^ l.length) % 8 = t
  | l, t, [], h => by
    have h1 := e8_lt (l := l) (fun u hu => h u (by simp [hu]))
    have h2 : t < 8 := h t (by simp)
    rw [List.nil_append, e8, Nat.add_mul_div_right _ _ (Nat.pow_pos (by decide)), Nat.div_eq_of_lt h1, Nat.zero_add, Nat.mod_eq_of_lt h2]
  | l, t, u :: l0, h => by
    have h1 := e8_at (l := l) (t := t) l0 (fun v hv => h v (by rw [List.cons_append]; exact List.mem_cons_of_mem _ hv))
    rw [List.cons_append, e8, List.length_append, List.length_cons]
    have e : u * 8 ^ (l0.length + (l.length + 1)) = (u * 8 ^ l0.length * 8) * 8 ^ l.length := by
      rw [Nat.pow_add, Nat.pow_succ, Nat.mul_assoc, Nat.mul_assoc, Nat.mul_comm (8 ^ l.length) 8]
    rw [e, Nat.add_mul_div_right _ _ (Nat.pow_pos (by decide)), Nat.add_mul_mod_self_right]
    exact h1
theorem e8_sh {l : List Nat} {t : Nat} (l0 : List Nat) (h : ∀ u ∈ l0 ++ t :: l, u < 8) : (e8 (l0 ++ t :: l) >>> (3 * l.length)) &&& 7 = t := by
  rw [show (7 : Nat) = 2 ^ 3 - 1 from rfl, Nat.and_two_pow_sub_one_eq_mod, Nat.shiftRight_eq_div_pow, Nat.pow_mul]
  exact e8_at l0 h
theorem e7_0 {l : List Nat} : e7 l = 0 ↔ l = [] := by
  cases l with
  | nil => simp [e7]
  | cons t l => simp [e7]
theorem e7_inj : ∀ {l m : List Nat}, (∀ t ∈ l, t < 6) → (∀ t ∈ m, t < 6) → e7 l = e7 m → l = m
  | [], m, _, _, h => (e7_0.mp h.symm).symm
  | t :: l, [], _, _, h => by exact absurd (e7_0.mp h) (by simp)
  | t :: l, u :: m, h1, h2, h => by
    have a1 : t < 6 := h1 t List.mem_cons_self
    have a2 : u < 6 := h2 u List.mem_cons_self
    rw [e7, e7] at h
    have h3 : t = u := by omega
    have h4 := e7_inj (l := l) (m := m) (fun v hv => h1 v (List.mem_cons_of_mem _ hv)) (fun v hv => h2 v (List.mem_cons_of_mem _ hv)) (by omega)
    rw [h3, h4]
theorem e8_inj : ∀ {l m : List Nat}, (∀ t ∈ l, t < 8) → (∀ t ∈ m, t < 8) → l.length = m.length → e8 l = e8 m → l = m
  | [], m, _, _, hl, _ => (List.length_eq_zero_iff.mp (by rw [← hl]; rfl)).symm
  | t :: l, [], _, _, hl, _ => by simp at hl
  | t :: l, u :: m, h1, h2, hl, h => by
    rw [List.length_cons, List.length_cons] at hl
    have hl2 : l.length = m.length := by omega
    have a1 := e8_lt (l := l) (fun v hv => h1 v (List.mem_cons_of_mem _ hv))
    have a2 := e8_lt (l := m) (fun v hv => h2 v (List.mem_cons_of_mem _ hv))
    rw [e8, e8, hl2] at h
    rw [hl2] at a1
    have h3 : t = u := by
      have b1 : (e8 l + t * 8 ^ m.length) / 8 ^ m.length = t := by rw [Nat.add_mul_div_right _ _ (Nat.pow_pos (by decide)), Nat.div_eq_of_lt a1, Nat.zero_add]
      have b2 : (e8 m + u * 8 ^ m.length) / 8 ^ m.length = u := by rw [Nat.add_mul_div_right _ _ (Nat.pow_pos (by decide)), Nat.div_eq_of_lt a2, Nat.zero_add]
      rw [← b1, ← b2, h]
    rw [h3] at h
    have h4 := e8_inj (l := l) (m := m) (fun v hv => h1 v (List.mem_cons_of_mem _ hv)) (fun v hv => h2 v (List.mem_cons_of_mem _ hv)) hl2 (by omega)
    rw [h3, h4]

/-! WHAT IS HELD BETWEEN CALLS -/
/-- a year: how many, and each as (what, text, skin, line) -/
abbrev gYr : Type := Nat × (Nat → Nat × Nat × Nat × Nat)
/-- what was seen: how many, and each as (skin, deep, damp, shows) -/
abbrev gSn : Type := Nat × (Nat → Nat × Nat × Nat × Bool)
abbrev gTp : Type := Nat × (Nat → Nat)
abbrev gUn : Type := Nat × Nat × (Nat → gSh)
abbrev gMk : Type := Nat → Option (gSh × gYr × gSn)
def gLine (a : Nat × Nat × Nat × Nat) : Nat := 1000 * a.1 + 100 * a.2.1 + 10 * a.2.2.1 + a.2.2.2
def WY (L : gLib) (Y : gYr) : Prop := Y.1 ≤ 40 ∧ ∀ i, i < Y.1 → (Y.2 i).1 ≤ 3 ∧ ((Y.2 i).1 = 0 → (Y.2 i).2.1 < gnt L ∧ (Y.2 i).2.2.2 ≤ 5) ∧ ((Y.2 i).1 ≠ 0 → (Y.2 i).2.1 = 0 ∧ (Y.2 i).2.2.2 = 0) ∧ ((Y.2 i).1 ≠ 3 → (Y.2 i).2.2.1 < gns L) ∧ ((Y.2 i).1 = 3 → (Y.2 i).2.2.1 = 0)
def YC (h : wSt) (y : Nat) (Y : gYr) : Prop := h.1 y 0 = nI Y.1 ∧ ∀ i, i < Y.1 → h.1 (y + 1) i = nI (gLine (Y.2 i))
def YM (h : wSt) (j : Nat) (Y : gYr) : Prop := h.1 215 j = nI Y.1 ∧ ∀ i, i < Y.1 → h.1 216 (40 * j + i) = nI (Y.2 i).1 ∧ ((Y.2 i).1 = 0 → h.1 217 (40 * j + i) = nI (Y.2 i).2.1 ∧ h.1 219 (40 * j + i) = nI (Y.2 i).2.2.2) ∧ ((Y.2 i).1 ≠ 3 → h.1 218 (40 * j + i) = nI (Y.2 i).2.2.1)
def WE (L : gLib) (N : gSn) : Prop := N.1 ≤ 8 ∧ ∀ i, i < N.1 → (N.2 i).1 < gns L ∧ 1 ≤ (N.2 i).2.1 ∧ (N.2 i).2.1 ≤ 9 ∧ (N.2 i).2.2.1 ≤ 9
def NC (h : wSt) (y : Nat) (N : gSn) : Prop := h.1 y 0 = nI N.1 ∧ ∀ i, i < N.1 → h.1 (y + 1) i = nI (N.2 i).1 ∧ h.1 (y + 2) i = nI (N.2 i).2.1 ∧ h.1 (y + 3) i = nI (N.2 i).2.2.1 ∧ h.1 (y + 4) i = nI (N.2 i).2.2.2.toNat
def NM (h : wSt) (j : Nat) (N : gSn) : Prop := h.1 220 j = nI N.1 ∧ ∀ i, i < N.1 → h.1 221 (8 * j + i) = nI (N.2 i).1 ∧ h.1 222 (8 * j + i) = nI (N.2 i).2.1 ∧ h.1 223 (8 * j + i) = nI (N.2 i).2.2.1 ∧ h.1 224 (8 * j + i) = nI (N.2 i).2.2.2.toNat
def WT (T : gTp) : Prop := T.1 ≤ 1000 ∧ ∀ i, i < T.1 → T.2 i = 10 ∨ (32 ≤ T.2 i ∧ T.2 i ≤ 126)
def TC (h : wSt) (T : gTp) : Prop := h.1 1 1 = nI T.1 ∧ ∀ i, i < T.1 → h.1 2 i = nI (T.2 i)
def TM (h : wSt) (T : gTp) : Prop := h.1 188 1 = nI T.1 ∧ ∀ i, i < T.1 → h.1 189 i = nI (T.2 i)
def gAt (u : gUn) (i : Nat) : Nat := 50 + 5 * ((u.2.1 + 16 - u.1 + i) % 16)
def UC (h : wSt) (u : gUn) : Prop := h.1 48 0 = nI u.1 ∧ h.1 48 1 = nI u.2.1 ∧ ∀ i, i < u.1 → SH h (gAt u i) (u.2.2 i)
def UM (h : wSt) (u : gUn) : Prop := h.1 188 54 = nI u.1 ∧ ∀ i, i < u.1 → MS h 229 (25 * i) (u.2.2 i)
def BC (h : wSt) (M : gMk) : Prop := ∀ i, i < 4 → h.1 (136 + 13 * i) 0 = nI (M i).isSome.toNat ∧ ∀ s y n, M i = some (s, y, n) → SH h (136 + 13 * i + 8) s ∧ YC h (136 + 13 * i + 1) y ∧ NC h (136 + 13 * i + 3) n
def BM (h : wSt) (M : gMk) : Prop := ∀ i, i < 4 → h.1 230 i = nI (M i).isSome.toNat ∧ ∀ s y n, M i = some (s, y, n) → MS h 228 (25 * i) s ∧ YM h (1 + i) y ∧ NM h (1 + i) n
def WI (k : Nat) (L : gLib) (S : gSh) (u : gUn) (M : gMk) (Y : gYr) (N : gSn) (T : gTp) : Prop :=
  WL L ∧ WS L S ∧ S.1 ≤ k ∧ (u.1 ≤ 16 ∧ u.2.1 < 16 ∧ ∀ i, i < u.1 → WS L (u.2.2 i) ∧ (u.2.2 i).1 ≤ k) ∧ (∀ i s y n, M i = some (s, y, n) → WS L s ∧ s.1 ≤ k ∧ WY L y ∧ WE L n) ∧ WY L Y ∧ WE L N ∧ WT T
def CI (h : wSt) (L : gLib) (S : gSh) (u : gUn) (M : gMk) (Y : gYr) (N : gSn) (T : gTp) : Prop := CL h L ∧ SH h 29 S ∧ UC h u ∧ BC h M ∧ YC h 39 Y ∧ NC h 43 N ∧ TC h T
def MI (h : wSt) (L : gLib) (S : gSh) (u : gUn) (M : gMk) (Y : gYr) (N : gSn) (T : gTp) : Prop := ML h L ∧ MS h 225 0 S ∧ UM h u ∧ BM h M ∧ YM h 0 Y ∧ NM h 0 N ∧ TM h T
def Inv (k : Nat) (h : wSt) : Prop := ∃ L S u M Y N T, WI k L S u M Y N T ∧ CI h L S u M Y N T ∧ MI h L S u M Y N T
/-- what no call leaves a trace in: this side, the other -/
def cs (c : Nat) : Prop := c = 15 ∨ (16 ≤ c ∧ c ≤ 28) ∨ (34 ≤ c ∧ c ≤ 38) ∨ c = 41 ∨ c = 42 ∨ (130 ≤ c ∧ c ≤ 134)
def rs (c : Nat) : Prop := c = 188 ∨ (203 ≤ c ∧ c ≤ 214) ∨ (225 ≤ c ∧ c ≤ 227) ∨ (231 ≤ c ∧ c ≤ 233)
def cls (c : Nat) : Prop := c < 188
def ref (c : Nat) : Prop := 188 ≤ c
theorem cs_cls {c : Nat} (h : cs c) : cls c := by unfold cs at h; unfold cls; omega
theorem rs_ref {c : Nat} (h : rs c) : ref c := by unfold rs at h; unfold ref; omega
theorem sq_cs {c : Nat} (h : sq c) : cs c := by unfold sq at h; unfold cs; omega
theorem sr_rs {c : Nat} (h : sr c) : rs c := by unfold sr at h; unfold rs; omega
theorem s225_rs {c : Nat} (h : s225 c) : rs c := by unfold s225 at h; unfold rs; omega
theorem sk34_cs {c : Nat} (h : sk 34 c) : cs c := by unfold sk at h; unfold cs; omega
section G38
variable {h h2 : wSt} {k : Nat} {L : gLib} {S : gSh} {u : gUn} {M : gMk} {Y : gYr} {N : gSn} {T : gTp} {P : Nat → Prop}
theorem YC_fr {y : Nat} (a : YC h y Y) (f : fr P h h2) (h1 : ¬ P y) (h3 : ¬ P (y + 1)) : YC h2 y Y := by
  unfold YC
  rw [fr_at f h1, fr_at f h3]
  exact a
theorem NC_fr {y : Nat} (a : NC h y N) (f : fr P h h2) (hP : ∀ c, y ≤ c → c ≤ y + 4 → ¬ P c) : NC h2 y N := by
  unfold NC
  rw [fr_at f (hP y (by omega) (by omega)), fr_at f (hP (y + 1) (by omega) (by omega)), fr_at f (hP (y + 2) (by omega) (by omega)), fr_at f (hP (y + 3) (by omega) (by omega)), fr_at f (hP (y + 4) (by omega) (by omega))]
  exact a
theorem YM_fr {j : Nat} (a : YM h j Y) (f : fr P h h2) (hP : ∀ c, 215 ≤ c → c ≤ 219 → ¬ P c) : YM h2 j Y := by
  unfold YM
  rw [fr_at f (hP 215 (by omega) (by omega)), fr_at f (hP 216 (by omega) (by omega)), fr_at f (hP 217 (by omega) (by omega)), fr_at f (hP 218 (by omega) (by omega)), fr_at f (hP 219 (by omega) (by omega))]
  exact a
theorem NM_fr {j : Nat} (a : NM h j N) (f : fr P h h2) (hP : ∀ c, 220 ≤ c → c ≤ 224 → ¬ P c) : NM h2 j N := by
  unfold NM
  rw [fr_at f (hP 220 (by omega) (by omega)), fr_at f (hP 221 (by omega) (by omega)), fr_at f (hP 222 (by omega) (by omega)), fr_at f (hP 223 (by omega) (by omega)), fr_at f (hP 224 (by omega) (by omega))]
  exact a
theorem TC_fr (a : TC h T) (f : fr P h h2) (h1 : ¬ P 1) (h3 : ¬ P 2) : TC h2 T := by
  unfold TC
  rw [fr_at f h1, fr_at f h3]
  exact a
theorem TM_fr (a : TM h T) (f : fr P h h2) (h1 : h2.1 188 1 = h.1 188 1) (h3 : ¬ P 189) : TM h2 T := by
  unfold TM
  rw [h1, fr_at f h3]
  exact a
theorem gAt_b (u : gUn) (i : Nat) : 50 ≤ gAt u i ∧ gAt u i ≤ 125 := by
  have := Nat.mod_lt (u.2.1 + 16 - u.1 + i) (show 16 > 0 by omega)
  unfold gAt
  omega
theorem UC_fr (a : UC h u) (f : fr P h h2) (hP : ∀ c, 48 ≤ c → c ≤ 129 → ¬ P c) : UC h2 u := by
  obtain ⟨a1, a2, a3⟩ := a
  refine ⟨by rw [fr_at f (hP 48 (by omega) (by omega))]; exact a1, by rw [fr_at f (hP 48 (by omega) (by omega))]; exact a2, fun i hi => ?_⟩
  have := gAt_b u i
  exact SH_fr (a3 i hi) f (fun c _ _ => hP c (by omega) (by omega))
theorem UM_fr (a : UM h u) (f : fr P h h2) (h1 : h2.1 188 54 = h.1 188 54) (h3 : ¬ P 229) : UM h2 u := by
  obtain ⟨a1, a3⟩ := a
  exact ⟨by rw [h1]; exact a1, fun i hi => MS_fr (a3 i hi) f h3⟩
theorem BC_fr (a : BC h M) (f : fr P h h2) (hP : ∀ c, 136 ≤ c → c ≤ 187 → ¬ P c) : BC h2 M := by
  intro i hi
  obtain ⟨a1, a2⟩ := a i hi
  refine ⟨by rw [fr_at f (hP _ (by omega) (by omega))]; exact a1, fun s y n hm => ?_⟩
  obtain ⟨b1, b2, b3⟩ := a2 s y n hm
  exact ⟨SH_fr b1 f (fun c _ _ => hP c (by omega) (by omega)), YC_fr b2 f (hP _ (by omega) (by omega)) (hP _ (by omega) (by omega)), NC_fr b3 f (fun c _ _ => hP c (by omega) (by omega))⟩
theorem BM_fr (a : BM h M) (f : fr P h h2) (hP : ∀ c, 215 ≤ c → c ≤ 230 → (225 ≤ c → c = 228 ∨ c = 230) → ¬ P c) : BM h2 M := by
  intro i hi
  obtain ⟨a1, a2⟩ := a i hi
  refine ⟨by rw [fr_at f (hP 230 (by omega) (by omega) (by omega))]; exact a1, fun s y n hm => ?_⟩
  obtain ⟨b1, b2, b3⟩ := a2 s y n hm
  exact ⟨MS_fr b1 f (hP 228 (by omega) (by omega) (by omega)), YM_fr b2 f (fun c _ _ => hP c (by omega) (by omega) (by omega)), NM_fr b3 f (fun c _ _ => hP c (by omega) (by omega) (by omega))⟩
/-- this side rests when only its own scratch, or the other side, changes -/
theorem CI_fr (a : CI h L S u M Y N T) (f : fr P h h2) (hP : ∀ c, c < 188 → ¬ cs c → ¬ P c) : CI h2 L S u M Y N T := by
  obtain ⟨a1, a2, a3, a4, a5, a6, a7⟩ := a
  have q : ∀ c, c < 188 → ¬ (c = 15 ∨ (16 ≤ c ∧ c ≤ 28) ∨ (34 ≤ c ∧ c ≤ 38) ∨ c = 41 ∨ c = 42 ∨ (130 ≤ c ∧ c ≤ 134)) → ¬ P c := hP
  exact ⟨CL_fr a1 f (fun c _ _ => q c (by omega) (by omega)), SH_fr a2 f (fun c _ _ => q c (by omega) (by omega)), UC_fr a3 f (fun c _ _ => q c (by omega) (by omega)), BC_fr a4 f (fun c _ _ => q c (by omega) (by omega)), YC_fr a5 f (q _ (by omega) (by omega)) (q _ (by omega) (by omega)), NC_fr a6 f (fun c _ _ => q c (by omega) (by omega)), TC_fr a7 f (q _ (by omega) (by omega)) (q _ (by omega) (by omega))⟩
theorem CI_cs (a : CI h L S u M Y N T) (f : fr cs h h2) : CI h2 L S u M Y N T := CI_fr a f (fun _ _ q => q)
theorem CI_ref (a : CI h L S u M Y N T) (f : fr ref h h2) : CI h2 L S u M Y N T := CI_fr a f (fun c h1 _ h2 => by unfold ref at h2; omega)
theorem MI_fr {S2 : gSh} (a : MI h L S u M Y N T) (f : fr P h h2) (hP : ∀ c, 188 ≤ c → ¬ rs c → ¬ P c) (h1 : h2.1 188 1 = h.1 188 1) (h54 : h2.1 188 54 = h.1 188 54) (hs : MS h2 225 0 S2) : MI h2 L S2 u M Y N T := by
  obtain ⟨a1, a2, a3, a4, a5, a6, a7⟩ := a
  have q : ∀ c, 188 ≤ c → ¬ (c = 188 ∨ (203 ≤ c ∧ c ≤ 214) ∨ (225 ≤ c ∧ c ≤ 227) ∨ (231 ≤ c ∧ c ≤ 233)) → ¬ P c := hP
  exact ⟨ML_fr a1 f (fun c _ _ => q c (by omega) (by omega)), hs, UM_fr a3 f h54 (q _ (by omega) (by omega)), BM_fr a4 f (fun c _ _ _ => q c (by omega) (by omega)), YM_fr a5 f (fun c _ _ => q c (by omega) (by omega)), NM_fr a6 f (fun c _ _ => q c (by omega) (by omega)), TM_fr a7 f h1 (q _ (by omega) (by omega))⟩
theorem MI_cls (a : MI h L S u M Y N T) (f : fr cls h h2) : MI h2 L S u M Y N T := by
  have e : h2.1 188 = h.1 188 := fr_at f (by unfold cls; omega)
  exact MI_fr a f (fun c h1 _ h2 => by unfold cls at h2; omega) (by rw [e]) (by rw [e]) (MS_fr a.2.1 f (by unfold cls; omega))
theorem W_CX (W : WI k L S u M Y N T) (C : CI h L S u M Y N T) : CX h L 29 S := ⟨W.1, C.1, W.2.1, C.2.1, by omega⟩
theorem W_MX (W : WI k L S u M Y N T) (R : MI h L S u M Y N T) : MX h L S := ⟨W.1, R.1, W.2.1, R.2.1⟩
/-- thrown = 0 -/
theorem MI_0 (R : MI h L S u M Y N T) (x : Int32) : MI (wuI h 188 0 x) L S u M Y N T := MI_fr (P := fun c => c = 188) R (fr_wuI rfl) (fun c _ h1 h2 => h1 (Or.inl h2)) (wui (by omega)) (wui (by omega)) (MS_fr R.2.1 (fr_wuI (P := fun c => c = 188) rfl) (by omega))
/-- a question: this side traces nothing, nor the other -/
theorem Inv_q {h1 : wSt} (W : WI k L S u M Y N T) (C : CI h L S u M Y N T) (R : MI h L S u M Y N T) (f1 : fr cs h h1) (f2 : fr rs (wuI h1 188 0 (nI 0)) h2) (e1 : h2.1 188 1 = h1.1 188 1) (e2 : h2.1 188 54 = h1.1 188 54) (hs : MS h2 225 0 S) : Inv k h2 := by
  have R1 := MI_cls R (fr_mono f1 (fun c => cs_cls))
  have f0 : fr rs h1 (wuI h1 188 0 (nI 0)) := fr_wuI (Or.inl rfl)
  have f3 := fr_tr f0 f2
  refine ⟨L, S, u, M, Y, N, T, W, CI_ref (CI_cs C f1) (fr_mono f3 (fun c => rs_ref)), MI_fr R1 f3 (fun c _ q => q) e1 e2 hs⟩
theorem Inv_q0 {h1 : wSt} (W : WI k L S u M Y N T) (C : CI h L S u M Y N T) (R : MI h L S u M Y N T) (f1 : fr cs h h1) : Inv k (wuI h1 188 0 (nI 0)) :=
  Inv_q W C R f1 fr_rf (wui (by omega)) (wui (by omega)) (MS_fr (MI_cls R (fr_mono f1 (fun c => cs_cls))).2.1 (fr_wuI (P := fun c => c = 188) rfl) (by omega))
theorem Inv_qs {h1 : wSt} (W : WI k L S u M Y N T) (C : CI h L S u M Y N T) (R : MI h L S u M Y N T) (f1 : fr cs h h1) (f2 : fr sr (wuI h1 188 0 (nI 0)) h2) : Inv k h2 := by
  have e : h2.1 188 = (wuI h1 188 0 (nI 0)).1 188 := fr_at f2 (by unfold sr; omega)
  refine Inv_q W C R f1 (fr_mono f2 (fun c => sr_rs)) (by rw [e]; exact wui (by omega)) (by rw [e]; exact wui (by omega)) (MS_fr (MI_0 (MI_cls R (fr_mono f1 (fun c => cs_cls))) (nI 0)).2.1 f2 (by unfold sr; omega))
/-- the other side's room for a trial -/
def rt (c : Nat) : Prop := (203 ≤ c ∧ c ≤ 214) ∨ (225 ≤ c ∧ c ≤ 227) ∨ (231 ≤ c ∧ c ≤ 233)
theorem Inv_qr {h1 : wSt} (W : WI k L S u M Y N T) (C : CI h L S u M Y N T) (R : MI h L S u M Y N T) (f1 : fr cs h h1) (f2 : fr rt (wuI h1 188 0 (nI 0)) h2) (hs : MS h2 225 0 S) : Inv k h2 := by
  have e : h2.1 188 = (wuI h1 188 0 (nI 0)).1 188 := fr_at f2 (by unfold rt; omega)
  exact Inv_q W C R f1 (fr_mono f2 (fun c q => Or.inr q)) (by rw [e]; exact wui (by omega)) (by rw [e]; exact wui (by omega)) hs
end G38
/-! arguments -/
def gIx (n : Nat) (x : Int32) : Option Nat := if x < 0 then none else if x.toNatClampNeg < n then some x.toNatClampNeg else none
theorem gIx_some {n i : Nat} {x : Int32} (h : gIx n x = some i) : x = nI i ∧ i < n := by
  unfold gIx at h
  by_cases h0 : x < 0
  · rw [if_pos h0] at h; cases h
  · rw [if_neg h0] at h
    obtain ⟨j, hj, rfl⟩ := nI_of h0
    rw [clamp (by omega)] at h
    by_cases h1 : j < n
    · rw [if_pos h1] at h
      cases h
      exact ⟨rfl, h1⟩
    · rw [if_neg h1] at h; cases h
theorem gIx_at {n i : Nat} (h : i < n) (hi : i < 2147483648) : gIx n (nI i) = some i := by
  unfold gIx
  rw [if_neg (nI_pos (by omega)), clamp hi, if_pos h]
theorem gIx_none {n : Nat} {x : Int32} (h : gIx n x = none) : x < 0 ∨ ∃ j, n ≤ j ∧ j < 2147483648 ∧ x = nI j := by
  unfold gIx at h
  by_cases h0 : x < 0
  · exact Or.inl h0
  · rw [if_neg h0] at h
    obtain ⟨j, hj, rfl⟩ := nI_of h0
    rw [clamp (by omega)] at h
    by_cases h1 : j < n
    · rw [if_pos h1] at h; cases h
    · exact Or.inr ⟨j, by omega, by omega, rfl⟩
theorem gIx_ne {n i : Nat} {x : Int32} (h : gIx n x = none) (hi : i < n) (hn : i < 2147483648) : (x = nI i) = False := eq_false (fun e => by
  rw [e, gIx_at hi hn] at h
  cases h)
def gRg (a b : Nat) (x : Int32) : Option Nat := (gIx (b + 1) x).bind (fun i => if a ≤ i then some i else none)
theorem gRg_0 (b : Nat) (x : Int32) : gRg 0 b x = gIx (b + 1) x := by
  unfold gRg
  cases gIx (b + 1) x with
  | none => rfl
  | some i => rw [Option.bind_some, if_pos (Nat.zero_le _)]
theorem gRg_some {a b i : Nat} {x : Int32} (h : gRg a b x = some i) : x = nI i ∧ a ≤ i ∧ i ≤ b := by
  unfold gRg at h
  cases e : gIx (b + 1) x with
  | none => rw [e] at h; cases h
  | some j =>
    rw [e] at h
    have h : (if a ≤ j then some j else none) = some i := h
    obtain ⟨e1, e2⟩ := gIx_some e
    by_cases q : a ≤ j
    · rw [if_pos q] at h
      cases h
      exact ⟨e1, q, by omega⟩
    · rw [if_neg q] at h; cases h
theorem neg_lt {x : Int32} {n : Nat} (h : x < 0) (hn : n < 2147483648) : (x < nI n) = True := eq_true (by
  rw [Int32.lt_iff_toInt_lt] at h ⊢
  rw [nI_toInt (by omega)]
  have : (0 : Int32).toInt = 0 := by decide
  omega)
theorem gRg_none {a b : Nat} {x : Int32} (h : gRg a b x = none) (ha : a < 1000000) (hb : b < 1000000) : (x < nI a) = True ∨ ((x < nI a) = False ∧ (nI b < x) = True ∧ (x ≤ nI b) = False) := by
  unfold gRg at h
  cases e : gIx (b + 1) x with
  | none =>
    rcases gIx_none e with q | ⟨j, q1, q2, rfl⟩
    · exact Or.inl (neg_lt q (by omega))
    · by_cases q3 : j < a
      · exact Or.inl (lt_t q3 (by omega))
      · exact Or.inr ⟨lt_f (by omega) (by omega), lt_t (by omega) (by omega), le_f (by omega) (by omega)⟩
  | some j =>
    rw [e] at h
    have h : (if a ≤ j then some j else none) = none := h
    obtain ⟨rfl, e2⟩ := gIx_some e
    by_cases q : a ≤ j
    · rw [if_pos q] at h; cases h
    · exact Or.inl (lt_t (by omega) (by omega))
theorem r_within (h : wSt) (x : Int32) {a b : Nat} (ha : a < 1000000) (hb : b < 1000000) : fX11_within h x (nI a) (nI b) = some (gRg a b x).isSome := by
  cases e : gRg a b x with
  | none =>
    rcases gRg_none e ha hb with q | ⟨q1, q2, -⟩
    · simp (disch := omega) only [↓reduceIte, wlet, Option.bind_some, true_and, and_true, not_true_eq_false, not_false_eq_true, reduceCtorEq, n0_, n1_, n2_, n3_, n4_, n5_, n6_, n7_, n8_, n9_, n10_, n12_, n16_, n18_, n20_, n21_, n22_, n24_, n25_, n26_, n27_, n28_, n29_, n30_, n31_, n32_, n40_, n41_, n42_, n43_, n45_, n48_, n54_, n57_, n58_, n59_, n60_, n61_, n63_, n96_, n97_, n99_, n100_, n122_, n126_, n200_, n255_, n375_, n400_, n1000_, n2000_, n9999_, n5764801_, n1000000_, n3000_, m1, m2, le_t, le_f, lt_t, lt_f, eq_t, eq_f, no_lt, no_le, le_no, lt_no, eq_no, no_eq, add_no, wib_t, clamp, nI_add, pk_mul, pk_sub, nor_, nand_, ndif_, shl_, sh1_, shr_, tbn, tb0, tb1, les_t, les_f, pk_div, rem_, remv, and31, wu1, wuc, wui, wu2, ws1, wsc, ws2, wv1, n11_, n13_, n14_, n15_, n17_, n19_, n23_, n56_, n64_, fX11_within, q, Option.isSome_none]
    · simp (disch := omega) only [↓reduceIte, wlet, Option.bind_some, true_and, and_true, not_true_eq_false, not_false_eq_true, reduceCtorEq, n0_, n1_, n2_, n3_, n4_, n5_, n6_, n7_, n8_, n9_, n10_, n12_, n16_, n18_, n20_, n21_, n22_, n24_, n25_, n26_, n27_, n28_, n29_, n30_, n31_, n32_, n40_, n41_, n42_, n43_, n45_, n48_, n54_, n57_, n58_, n59_, n60_, n61_, n63_, n96_, n97_, n99_, n100_, n122_, n126_, n200_, n255_, n375_, n400_, n1000_, n2000_, n9999_, n5764801_, n1000000_, n3000_, m1, m2, le_t, le_f, lt_t, lt_f, eq_t, eq_f, no_lt, no_le, le_no, lt_no, eq_no, no_eq, add_no, wib_t, clamp, nI_add, pk_mul, pk_sub, nor_, nand_, ndif_, shl_, sh1_, shr_, tbn, tb0, tb1, les_t, les_f, pk_div, rem_, remv, and31, wu1, wuc, wui, wu2, ws1, wsc, ws2, wv1, n11_, n13_, n14_, n15_, n17_, n19_, n23_, n56_, n64_, fX11_within, q1, q2, Option.isSome_none]
  | some j =>
    obtain ⟨rfl, q1, q2⟩ := gRg_some e
    simp (disch := omega) only [↓reduceIte, wlet, Option.bind_some, true_and, and_true, not_true_eq_false, not_false_eq_true, reduceCtorEq, n0_, n1_, n2_, n3_, n4_, n5_, n6_, n7_, n8_, n9_, n10_, n12_, n16_, n18_, n20_, n21_, n22_, n24_, n25_, n26_, n27_, n28_, n29_, n30_, n31_, n32_, n40_, n41_, n42_, n43_, n45_, n48_, n54_, n57_, n58_, n59_, n60_, n61_, n63_, n96_, n97_, n99_, n100_, n122_, n126_, n200_, n255_, n375_, n400_, n1000_, n2000_, n9999_, n5764801_, n1000000_, n3000_, m1, m2, le_t, le_f, lt_t, lt_f, eq_t, eq_f, no_lt, no_le, le_no, lt_no, eq_no, no_eq, add_no, wib_t, clamp, nI_add, pk_mul, pk_sub, nor_, nand_, ndif_, shl_, sh1_, shr_, tbn, tb0, tb1, les_t, les_f, pk_div, rem_, remv, and31, wu1, wuc, wui, wu2, ws1, wsc, ws2, wv1, n11_, n13_, n14_, n15_, n17_, n19_, n23_, n56_, n64_, fX11_within, Option.isSome_some]
theorem gIx_cut {n : Nat} {x : Int32} (h : gIx n x = none) (hn : n < 1000) : (x < nI 0) = True ∨ ((x < nI 0) = False ∧ (nI n ≤ x) = True ∧ (x < nI n) = False) := by
  rcases gIx_none h with q | ⟨j, q1, q2, rfl⟩
  · exact Or.inl (neg_lt q (by omega))
  · exact Or.inr ⟨lt_f (by omega) (by omega), le_t (by omega) (by omega), lt_f (by omega) (by omega)⟩
section G38b
variable {h : wSt} {L : gLib}
theorem c_hasSkin (hW : WL L) (hC : CL h L) (x : Int32) : fX4_hasSkin h 3 x = some (gIx (gns L) x).isSome := by
  have n1 := hW.1
  have c1 := hC.1
  cases e : gIx (gns L) x with
  | none =>
    rcases gIx_cut e (by omega) with q | ⟨q1, q2, -⟩
    · simp (disch := omega) only [↓reduceIte, wlet, Option.bind_some, true_and, and_true, not_true_eq_false, not_false_eq_true, reduceCtorEq, n0_, n1_, n2_, n3_, n4_, n5_, n6_, n7_, n8_, n9_, n10_, n12_, n16_, n18_, n20_, n21_, n22_, n24_, n25_, n26_, n27_, n28_, n29_, n30_, n31_, n32_, n40_, n41_, n42_, n43_, n45_, n48_, n54_, n57_, n58_, n59_, n60_, n61_, n63_, n96_, n97_, n99_, n100_, n122_, n126_, n200_, n255_, n375_, n400_, n1000_, n2000_, n9999_, n5764801_, n1000000_, n3000_, m1, m2, le_t, le_f, lt_t, lt_f, eq_t, eq_f, no_lt, no_le, le_no, lt_no, eq_no, no_eq, add_no, wib_t, clamp, nI_add, pk_mul, pk_sub, nor_, nand_, ndif_, shl_, sh1_, shr_, tbn, tb0, tb1, les_t, les_f, pk_div, rem_, remv, and31, wu1, wuc, wui, wu2, ws1, wsc, ws2, wv1, n11_, n13_, n14_, n15_, n17_, n19_, n23_, n56_, n64_, fX4_hasSkin, q, Option.isSome_none]
    · simp (disch := omega) only [↓reduceIte, wlet, Option.bind_some, true_and, and_true, not_true_eq_false, not_false_eq_true, reduceCtorEq, n0_, n1_, n2_, n3_, n4_, n5_, n6_, n7_, n8_, n9_, n10_, n12_, n16_, n18_, n20_, n21_, n22_, n24_, n25_, n26_, n27_, n28_, n29_, n30_, n31_, n32_, n40_, n41_, n42_, n43_, n45_, n48_, n54_, n57_, n58_, n59_, n60_, n61_, n63_, n96_, n97_, n99_, n100_, n122_, n126_, n200_, n255_, n375_, n400_, n1000_, n2000_, n9999_, n5764801_, n1000000_, n3000_, m1, m2, le_t, le_f, lt_t, lt_f, eq_t, eq_f, no_lt, no_le, le_no, lt_no, eq_no, no_eq, add_no, wib_t, clamp, nI_add, pk_mul, pk_sub, nor_, nand_, ndif_, shl_, sh1_, shr_, tbn, tb0, tb1, les_t, les_f, pk_div, rem_, remv, and31, wu1, wuc, wui, wu2, ws1, wsc, ws2, wv1, n11_, n13_, n14_, n15_, n17_, n19_, n23_, n56_, n64_, fX4_hasSkin, c1, q1, q2, Option.isSome_none]
  | some i =>
    obtain ⟨rfl, e2⟩ := gIx_some e
    simp (disch := omega) only [↓reduceIte, wlet, Option.bind_some, true_and, and_true, not_true_eq_false, not_false_eq_true, reduceCtorEq, n0_, n1_, n2_, n3_, n4_, n5_, n6_, n7_, n8_, n9_, n10_, n12_, n16_, n18_, n20_, n21_, n22_, n24_, n25_, n26_, n27_, n28_, n29_, n30_, n31_, n32_, n40_, n41_, n42_, n43_, n45_, n48_, n54_, n57_, n58_, n59_, n60_, n61_, n63_, n96_, n97_, n99_, n100_, n122_, n126_, n200_, n255_, n375_, n400_, n1000_, n2000_, n9999_, n5764801_, n1000000_, n3000_, m1, m2, le_t, le_f, lt_t, lt_f, eq_t, eq_f, no_lt, no_le, le_no, lt_no, eq_no, no_eq, add_no, wib_t, clamp, nI_add, pk_mul, pk_sub, nor_, nand_, ndif_, shl_, sh1_, shr_, tbn, tb0, tb1, les_t, les_f, pk_div, rem_, remv, and31, wu1, wuc, wui, wu2, ws1, wsc, ws2, wv1, n11_, n13_, n14_, n15_, n17_, n19_, n23_, n56_, n64_, fX4_hasSkin, c1, Option.isSome_some]
theorem c_hasText (hW : WL L) (hC : CL h L) (x : Int32) : fX4_hasText h 3 x = some (gIx (gnt L) x).isSome := by
  have n1 := hW.2.1
  have c1 := hC.2.1
  cases e : gIx (gnt L) x with
  | none =>
    rcases gIx_cut e (by omega) with q | ⟨q1, q2, -⟩
    · simp (disch := omega) only [↓reduceIte, wlet, Option.bind_some, true_and, and_true, not_true_eq_false, not_false_eq_true, reduceCtorEq, n0_, n1_, n2_, n3_, n4_, n5_, n6_, n7_, n8_, n9_, n10_, n12_, n16_, n18_, n20_, n21_, n22_, n24_, n25_, n26_, n27_, n28_, n29_, n30_, n31_, n32_, n40_, n41_, n42_, n43_, n45_, n48_, n54_, n57_, n58_, n59_, n60_, n61_, n63_, n96_, n97_, n99_, n100_, n122_, n126_, n200_, n255_, n375_, n400_, n1000_, n2000_, n9999_, n5764801_, n1000000_, n3000_, m1, m2, le_t, le_f, lt_t, lt_f, eq_t, eq_f, no_lt, no_le, le_no, lt_no, eq_no, no_eq, add_no, wib_t, clamp, nI_add, pk_mul, pk_sub, nor_, nand_, ndif_, shl_, sh1_, shr_, tbn, tb0, tb1, les_t, les_f, pk_div, rem_, remv, and31, wu1, wuc, wui, wu2, ws1, wsc, ws2, wv1, n11_, n13_, n14_, n15_, n17_, n19_, n23_, n56_, n64_, fX4_hasText, q, Option.isSome_none]
    · simp (disch := omega) only [↓reduceIte, wlet, Option.bind_some, true_and, and_true, not_true_eq_false, not_false_eq_true, reduceCtorEq, n0_, n1_, n2_, n3_, n4_, n5_, n6_, n7_, n8_, n9_, n10_, n12_, n16_, n18_, n20_, n21_, n22_, n24_, n25_, n26_, n27_, n28_, n29_, n30_, n31_, n32_, n40_, n41_, n42_, n43_, n45_, n48_, n54_, n57_, n58_, n59_, n60_, n61_, n63_, n96_, n97_, n99_, n100_, n122_, n126_, n200_, n255_, n375_, n400_, n1000_, n2000_, n9999_, n5764801_, n1000000_, n3000_, m1, m2, le_t, le_f, lt_t, lt_f, eq_t, eq_f, no_lt, no_le, le_no, lt_no, eq_no, no_eq, add_no, wib_t, clamp, nI_add, pk_mul, pk_sub, nor_, nand_, ndif_, shl_, sh1_, shr_, tbn, tb0, tb1, les_t, les_f, pk_div, rem_, remv, and31, wu1, wuc, wui, wu2, ws1, wsc, ws2, wv1, n11_, n13_, n14_, n15_, n17_, n19_, n23_, n56_, n64_, fX4_hasText, c1, q1, q2, Option.isSome_none]
  | some i =>
    obtain ⟨rfl, e2⟩ := gIx_some e
    simp (disch := omega) only [↓reduceIte, wlet, Option.bind_some, true_and, and_true, not_true_eq_false, not_false_eq_true, reduceCtorEq, n0_, n1_, n2_, n3_, n4_, n5_, n6_, n7_, n8_, n9_, n10_, n12_, n16_, n18_, n20_, n21_, n22_, n24_, n25_, n26_, n27_, n28_, n29_, n30_, n31_, n32_, n40_, n41_, n42_, n43_, n45_, n48_, n54_, n57_, n58_, n59_, n60_, n61_, n63_, n96_, n97_, n99_, n100_, n122_, n126_, n200_, n255_, n375_, n400_, n1000_, n2000_, n9999_, n5764801_, n1000000_, n3000_, m1, m2, le_t, le_f, lt_t, lt_f, eq_t, eq_f, no_lt, no_le, le_no, lt_no, eq_no, no_eq, add_no, wib_t, clamp, nI_add, pk_mul, pk_sub, nor_, nand_, ndif_, shl_, sh1_, shr_, tbn, tb0, tb1, les_t, les_f, pk_div, rem_, remv, and31, wu1, wuc, wui, wu2, ws1, wsc, ws2, wv1, n11_, n13_, n14_, n15_, n17_, n19_, n23_, n56_, n64_, fX4_hasText, c1, Option.isSome_some]
theorem r_isSkin (hW : WL L) (hC : ML h L) (x : Int32) : fX11_isSkin h x = some (gIx (gns L) x).isSome := by
  have n1 := hW.1
  have c1 := hC.1
  cases e : gIx (gns L) x with
  | none =>
    rcases gIx_cut e (by omega) with q | ⟨q1, q2, -⟩
    · simp (disch := omega) only [↓reduceIte, wlet, Option.bind_some, true_and, and_true, not_true_eq_false, not_false_eq_true, reduceCtorEq, n0_, n1_, n2_, n3_, n4_, n5_, n6_, n7_, n8_, n9_, n10_, n12_, n16_, n18_, n20_, n21_, n22_, n24_, n25_, n26_, n27_, n28_, n29_, n30_, n31_, n32_, n40_, n41_, n42_, n43_, n45_, n48_, n54_, n57_, n58_, n59_, n60_, n61_, n63_, n96_, n97_, n99_, n100_, n122_, n126_, n200_, n255_, n375_, n400_, n1000_, n2000_, n9999_, n5764801_, n1000000_, n3000_, m1, m2, le_t, le_f, lt_t, lt_f, eq_t, eq_f, no_lt, no_le, le_no, lt_no, eq_no, no_eq, add_no, wib_t, clamp, nI_add, pk_mul, pk_sub, nor_, nand_, ndif_, shl_, sh1_, shr_, tbn, tb0, tb1, les_t, les_f, pk_div, rem_, remv, and31, wu1, wuc, wui, wu2, ws1, wsc, ws2, wv1, n11_, n13_, n14_, n15_, n17_, n19_, n23_, n56_, n64_, fX11_isSkin, q, Option.isSome_none]
    · simp (disch := omega) only [↓reduceIte, wlet, Option.bind_some, true_and, and_true, not_true_eq_false, not_false_eq_true, reduceCtorEq, n0_, n1_, n2_, n3_, n4_, n5_, n6_, n7_, n8_, n9_, n10_, n12_, n16_, n18_, n20_, n21_, n22_, n24_, n25_, n26_, n27_, n28_, n29_, n30_, n31_, n32_, n40_, n41_, n42_, n43_, n45_, n48_, n54_, n57_, n58_, n59_, n60_, n61_, n63_, n96_, n97_, n99_, n100_, n122_, n126_, n200_, n255_, n375_, n400_, n1000_, n2000_, n9999_, n5764801_, n1000000_, n3000_, m1, m2, le_t, le_f, lt_t, lt_f, eq_t, eq_f, no_lt, no_le, le_no, lt_no, eq_no, no_eq, add_no, wib_t, clamp, nI_add, pk_mul, pk_sub, nor_, nand_, ndif_, shl_, sh1_, shr_, tbn, tb0, tb1, les_t, les_f, pk_div, rem_, remv, and31, wu1, wuc, wui, wu2, ws1, wsc, ws2, wv1, n11_, n13_, n14_, n15_, n17_, n19_, n23_, n56_, n64_, fX11_isSkin, c1, q1, q2, Option.isSome_none]
  | some i =>
    obtain ⟨rfl, e2⟩ := gIx_some e
    simp (disch := omega) only [↓reduceIte, wlet, Option.bind_some, true_and, and_true, not_true_eq_false, not_false_eq_true, reduceCtorEq, n0_, n1_, n2_, n3_, n4_, n5_, n6_, n7_, n8_, n9_, n10_, n12_, n16_, n18_, n20_, n21_, n22_, n24_, n25_, n26_, n27_, n28_, n29_, n30_, n31_, n32_, n40_, n41_, n42_, n43_, n45_, n48_, n54_, n57_, n58_, n59_, n60_, n61_, n63_, n96_, n97_, n99_, n100_, n122_, n126_, n200_, n255_, n375_, n400_, n1000_, n2000_, n9999_, n5764801_, n1000000_, n3000_, m1, m2, le_t, le_f, lt_t, lt_f, eq_t, eq_f, no_lt, no_le, le_no, lt_no, eq_no, no_eq, add_no, wib_t, clamp, nI_add, pk_mul, pk_sub, nor_, nand_, ndif_, shl_, sh1_, shr_, tbn, tb0, tb1, les_t, les_f, pk_div, rem_, remv, and31, wu1, wuc, wui, wu2, ws1, wsc, ws2, wv1, n11_, n13_, n14_, n15_, n17_, n19_, n23_, n56_, n64_, fX11_isSkin, c1, Option.isSome_some]
theorem r_isText (hW : WL L) (hC : ML h L) (x : Int32) : fX11_isText h x = some (gIx (gnt L) x).isSome := by
  have n1 := hW.2.1
  have c1 := hC.2.1
  cases e : gIx (gnt L) x with
  | none =>
    rcases gIx_cut e (by omega) with q | ⟨q1, q2, -⟩
    · simp (disch := omega) only [↓reduceIte, wlet, Option.bind_some, true_and, and_true, not_true_eq_false, not_false_eq_true, reduceCtorEq, n0_, n1_, n2_, n3_, n4_, n5_, n6_, n7_, n8_, n9_, n10_, n12_, n16_, n18_, n20_, n21_, n22_, n24_, n25_, n26_, n27_, n28_, n29_, n30_, n31_, n32_, n40_, n41_, n42_, n43_, n45_, n48_, n54_, n57_, n58_, n59_, n60_, n61_, n63_, n96_, n97_, n99_, n100_, n122_, n126_, n200_, n255_, n375_, n400_, n1000_, n2000_, n9999_, n5764801_, n1000000_, n3000_, m1, m2, le_t, le_f, lt_t, lt_f, eq_t, eq_f, no_lt, no_le, le_no, lt_no, eq_no, no_eq, add_no, wib_t, clamp, nI_add, pk_mul, pk_sub, nor_, nand_, ndif_, shl_, sh1_, shr_, tbn, tb0, tb1, les_t, les_f, pk_div, rem_, remv, and31, wu1, wuc, wui, wu2, ws1, wsc, ws2, wv1, n11_, n13_, n14_, n15_, n17_, n19_, n23_, n56_, n64_, fX11_isText, q, Option.isSome_none]
    · simp (disch := omega) only [↓reduceIte, wlet, Option.bind_some, true_and, and_true, not_true_eq_false, not_false_eq_true, reduceCtorEq, n0_, n1_, n2_, n3_, n4_, n5_, n6_, n7_, n8_, n9_, n10_, n12_, n16_, n18_, n20_, n21_, n22_, n24_, n25_, n26_, n27_, n28_, n29_, n30_, n31_, n32_, n40_, n41_, n42_, n43_, n45_, n48_, n54_, n57_, n58_, n59_, n60_, n61_, n63_, n96_, n97_, n99_, n100_, n122_, n126_, n200_, n255_, n375_, n400_, n1000_, n2000_, n9999_, n5764801_, n1000000_, n3000_, m1, m2, le_t, le_f, lt_t, lt_f, eq_t, eq_f, no_lt, no_le, le_no, lt_no, eq_no, no_eq, add_no, wib_t, clamp, nI_add, pk_mul, pk_sub, nor_, nand_, ndif_, shl_, sh1_, shr_, tbn, tb0, tb1, les_t, les_f, pk_div, rem_, remv, and31, wu1, wuc, wui, wu2, ws1, wsc, ws2, wv1, n11_, n13_, n14_, n15_, n17_, n19_, n23_, n56_, n64_, fX11_isText, c1, q1, q2, Option.isSome_none]
  | some i =>
    obtain ⟨rfl, e2⟩ := gIx_some e
    simp (disch := omega) only [↓reduceIte, wlet, Option.bind_some, true_and, and_true, not_true_eq_false, not_false_eq_true, reduceCtorEq, n0_, n1_, n2_, n3_, n4_, n5_, n6_, n7_, n8_, n9_, n10_, n12_, n16_, n18_, n20_, n21_, n22_, n24_, n25_, n26_, n27_, n28_, n29_, n30_, n31_, n32_, n40_, n41_, n42_, n43_, n45_, n48_, n54_, n57_, n58_, n59_, n60_, n61_, n63_, n96_, n97_, n99_, n100_, n122_, n126_, n200_, n255_, n375_, n400_, n1000_, n2000_, n9999_, n5764801_, n1000000_, n3000_, m1, m2, le_t, le_f, lt_t, lt_f, eq_t, eq_f, no_lt, no_le, le_no, lt_no, eq_no, no_eq, add_no, wib_t, clamp, nI_add, pk_mul, pk_sub, nor_, nand_, ndif_, shl_, sh1_, shr_, tbn, tb0, tb1, les_t, les_f, pk_div, rem_, remv, and31, wu1, wuc, wui, wu2, ws1, wsc, ws2, wv1, n11_, n13_, n14_, n15_, n17_, n19_, n23_, n56_, n64_, fX11_isText, c1, Option.isSome_some]
/-- a skin and a line of it -/
def gLn (L : gLib) (x y : Int32) : Option (Nat × Nat) := (gIx (gns L) x).bind (fun i => (gIx (gln L i) y).bind (fun j => some (i, j)))
theorem gLn_some {x y : Int32} {p : Nat × Nat} (h : gLn L x y = some p) : x = nI p.1 ∧ y = nI p.2 ∧ p.1 < gns L ∧ p.2 < gln L p.1 := by
  unfold gLn at h
  cases e : gIx (gns L) x with
  | none => rw [e] at h; cases h
  | some i =>
    rw [e, Option.bind_some] at h
    cases e2 : gIx (gln L i) y with
    | none => rw [e2] at h; cases h
    | some j =>
      rw [e2] at h
      cases h
      obtain ⟨a1, a2⟩ := gIx_some e
      obtain ⟨b1, b2⟩ := gIx_some e2
      exact ⟨a1, b1, a2, b2⟩
theorem c_hasLine (hW : WL L) (hC : CL h L) (x y : Int32) : fX4_hasLine h 3 x y = some (gLn L x y).isSome := by
  have n1 := hW.1
  have c1 := c_hasSkin hW hC x
  unfold gLn
  cases e : gIx (gns L) x with
  | none =>
    rw [e] at c1
    simp (disch := omega) only [↓reduceIte, wlet, Option.bind_some, true_and, and_true, not_true_eq_false, not_false_eq_true, reduceCtorEq, n0_, n1_, n2_, n3_, n4_, n5_, n6_, n7_, n8_, n9_, n10_, n12_, n16_, n18_, n20_, n21_, n22_, n24_, n25_, n26_, n27_, n28_, n29_, n30_, n31_, n32_, n40_, n41_, n42_, n43_, n45_, n48_, n54_, n57_, n58_, n59_, n60_, n61_, n63_, n96_, n97_, n99_, n100_, n122_, n126_, n200_, n255_, n375_, n400_, n1000_, n2000_, n9999_, n5764801_, n1000000_, n3000_, m1, m2, le_t, le_f, lt_t, lt_f, eq_t, eq_f, no_lt, no_le, le_no, lt_no, eq_no, no_eq, add_no, wib_t, clamp, nI_add, pk_mul, pk_sub, nor_, nand_, ndif_, shl_, sh1_, shr_, tbn, tb0, tb1, les_t, les_f, pk_div, rem_, remv, and31, wu1, wuc, wui, wu2, ws1, wsc, ws2, wv1, n11_, n13_, n14_, n15_, n17_, n19_, n23_, n56_, n64_, fX4_hasLine, c1, Option.isSome_none, Option.bind_none, Bool.false_eq_true]
  | some i =>
    obtain ⟨rfl, e2⟩ := gIx_some e
    rw [e] at c1
    have l2 := (hW.2.2.2.1 i e2).2.1
    have c2 := (hC.2.2.2.1 i e2).1
    rw [Option.bind_some]
    cases e3 : gIx (gln L i) y with
    | none =>
      rcases gIx_cut e3 (by omega) with q | ⟨q1, q2, -⟩
      · simp (disch := omega) only [↓reduceIte, wlet, Option.bind_some, true_and, and_true, not_true_eq_false, not_false_eq_true, reduceCtorEq, n0_, n1_, n2_, n3_, n4_, n5_, n6_, n7_, n8_, n9_, n10_, n12_, n16_, n18_, n20_, n21_, n22_, n24_, n25_, n26_, n27_, n28_, n29_, n30_, n31_, n32_, n40_, n41_, n42_, n43_, n45_, n48_, n54_, n57_, n58_, n59_, n60_, n61_, n63_, n96_, n97_, n99_, n100_, n122_, n126_, n200_, n255_, n375_, n400_, n1000_, n2000_, n9999_, n5764801_, n1000000_, n3000_, m1, m2, le_t, le_f, lt_t, lt_f, eq_t, eq_f, no_lt, no_le, le_no, lt_no, eq_no, no_eq, add_no, wib_t, clamp, nI_add, pk_mul, pk_sub, nor_, nand_, ndif_, shl_, sh1_, shr_, tbn, tb0, tb1, les_t, les_f, pk_div, rem_, remv, and31, wu1, wuc, wui, wu2, ws1, wsc, ws2, wv1, n11_, n13_, n14_, n15_, n17_, n19_, n23_, n56_, n64_, fX4_hasLine, c1, q, Option.isSome_none, Option.isSome_some, Option.bind_none]
      · simp (disch := omega) only [↓reduceIte, wlet, Option.bind_some, true_and, and_true, not_true_eq_false, not_false_eq_true, reduceCtorEq, n0_, n1_, n2_, n3_, n4_, n5_, n6_, n7_, n8_, n9_, n10_, n12_, n16_, n18_, n20_, n21_, n22_, n24_, n25_, n26_, n27_, n28_, n29_, n30_, n31_, n32_, n40_, n41_, n42_, n43_, n45_, n48_, n54_, n57_, n58_, n59_, n60_, n61_, n63_, n96_, n97_, n99_, n100_, n122_, n126_, n200_, n255_, n375_, n400_, n1000_, n2000_, n9999_, n5764801_, n1000000_, n3000_, m1, m2, le_t, le_f, lt_t, lt_f, eq_t, eq_f, no_lt, no_le, le_no, lt_no, eq_no, no_eq, add_no, wib_t, clamp, nI_add, pk_mul, pk_sub, nor_, nand_, ndif_, shl_, sh1_, shr_, tbn, tb0, tb1, les_t, les_f, pk_div, rem_, remv, and31, wu1, wuc, wui, wu2, ws1, wsc, ws2, wv1, n11_, n13_, n14_, n15_, n17_, n19_, n23_, n56_, n64_, fX4_hasLine, c1, c2, q1, q2, Option.isSome_none, Option.isSome_some, Option.bind_none, Nat.reduceAdd]
    | some j =>
      obtain ⟨rfl, e4⟩ := gIx_some e3
      simp (disch := omega) only [↓reduceIte, wlet, Option.bind_some, true_and, and_true, not_true_eq_false, not_false_eq_true, reduceCtorEq, n0_, n1_, n2_, n3_, n4_, n5_, n6_, n7_, n8_, n9_, n10_, n12_, n16_, n18_, n20_, n21_, n22_, n24_, n25_, n26_, n27_, n28_, n29_, n30_, n31_, n32_, n40_, n41_, n42_, n43_, n45_, n48_, n54_, n57_, n58_, n59_, n60_, n61_, n63_, n96_, n97_, n99_, n100_, n122_, n126_, n200_, n255_, n375_, n400_, n1000_, n2000_, n9999_, n5764801_, n1000000_, n3000_, m1, m2, le_t, le_f, lt_t, lt_f, eq_t, eq_f, no_lt, no_le, le_no, lt_no, eq_no, no_eq, add_no, wib_t, clamp, nI_add, pk_mul, pk_sub, nor_, nand_, ndif_, shl_, sh1_, shr_, tbn, tb0, tb1, les_t, les_f, pk_div, rem_, remv, and31, wu1, wuc, wui, wu2, ws1, wsc, ws2, wv1, n11_, n13_, n14_, n15_, n17_, n19_, n23_, n56_, n64_, fX4_hasLine, c1, c2, Option.isSome_some, Nat.reduceAdd]
theorem r_isLine (hW : WL L) (hC : ML h L) (x y : Int32) : fX11_isLine h x y = some (gLn L x y).isSome := by
  have n1 := hW.1
  have c1 := r_isSkin hW hC x
  unfold gLn
  cases e : gIx (gns L) x with
  | none =>
    rw [e] at c1
    simp (disch := omega) only [↓reduceIte, wlet, Option.bind_some, true_and, and_true, not_true_eq_false, not_false_eq_true, reduceCtorEq, n0_, n1_, n2_, n3_, n4_, n5_, n6_, n7_, n8_, n9_, n10_, n12_, n16_, n18_, n20_, n21_, n22_, n24_, n25_, n26_, n27_, n28_, n29_, n30_, n31_, n32_, n40_, n41_, n42_, n43_, n45_, n48_, n54_, n57_, n58_, n59_, n60_, n61_, n63_, n96_, n97_, n99_, n100_, n122_, n126_, n200_, n255_, n375_, n400_, n1000_, n2000_, n9999_, n5764801_, n1000000_, n3000_, m1, m2, le_t, le_f, lt_t, lt_f, eq_t, eq_f, no_lt, no_le, le_no, lt_no, eq_no, no_eq, add_no, wib_t, clamp, nI_add, pk_mul, pk_sub, nor_, nand_, ndif_, shl_, sh1_, shr_, tbn, tb0, tb1, les_t, les_f, pk_div, rem_, remv, and31, wu1, wuc, wui, wu2, ws1, wsc, ws2, wv1, n11_, n13_, n14_, n15_, n17_, n19_, n23_, n56_, n64_, fX11_isLine, c1, Option.isSome_none, Option.bind_none, Bool.false_eq_true]
  | some i =>
    obtain ⟨rfl, e2⟩ := gIx_some e
    rw [e] at c1
    have l2 := (hW.2.2.2.1 i e2).2.1
    have c2 := (hC.2.2.2.1 i e2).1
    rw [Option.bind_some]
    cases e3 : gIx (gln L i) y with
    | none =>
      rcases gIx_cut e3 (by omega) with q | ⟨q1, q2, -⟩
      · simp (disch := omega) only [↓reduceIte, wlet, Option.bind_some, true_and, and_true, not_true_eq_false, not_false_eq_true, reduceCtorEq, n0_, n1_, n2_, n3_, n4_, n5_, n6_, n7_, n8_, n9_, n10_, n12_, n16_, n18_, n20_, n21_, n22_, n24_, n25_, n26_, n27_, n28_, n29_, n30_, n31_, n32_, n40_, n41_, n42_, n43_, n45_, n48_, n54_, n57_, n58_, n59_, n60_, n61_, n63_, n96_, n97_, n99_, n100_, n122_, n126_, n200_, n255_, n375_, n400_, n1000_, n2000_, n9999_, n5764801_, n1000000_, n3000_, m1, m2, le_t, le_f, lt_t, lt_f, eq_t, eq_f, no_lt, no_le, le_no, lt_no, eq_no, no_eq, add_no, wib_t, clamp, nI_add, pk_mul, pk_sub, nor_, nand_, ndif_, shl_, sh1_, shr_, tbn, tb0, tb1, les_t, les_f, pk_div, rem_, remv, and31, wu1, wuc, wui, wu2, ws1, wsc, ws2, wv1, n11_, n13_, n14_, n15_, n17_, n19_, n23_, n56_, n64_, fX11_isLine, c1, q, Option.isSome_none, Option.isSome_some, Option.bind_none]
      · simp (disch := omega) only [↓reduceIte, wlet, Option.bind_some, true_and, and_true, not_true_eq_false, not_false_eq_true, reduceCtorEq, n0_, n1_, n2_, n3_, n4_, n5_, n6_, n7_, n8_, n9_, n10_, n12_, n16_, n18_, n20_, n21_, n22_, n24_, n25_, n26_, n27_, n28_, n29_, n30_, n31_, n32_, n40_, n41_, n42_, n43_, n45_, n48_, n54_, n57_, n58_, n59_, n60_, n61_, n63_, n96_, n97_, n99_, n100_, n122_, n126_, n200_, n255_, n375_, n400_, n1000_, n2000_, n9999_, n5764801_, n1000000_, n3000_, m1, m2, le_t, le_f, lt_t, lt_f, eq_t, eq_f, no_lt, no_le, le_no, lt_no, eq_no, no_eq, add_no, wib_t, clamp, nI_add, pk_mul, pk_sub, nor_, nand_, ndif_, shl_, sh1_, shr_, tbn, tb0, tb1, les_t, les_f, pk_div, rem_, remv, and31, wu1, wuc, wui, wu2, ws1, wsc, ws2, wv1, n11_, n13_, n14_, n15_, n17_, n19_, n23_, n56_, n64_, fX11_isLine, c1, c2, q1, q2, Option.isSome_none, Option.isSome_some, Option.bind_none]
    | some j =>
      obtain ⟨rfl, e4⟩ := gIx_some e3
      simp (disch := omega) only [↓reduceIte, wlet, Option.bind_some, true_and, and_true, not_true_eq_false, not_false_eq_true, reduceCtorEq, n0_, n1_, n2_, n3_, n4_, n5_, n6_, n7_, n8_, n9_, n10_, n12_, n16_, n18_, n20_, n21_, n22_, n24_, n25_, n26_, n27_, n28_, n29_, n30_, n31_, n32_, n40_, n41_, n42_, n43_, n45_, n48_, n54_, n57_, n58_, n59_, n60_, n61_, n63_, n96_, n97_, n99_, n100_, n122_, n126_, n200_, n255_, n375_, n400_, n1000_, n2000_, n9999_, n5764801_, n1000000_, n3000_, m1, m2, le_t, le_f, lt_t, lt_f, eq_t, eq_f, no_lt, no_le, le_no, lt_no, eq_no, no_eq, add_no, wib_t, clamp, nI_add, pk_mul, pk_sub, nor_, nand_, ndif_, shl_, sh1_, shr_, tbn, tb0, tb1, les_t, les_f, pk_div, rem_, remv, and31, wu1, wuc, wui, wu2, ws1, wsc, ws2, wv1, n11_, n13_, n14_, n15_, n17_, n19_, n23_, n56_, n64_, fX11_isLine, c1, c2, Option.isSome_some]
end G38b

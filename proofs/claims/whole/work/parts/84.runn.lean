/-! THE LAW AT WORK, the other side: pieces -/
section G84
variable {h g : wSt} {e : Nat → Int32} {d k L : Nat} {o : Nat → Nat} {rs a x : List Int32} {v va vx : (Nat → Int32) → Int32}
theorem gHS_o {w : Nat} (hw : w ≤ 1) {y : Int32} (q : gHS e h d k L o (y :: rs)) : gHS e (opr h (d + 1) w) (d + 1) (k + 1) L (fun i => if i = d + 1 then w else o i) rs := by
  obtain ⟨q1, q2, q3, q4, q5, q6⟩ := q
  obtain ⟨o1, o2, o3, o4⟩ := opr_k (h := h) (d := d + 1) (w := w)
  rw [List.length_cons] at q3
  refine ⟨by rw [fr_at o1 (by unfold sz; omega)]; exact q1, q2, by omega, fun j hj => ?_, fun i h1 h2 => by rw [fr_at o1 (by unfold sz; omega)]; exact q5 i h1 h2, fun i h1 h2 => ?_⟩
  · rw [fr_at o1 (by unfold sz; omega), show k + 1 + j = k + (j + 1) by omega, q4 (j + 1) (by rw [List.length_cons]; omega), gd_c]
  · by_cases z : i = d + 1
    · rw [z, o3]
      show nI w = nI (if d + 1 = d + 1 then w else o (d + 1)) ∧ (if d + 1 = d + 1 then w else o (d + 1)) ≤ 1
      rw [if_pos rfl]; exact ⟨rfl, hw⟩
    · rw [o2 213 i (by omega)]
      show h.1 213 i = nI (if i = d + 1 then w else o i) ∧ (if i = d + 1 then w else o i) ≤ 1
      rw [if_neg z]; exact q6 i h1 (by omega)
theorem PR_not (p : PRp (d + 1) rs v) (hd : d ≤ 4) : PRp d (nI 30 :: rs) (fun e => vN (v e)) := by
  intro e h k L o q
  obtain ⟨q1, q2, q3, q4⟩ := gHS_0 q
  have st := m_open (Or.inr ⟨rfl, rfl⟩) hd q1 q2 q3 q4
  obtain ⟨o1, o2, o3, o4⟩ := opr_k (h := h) (d := d + 1) (w := 1)
  obtain ⟨g, g1, g2, g3⟩ := p e _ (k + 1) L _ (gHS_o (w := 1) (by omega) q)
  have eu : uw (fun i => if i = d + 1 then 1 else o i) (d + 1) = uw o d := by
    rw [uw, if_pos (if_pos rfl)]
    exact uw_cong (fun i h1 h2 => if_neg (by omega))
  have en : ∀ y, ngs (fun i => if i = d + 1 then 1 else o i) (d + 1) y = ngs o d (vN y) := fun y => by
    rw [ngs, if_pos (if_pos rfl)]
    exact ngs_cong (fun i h1 h2 => if_neg (by omega))
  rw [eu] at g1 g2 g3
  rw [en] at g3
  have hu := uw_le (o := o) (d := d)
  refine ⟨g, fun N => ?_, ⟨fr_tr o1 g2.1, fun c j hj => ?_⟩, ?_⟩
  · rw [List.length_cons, ← Nat.add_assoc, wt1 st, g1, show k + 1 + rs.length = k + (rs.length + 1) by omega]
  · rw [g2.2 c j hj, o2 c j (by omega)]
  · rw [g3, o2 212 _ (by omega), o2 211 _ (by omega)]
theorem PR_par (p : PRl 0 (d + 1) rs v) (hd : d ≤ 4) : PRp d (nI 28 :: (rs ++ [nI 29])) v := by
  intro e h k L o q
  obtain ⟨q1, q2, q3, q4⟩ := gHS_0 q
  have st := m_open (Or.inl ⟨rfl, rfl⟩) hd q1 q2 q3 q4
  obtain ⟨o1, o2, o3, o4⟩ := opr_k (h := h) (d := d + 1) (w := 0)
  have qo := gHS_o (w := 0) (by omega) q
  have eu : uw (fun i => if i = d + 1 then 0 else o i) (d + 1) = d + 1 := by
    rw [uw, if_neg (by show ¬ (if d + 1 = d + 1 then 0 else o (d + 1)) = 1; rw [if_pos rfl]; omega)]
  obtain ⟨g, g1, g2, g3⟩ := p e _ (k + 1) L _ (gHS_a qo) eu o4
  have vk := g3.2.2.2 rfl
  have qs := gHS_s qo g2
  obtain ⟨z1, z2, z3, z4⟩ := gHS_0 qs
  have hu := uw_le (o := o) (d := d)
  obtain ⟨f, f1, f2, f3⟩ := m_dlv29 (h := g) (o := o) (k := k + 1 + rs.length) hd (fun i h1 h2 => by
    obtain ⟨y1, y2⟩ := qs.2.2.2.2.2 i h1 (by omega)
    have y1 : g.1 213 i = nI (if i = d + 1 then 0 else o i) := y1
    have y2 : (if i = d + 1 then 0 else o i) ≤ 1 := y2
    rw [if_neg (by omega)] at y1 y2
    exact ⟨y1, y2⟩) (by omega)
  have st2 := (m_29 hd z1 z2 z3 z4).trans f1
  rw [vk] at f3
  refine ⟨f, fun N => ?_, ⟨fr_tr o1 (fr_tr g2.1 f2.1), fun c j hj => ?_⟩, ?_⟩
  · rw [List.length_cons, List.length_append, List.length_cons, List.length_nil, show N + (rs.length + (0 + 1) + 1) = (N + 1 + rs.length) + 1 by omega, wt1 st, g1, wt1 st2, show k + 1 + rs.length + 1 = k + (rs.length + (0 + 1) + 1) by omega]
  · rw [f2.2 c j hj, g2.2.1 c j (by omega), o2 c j (by omega)]
  · rw [f3, g2.2.1 212 _ (by omega), g2.2.1 211 _ (by omega), o2 212 _ (by omega), o2 211 _ (by omega)]
theorem gKU_1 {u : Nat} {y : Int32} : gKU u h (wuI h 211 u y) := ⟨fr_wuI (by unfold sz; omega), fun c j hj => by
  by_cases z : c = 211
  · subst z; exact wui (by omega)
  · rw [wuc z]⟩
theorem PR_n {n : Nat} (hn : n < 10000) (hd : d ≤ 4) : PRp d [nI (100 + n)] (fun _ => nI n) := by
  intro e h k L o q
  obtain ⟨q1, q2, q3, q4⟩ := gHS_0 q
  have st := (m_num hn (by omega) q1 q2 q3 q4 (d := d)).trans (m_dlv (by omega) q.2.2.2.2.2 (by omega) (by omega) (by omega))
  exact ⟨_, fun N => wt1 st N, gKU_1, wu1⟩
theorem PR_f {n : Nat} (h1 : 1 ≤ n) (h4 : n ≤ 4) (hd : d ≤ 4) : PRp d [nI n] (fun e => e n) := by
  intro e h k L o q
  obtain ⟨q1, q2, q3, q4⟩ := gHS_0 q
  have st := (m_fct h1 h4 (by omega) q1 q2 q3 q4 (d := d)).trans (m_dlv (by omega) q.2.2.2.2.2 (by omega) (by omega) (by omega))
  rw [q.2.2.2.2.1 n h1 h4] at st
  exact ⟨_, fun N => wt1 st N, gKU_1, wu1⟩
theorem PR_43 (p : PRp d rs v) : PRl 3 d rs v := by
  intro e h k L o q hu hp
  obtain ⟨g, g1, g2, g3⟩ := p e h k L o q
  rw [hu] at g1 g2 g3
  rw [ngs_uw hu, if_pos hp.1] at g3
  exact ⟨g, g1, gKL_U g2, fun _ => ⟨g3, fun c h1 h2 => g2.2 c d (Or.inr ⟨rfl, by omega⟩)⟩, fun z => by omega, fun z => by omega, fun z => by omega⟩
theorem PR_32 (p : PRl 3 d rs v) : PRl 2 d rs v := by
  intro e h k L o q hu hp
  obtain ⟨g, g1, g2, g3⟩ := p e h k L o q hu ⟨hp.1, fun z => by omega, fun z => by omega, fun z => by omega⟩
  obtain ⟨y1, y2⟩ := g3.1 rfl
  obtain ⟨p9, p10⟩ := hp.2.1 (by omega)
  refine ⟨g, g1, g2, fun z => by omega, fun _ => ⟨?_, fun c h1 h2 => y2 c h1 (by omega)⟩, fun z => by omega, fun z => by omega⟩
  unfold vS
  rw [y2 210 (by omega) (by omega), p10, if_neg (by decide), y2 209 (by omega) (by omega), p9, y1]
  exact Int32.zero_add _
theorem PR_21 (p : PRl 2 d rs v) : PRl 1 d rs v := by
  intro e h k L o q hu hp
  obtain ⟨g, g1, g2, g3⟩ := p e h k L o q hu ⟨hp.1, fun z => hp.2.1 (by omega), fun z => by omega, fun z => by omega⟩
  obtain ⟨y1, y2⟩ := g3.2.1 rfl
  have p8 := hp.2.2.1 (by omega)
  refine ⟨g, g1, g2, fun z => by omega, fun z => by omega, fun _ => ⟨?_, fun c h1 h2 => y2 c h1 (by omega)⟩, fun z => by omega⟩
  unfold vT
  rw [y2 208 (by omega) (by omega), p8, if_neg (by decide), if_neg (by decide)]
  exact y1
theorem PR_10 (p : PRl 1 d rs v) : PRl 0 d rs v := by
  intro e h k L o q hu hp
  obtain ⟨g, g1, g2, g3⟩ := p e h k L o q hu ⟨hp.1, fun z => hp.2.1 (by omega), fun z => hp.2.2.1 (by omega), fun z => by omega⟩
  obtain ⟨y1, y2⟩ := g3.2.2.1 rfl
  have p6 := hp.2.2.2 rfl
  refine ⟨g, g1, g2, fun z => by omega, fun z => by omega, fun z => by omega, fun _ => ?_⟩
  unfold vK
  rw [y2 206 (by omega) (by omega), p6, if_neg (by decide), if_neg (by decide)]
  exact y1
theorem ln_j {y : Int32} : (a ++ (y :: x)).length = a.length + (x.length + 1) := by rw [List.length_append, List.length_cons]
theorem PR_j3 (pa : PRl 3 d a va) (px : PRp d x vx) (hd : d ≤ 4) : PRl 3 d (a ++ (nI 22 :: x)) (fun e => vJ 22 (va e) (vx e)) := by
  intro e h k L o q hu hp
  obtain ⟨g, g1, g2, g3⟩ := pa e h k L o (gHS_a q) hu hp
  obtain ⟨y1, y2⟩ := g3.1 rfl
  have q2 := gHS_s q g2
  obtain ⟨z1, z2, z3, z4⟩ := gHS_0 q2
  have st := m_22 (d := d) (by omega) z1 z2 z3 z4
  have kl : gKL d g (wuI g 212 d (nI 22)) := gKL_u (by omega) (by omega)
  obtain ⟨f, f1, f2, f3⟩ := px e _ _ L o (gHS_s (a := [nI 22]) q2 kl)
  rw [hu] at f1 f2 f3
  rw [ngs_uw hu, wu1, if_neg (by decide), wuc (by omega), y1] at f3
  have f1 : ∀ N, wit mB (N + x.length) (nI d, nI (k + a.length + 1), wuI g 212 d (nI 22)) = wit mB N (nI d, nI (k + a.length + 1 + x.length), f) := f1
  refine ⟨f, fun N => ?_, gKL_tr g2 (gKL_tr kl (gKL_U f2)), fun _ => ⟨f3, fun c h1 h2 => ?_⟩, fun z => by omega, fun z => by omega, fun z => by omega⟩
  · rw [ln_j, show N + (a.length + (x.length + 1)) = (N + x.length + 1) + a.length by omega, g1, wt1 st, f1, show k + a.length + 1 + x.length = k + (a.length + (x.length + 1)) by omega]
  · rw [f2.2 c d (Or.inr ⟨rfl, by omega⟩), wuc (by omega), y2 c h1 h2]
theorem PR_j2 {c : Nat} (hc : c = 20 ∨ c = 21) (pa : PRl 2 d a va) (px : PRl 3 d x vx) (hd : d ≤ 4) : PRl 2 d (a ++ (nI c :: x)) (fun e => vJ c (va e) (vx e)) := by
  intro e h k L o q hu hp
  obtain ⟨g, g1, g2, g3⟩ := pa e h k L o (gHS_a q) hu hp
  obtain ⟨y1, y2⟩ := g3.2.1 rfl
  have q2 := gHS_s q g2
  obtain ⟨z1, z2, z3, z4⟩ := gHS_0 q2
  have st := m_20 (d := d) hc (by omega) z1 z2 z3 z4
  rw [y1] at st
  have kl : gKL d g (wuI (wuI (wuI g 209 d (va e)) 212 d (nI 0)) 210 d (nI c)) := gKL_tr (gKL_tr (gKL_u (by omega) (by omega)) (gKL_u (by omega) (by omega))) (gKL_u (by omega) (by omega))
  obtain ⟨f, f1, f2, f3⟩ := px e _ _ L o (gHS_s (a := [nI c]) q2 kl) hu ⟨by rw [wuc (by omega), wu1], fun z => by omega, fun z => by omega, fun z => by omega⟩
  obtain ⟨x1, x2⟩ := f3.1 rfl
  have f1 : ∀ N, wit mB (N + x.length) (nI d, nI (k + a.length + 1), wuI (wuI (wuI g 209 d (va e)) 212 d (nI 0)) 210 d (nI c)) = wit mB N (nI d, nI (k + a.length + 1 + x.length), f) := f1
  have x9 : f.1 209 d = va e := by rw [x2 209 (by omega) (by omega), wuc (by omega), wuc (by omega), wu1]
  have x10 : f.1 210 d = nI c := by rw [x2 210 (by omega) (by omega), wu1]
  refine ⟨f, fun N => ?_, gKL_tr g2 (gKL_tr kl f2), fun z => by omega, fun _ => ⟨?_, fun c h1 h2 => ?_⟩, fun z => by omega, fun z => by omega⟩
  · rw [ln_j, show N + (a.length + (x.length + 1)) = (N + x.length + 1) + a.length by omega, g1, wt1 st, f1, show k + a.length + 1 + x.length = k + (a.length + (x.length + 1)) by omega]
  · unfold vS
    rw [x9, x10, x1]
    rcases hc with rfl | rfl
    · rw [if_neg (by decide)]; rfl
    · rw [if_pos rfl]; rfl
  · rw [x2 c h1 (by omega), wuc (by omega), wuc (by omega), wuc (by omega), y2 c h1 h2]
theorem PR_j1 {c : Nat} (hc : c = 24 ∨ c = 25) (pa : PRl 2 d a va) (px : PRl 2 d x vx) (hd : d ≤ 4) : PRl 1 d (a ++ (nI c :: x)) (fun e => vJ c (va e) (vx e)) := by
  intro e h k L o q hu hp
  obtain ⟨g, g1, g2, g3⟩ := pa e h k L o (gHS_a q) hu ⟨hp.1, fun z => hp.2.1 (by omega), fun z => by omega, fun z => by omega⟩
  obtain ⟨y1, y2⟩ := g3.2.1 rfl
  have q2 := gHS_s q g2
  obtain ⟨z1, z2, z3, z4⟩ := gHS_0 q2
  have st := m_24 (d := d) hc (by omega) z1 z2 z3 z4
  rw [y1] at st
  have kl : gKL d g (wuI (wuI (wuI (wuI (wuI (wuI g 209 d (va e)) 212 d (nI 0)) 207 d (va e)) 208 d (nI c)) 209 d (nI 0)) 210 d (nI 20)) := gKL_tr (gKL_tr (gKL_tr (gKL_tr (gKL_tr (gKL_u (by omega) (by omega)) (gKL_u (by omega) (by omega))) (gKL_u (by omega) (by omega))) (gKL_u (by omega) (by omega))) (gKL_u (by omega) (by omega))) (gKL_u (by omega) (by omega))
  obtain ⟨f, f1, f2, f3⟩ := px e _ _ L o (gHS_s (a := [nI c]) q2 kl) hu ⟨by rw [wuc (by omega), wuc (by omega), wuc (by omega), wuc (by omega), wu1], fun _ => ⟨by rw [wuc (by omega), wu1], wu1⟩, fun z => by omega, fun z => by omega⟩
  obtain ⟨x1, x2⟩ := f3.2.1 rfl
  have f1 : ∀ N, wit mB (N + x.length) (nI d, nI (k + a.length + 1), wuI (wuI (wuI (wuI (wuI (wuI g 209 d (va e)) 212 d (nI 0)) 207 d (va e)) 208 d (nI c)) 209 d (nI 0)) 210 d (nI 20)) = wit mB N (nI d, nI (k + a.length + 1 + x.length), f) := f1
  have x7 : f.1 207 d = va e := by rw [x2 207 (by omega) (by omega), wuc (by omega), wuc (by omega), wuc (by omega), wu1]
  have x8 : f.1 208 d = nI c := by rw [x2 208 (by omega) (by omega), wuc (by omega), wuc (by omega), wu1]
  refine ⟨f, fun N => ?_, gKL_tr g2 (gKL_tr kl f2), fun z => by omega, fun z => by omega, fun _ => ⟨?_, fun c h1 h2 => ?_⟩, fun z => by omega⟩
  · rw [ln_j, show N + (a.length + (x.length + 1)) = (N + x.length + 1) + a.length by omega, g1, wt1 st, f1, show k + a.length + 1 + x.length = k + (a.length + (x.length + 1)) by omega]
  · unfold vT
    rw [x7, x8, x1]
    rcases hc with rfl | rfl
    · rw [if_pos rfl]; rfl
    · rw [if_neg (by decide), if_pos rfl]; rfl
  · rw [x2 c h1 (by omega), wuc (by omega), wuc (by omega), wuc (by omega), wuc (by omega), wuc (by omega), wuc (by omega), y2 c h1 (by omega)]
theorem PR_j0 {c : Nat} (hc : c = 26 ∨ c = 27) (pa : PRl 0 d a va) (px : PRl 1 d x vx) (hd : d ≤ 4) : PRl 0 d (a ++ (nI c :: x)) (fun e => vJ c (va e) (vx e)) := by
  intro e h k L o q hu hp
  obtain ⟨g, g1, g2, g3⟩ := pa e h k L o (gHS_a q) hu hp
  have y1 := g3.2.2.2 rfl
  have q2 := gHS_s q g2
  obtain ⟨z1, z2, z3, z4⟩ := gHS_0 q2
  have st := m_26 (d := d) hc (by omega) z1 z2 z3 z4
  have kl : gKL d g (wuI (tsr g d) 206 d (nI c)) := by
    unfold tsr
    exact gKL_tr (gKL_tr (gKL_tr (gKL_tr (gKL_tr (gKL_tr (gKL_u (by omega) (by omega)) (gKL_u (by omega) (by omega))) (gKL_u (by omega) (by omega))) (gKL_u (by omega) (by omega))) (gKL_u (by omega) (by omega))) (gKL_u (by omega) (by omega))) (gKL_u (by omega) (by omega))
  have t5 : (wuI (tsr g d) 206 d (nI c)).1 205 d = va e := by
    unfold tsr
    rw [wuc (by omega), wuc (by omega), wuc (by omega), wuc (by omega), wu1, y1]
  obtain ⟨f, f1, f2, f3⟩ := px e _ _ L o (gHS_s (a := [nI c]) q2 kl) hu ⟨by unfold tsr; rw [wuc (by omega), wuc (by omega), wuc (by omega), wuc (by omega), wuc (by omega), wu1], fun _ => ⟨by unfold tsr; rw [wuc (by omega), wuc (by omega), wu1], by unfold tsr; rw [wuc (by omega), wu1]⟩, fun _ => by unfold tsr; rw [wuc (by omega), wuc (by omega), wuc (by omega), wu1], fun z => by omega⟩
  obtain ⟨x1, x2⟩ := f3.2.2.1 rfl
  have f1 : ∀ N, wit mB (N + x.length) (nI d, nI (k + a.length + 1), wuI (tsr g d) 206 d (nI c)) = wit mB N (nI d, nI (k + a.length + 1 + x.length), f) := f1
  have x5 : f.1 205 d = va e := by rw [x2 205 (by omega) (by omega)]; exact t5
  have x6 : f.1 206 d = nI c := by rw [x2 206 (by omega) (by omega), wu1]
  refine ⟨f, fun N => ?_, gKL_tr g2 (gKL_tr kl f2), fun z => by omega, fun z => by omega, fun z => by omega, fun _ => ?_⟩
  · rw [ln_j, show N + (a.length + (x.length + 1)) = (N + x.length + 1) + a.length by omega, g1, wt1 st, f1, show k + a.length + 1 + x.length = k + (a.length + (x.length + 1)) by omega]
  · unfold vK
    rw [x5, x6, x1]
    rcases hc with rfl | rfl
    · rw [if_pos rfl]; rfl
    · rw [if_neg (by decide), if_pos rfl]; rfl
theorem PR_all {T : gTp} (n : Nat) : ∀ l d s, l ≤ 4 → d ≤ 5 → gFl l d ≤ n → s.1 ≤ T.1 → s.2 = 0 → (gX T n true l d s).1.2 = 0 → d ≤ 4 ∧ (l = 4 → PRp d (gX T n true l d s).2.2.1 (gX T n true l d s).2.2.2) ∧ (l ≤ 3 → PRl l d (gX T n true l d s).2.2.1 (gX T n true l d s).2.2.2) ∧ 1 ≤ (gX T n true l d s).2.2.1.length := by
  refine (gX_i (fun d x => d ≤ 4 ∧ PRp d x.2.2.1 x.2.2.2 ∧ 1 ≤ x.2.2.1.length) (fun l d x => d ≤ 4 ∧ (l = 4 → PRp d x.2.2.1 x.2.2.2) ∧ (l ≤ 3 → PRl l d x.2.2.1 x.2.2.2) ∧ 1 ≤ x.2.2.1.length) ?_ ?_ ?_ ?_ ?_ ?_ ?_ n).2
  · intro d s hd hb hs h18 h40
    refine ⟨hd, ?_, Nat.le_refl 1⟩
    by_cases hf : gFa T s.1 = 0
    · have hk : gTk T s.1 = 2 := by
        unfold gStt at hs
        rw [hf, h18, h40] at hs
        simpa using hs
      have e1 : gAr T s.1 = nI (100 + gTn T s.1) := if_pos hf
      have e2 : gAv T s.1 = fun _ => nI (gTn T s.1) := funext (fun e => if_pos hf)
      show PRp d [gAr T s.1] (gAv T s.1)
      rw [e1, e2]
      exact PR_n (gTk_2 hb hk).2.2 hd
    · have e1 : gAr T s.1 = nI (gFa T s.1) := if_neg hf
      have e2 : gAv T s.1 = fun e => e (gFa T s.1) := funext (fun e => if_neg hf)
      show PRp d [gAr T s.1] (gAv T s.1)
      rw [e1, e2]
      exact PR_f (by omega) gFa_le hd
  · intro d x hd p
    exact ⟨hd, PR_not p.2.1 hd, by show 1 ≤ (nI 30 :: x.2.2.1).length; rw [List.length_cons]; omega⟩
  · intro d x hd p
    exact ⟨hd, PR_par (p.2.2.1 (by omega)) hd, by show 1 ≤ (nI 28 :: (x.2.2.1 ++ [nI 29])).length; rw [List.length_cons]; omega⟩
  · intro d x p
    exact ⟨p.1, fun _ => p.2.1, fun z => by omega, p.2.2⟩
  · intro l d x hl p
    refine ⟨p.1, fun z => by omega, fun _ => ?_, p.2.2.2⟩
    have h0 : l = 0 ∨ l = 1 ∨ l = 2 ∨ l = 3 := by omega
    rcases h0 with rfl | rfl | rfl | rfl
    · exact PR_10 (p.2.2.1 (by omega))
    · exact PR_21 (p.2.2.1 (by omega))
    · exact PR_32 (p.2.2.1 (by omega))
    · exact PR_43 (p.2.1 rfl)
  · intro l d a x hl h1 pa px pj
    refine ⟨pa.1, fun z => by omega, fun _ => ?_, by show 1 ≤ (a.2.2.1 ++ (nI (gJo T l a.1.1) :: x.2.2.1)).length; rw [List.length_append, List.length_cons]; omega⟩
    show PRl l d (a.2.2.1 ++ (nI (gJo T l a.1.1) :: x.2.2.1)) (fun e => vJ (gJo T l a.1.1) (a.2.2.2 e) (x.2.2.2 e))
    rcases gJ_v hl pj with ⟨rfl, q⟩ | ⟨rfl, q⟩ | ⟨rfl, q⟩ | ⟨rfl, q, -⟩
    · exact PR_j0 (by omega) (pa.2.2.1 (by omega)) (px.2.2.1 (by omega)) pa.1
    · exact absurd rfl h1
    · exact PR_j2 (by omega) (pa.2.2.1 (by omega)) (px.2.2.1 (by omega)) pa.1
    · rw [q]
      exact PR_j3 (pa.2.2.1 (by omega)) (px.2.1 rfl) pa.1
  · intro d a x pa px pj
    refine ⟨pa.1, fun z => by omega, fun _ => ?_, by show 1 ≤ (a.2.2.1 ++ (nI (gJo T 1 a.1.1) :: x.2.2.1)).length; rw [List.length_append, List.length_cons]; omega⟩
    show PRl 1 d (a.2.2.1 ++ (nI (gJo T 1 a.1.1) :: x.2.2.1)) (fun e => vJ (gJo T 1 a.1.1) (a.2.2.2 e) (x.2.2.2 e))
    rcases gJ_v (by omega) pj with ⟨z, q⟩ | ⟨z, q⟩ | ⟨z, q⟩ | ⟨z, q⟩
    · omega
    · exact PR_j1 (by omega) (pa.2.2.1 (by omega)) (px.2.2.1 (by omega)) pa.1
    · omega
    · omega
theorem m_worked (h200 : h.1 200 0 = nI 0) (h201 : h.1 201 0 = nI rs.length) (hc : ∀ j, j < rs.length → h.1 202 j = rs.getD j 0) (hl : rs.length ≤ 1000) (he : ∀ i, 1 ≤ i → i ≤ 4 → h.1 214 i = e i) (p : PRl 0 0 rs v) : ∃ g, fX11_worked h (nI 0) = some (v e, g) ∧ fr sz h g := by
  have f1 : fr sz h (wuI (wuI (wuI (wuI (wuI h 206 0 (nI 0)) 208 0 (nI 0)) 209 0 (nI 0)) 210 0 (nI 20)) 212 0 (nI 0)) := fr_tr (fr_tr (fr_tr (fr_tr (fr_wuI (by unfold sz; omega)) (fr_wuI (by unfold sz; omega))) (fr_wuI (by unfold sz; omega))) (fr_wuI (by unfold sz; omega))) (fr_wuI (by unfold sz; omega))
  have eo : fX11_opens h (nI 0) = some (wuI (wuI (wuI (wuI (wuI h 206 0 (nI 0)) 208 0 (nI 0)) 209 0 (nI 0)) 210 0 (nI 20)) 212 0 (nI 0)) := by
    simp (disch := omega) only [↓reduceIte, wlet, Option.bind_some, true_and, and_true, not_true_eq_false, not_false_eq_true, reduceCtorEq, n0_, n1_, n2_, n3_, n4_, n5_, n6_, n7_, n8_, n9_, n10_, n12_, n16_, n18_, n20_, n21_, n22_, n24_, n25_, n26_, n27_, n28_, n29_, n30_, n31_, n32_, n40_, n41_, n42_, n43_, n45_, n48_, n54_, n57_, n58_, n59_, n60_, n61_, n63_, n96_, n97_, n99_, n100_, n122_, n126_, n200_, n255_, n375_, n400_, n1000_, n2000_, n9999_, n5764801_, n1000000_, n3000_, m1, m2, le_t, le_f, lt_t, lt_f, eq_t, eq_f, no_lt, no_le, le_no, lt_no, eq_no, no_eq, add_no, wib_t, clamp, nI_add, pk_mul, pk_sub, nor_, nand_, ndif_, shl_, sh1_, shr_, tbn, tb0, tb1, les_t, les_f, pk_div, rem_, remv, and31, wu1, wuc, wui, wu2, ws1, wsc, ws2, wv1, n11_, n13_, n14_, n15_, n17_, n19_, n23_, n56_, n64_, fX11_opens]
  have pre : gPre 0 (wuI (wuI (wuI (wuI (wuI h 206 0 (nI 0)) 208 0 (nI 0)) 209 0 (nI 0)) 210 0 (nI 20)) 212 0 (nI 0)) 0 := ⟨wu1, fun _ => ⟨by rw [wuc (by omega), wuc (by omega), wu1], by rw [wuc (by omega), wu1]⟩, fun _ => by rw [wuc (by omega), wuc (by omega), wuc (by omega), wu1], fun _ => by rw [wuc (by omega), wuc (by omega), wuc (by omega), wuc (by omega), wu1]⟩
  revert f1 eo pre
  generalize wuI (wuI (wuI (wuI (wuI h 206 0 (nI 0)) 208 0 (nI 0)) 209 0 (nI 0)) 210 0 (nI 20)) 212 0 (nI 0) = h1
  intro f1 eo pre
  have c0 : h1.1 200 0 = nI 0 := by rw [fr_at f1 (by unfold sz; omega)]; exact h200
  obtain ⟨g, g1, g2, g3⟩ := p e h1 0 rs.length (fun _ => 0) ⟨by rw [fr_at f1 (by unfold sz; omega)]; exact h201, hl, by omega, fun j hj => by rw [fr_at f1 (by unfold sz; omega), Nat.zero_add]; exact hc j hj, fun i h1 h2 => by rw [fr_at f1 (by unfold sz; omega)]; exact he i h1 h2, fun i h1 h2 => by omega⟩ rfl pre
  rw [Nat.zero_add] at g1
  have c1 : g.1 201 0 = nI rs.length := by rw [fr_at g2.1 (by unfold sz; omega), fr_at f1 (by unfold sz; omega)]; exact h201
  have st : mB (nI 0, nI rs.length, g) = some (.inr g) := by
    show fX11_worked_l14 g (nI 0) (nI 0) (nI rs.length) = _
    simp (disch := omega) only [↓reduceIte, wlet, Option.bind_some, true_and, and_true, not_true_eq_false, not_false_eq_true, reduceCtorEq, n0_, n1_, n2_, n3_, n4_, n5_, n6_, n7_, n8_, n9_, n10_, n12_, n16_, n18_, n20_, n21_, n22_, n24_, n25_, n26_, n27_, n28_, n29_, n30_, n31_, n32_, n40_, n41_, n42_, n43_, n45_, n48_, n54_, n57_, n58_, n59_, n60_, n61_, n63_, n96_, n97_, n99_, n100_, n122_, n126_, n200_, n255_, n375_, n400_, n1000_, n2000_, n9999_, n5764801_, n1000000_, n3000_, m1, m2, le_t, le_f, lt_t, lt_f, eq_t, eq_f, no_lt, no_le, le_no, lt_no, eq_no, no_eq, add_no, wib_t, clamp, nI_add, pk_mul, pk_sub, nor_, nand_, ndif_, shl_, sh1_, shr_, tbn, tb0, tb1, les_t, les_f, pk_div, rem_, remv, and31, wu1, wuc, wui, wu2, ws1, wsc, ws2, wv1, n11_, n13_, n14_, n15_, n17_, n19_, n23_, n56_, n64_, fX11_worked_l14, c1]
  have w : wit mB 3000 (nI 0, nI 0, h1) = some g := by
    rw [show 3000 = (3000 - rs.length - 1 + 1) + rs.length by omega, g1, wt2 st]
  have w : wit (fun v : (Int32 × Int32 × wSt) => fX11_worked_l14 v.2.2 (nI 0) v.1 v.2.1) 3000 (nI 0, nI 0, h1) = some g := w
  have et := r_tests (h := g) (d := 0) (by omega)
  have v5 : (tsr g 0).1 205 0 = v e := by
    unfold tsr
    rw [wuc (by omega), wuc (by omega), wuc (by omega), wu1]
    exact g3.2.2.2 rfl
  refine ⟨tsr g 0, ?_, fr_tr f1 (fr_tr g2.1 ?_)⟩
  · simp (disch := omega) only [↓reduceIte, wlet, Option.bind_some, true_and, and_true, not_true_eq_false, not_false_eq_true, reduceCtorEq, n0_, n1_, n2_, n3_, n4_, n5_, n6_, n7_, n8_, n9_, n10_, n12_, n16_, n18_, n20_, n21_, n22_, n24_, n25_, n26_, n27_, n28_, n29_, n30_, n31_, n32_, n40_, n41_, n42_, n43_, n45_, n48_, n54_, n57_, n58_, n59_, n60_, n61_, n63_, n96_, n97_, n99_, n100_, n122_, n126_, n200_, n255_, n375_, n400_, n1000_, n2000_, n9999_, n5764801_, n1000000_, n3000_, m1, m2, le_t, le_f, lt_t, lt_f, eq_t, eq_f, no_lt, no_le, le_no, lt_no, eq_no, no_eq, add_no, wib_t, clamp, nI_add, pk_mul, pk_sub, nor_, nand_, ndif_, shl_, sh1_, shr_, tbn, tb0, tb1, les_t, les_f, pk_div, rem_, remv, and31, wu1, wuc, wui, wu2, ws1, wsc, ws2, wv1, n11_, n13_, n14_, n15_, n17_, n19_, n23_, n56_, n64_, fX11_worked, eo, c0, w, et, v5]
  · unfold tsr
    exact fr_tr (fr_tr (fr_tr (fr_tr (fr_tr (fr_wuI (by unfold sz; omega)) (fr_wuI (by unfold sz; omega))) (fr_wuI (by unfold sz; omega))) (fr_wuI (by unfold sz; omega))) (fr_wuI (by unfold sz; omega))) (fr_wuI (by unfold sz; omega))
theorem LawR_of (h200 : h.1 200 0 = nI 0) (h201 : h.1 201 0 = nI rs.length) (hc : ∀ j, j < rs.length → h.1 202 j = rs.getD j 0) (hl : rs.length ≤ 1000) (h1 : 1 ≤ rs.length) (p : PRl 0 0 rs v) : LawR h (fun a b c d => decide (v (gEn a b c d) ≠ 0)) := by
  intro h2 q1 q2 q3 t a b c d ht _ _ _ _ hg
  rw [← q1] at h200
  rw [← q2] at h201
  have f1 : fr (fun c => c = 214) h2 (wuI (wuI (wuI (wuI h2 214 1 (nI a)) 214 2 (nI b)) 214 3 (nI c)) 214 4 (nI d)) := fr_tr (fr_tr (fr_tr (fr_wuI rfl) (fr_wuI rfl)) (fr_wuI rfl)) (fr_wuI rfl)
  obtain ⟨g, e1, f2⟩ := m_worked (h := wuI (wuI (wuI (wuI h2 214 1 (nI a)) 214 2 (nI b)) 214 3 (nI c)) 214 4 (nI d)) (e := gEn a b c d) (rs := rs) (v := v) (by rw [fr_at f1 (by omega)]; exact h200) (by rw [fr_at f1 (by omega)]; exact h201) (fun j hj => by rw [fr_at f1 (by omega), q3 j (by omega)]; exact hc j hj) hl (fun i h1 h2 => by
    have : i = 1 ∨ i = 2 ∨ i = 3 ∨ i = 4 := by omega
    rcases this with rfl | rfl | rfl | rfl
    · rw [wui (by omega), wui (by omega), wui (by omega), wu1]; rfl
    · rw [wui (by omega), wui (by omega), wu1]; rfl
    · rw [wui (by omega), wu1]; rfl
    · rw [wu1]; rfl) p
  refine ⟨g, ?_, fr_tr (fr_mono f1 (fun c q => by unfold sr; omega)) (fr_mono f2 (fun c q => by unfold sz at q; unfold sr; omega))⟩
  show fX11_showsBy_b38 h2 (nI t) (nI d) (nI a) (nI b) = some (decide (v (gEn a b c d) ≠ 0), g)
  by_cases z : v (gEn a b c d) = nI 0
  · rw [decide_eq_false (show ¬ v (gEn a b c d) ≠ 0 from fun y => y z)]
    rw [z] at e1
    simp (disch := omega) only [↓reduceIte, wlet, Option.bind_some, true_and, and_true, not_true_eq_false, not_false_eq_true, reduceCtorEq, n0_, n1_, n2_, n3_, n4_, n5_, n6_, n7_, n8_, n9_, n10_, n12_, n16_, n18_, n20_, n21_, n22_, n24_, n25_, n26_, n27_, n28_, n29_, n30_, n31_, n32_, n40_, n41_, n42_, n43_, n45_, n48_, n54_, n57_, n58_, n59_, n60_, n61_, n63_, n96_, n97_, n99_, n100_, n122_, n126_, n200_, n255_, n375_, n400_, n1000_, n2000_, n9999_, n5764801_, n1000000_, n3000_, m1, m2, le_t, le_f, lt_t, lt_f, eq_t, eq_f, no_lt, no_le, le_no, lt_no, eq_no, no_eq, add_no, wib_t, clamp, nI_add, pk_mul, pk_sub, nor_, nand_, ndif_, shl_, sh1_, shr_, tbn, tb0, tb1, les_t, les_f, pk_div, rem_, remv, and31, wu1, wuc, wui, wu2, ws1, wsc, ws2, wv1, n11_, n13_, n14_, n15_, n17_, n19_, n23_, n56_, n64_, fX11_showsBy_b38, h200, h201, hg, e1]
  · rw [decide_eq_true (show v (gEn a b c d) ≠ 0 from z)]
    simp (disch := omega) only [↓reduceIte, wlet, Option.bind_some, true_and, and_true, not_true_eq_false, not_false_eq_true, reduceCtorEq, n0_, n1_, n2_, n3_, n4_, n5_, n6_, n7_, n8_, n9_, n10_, n12_, n16_, n18_, n20_, n21_, n22_, n24_, n25_, n26_, n27_, n28_, n29_, n30_, n31_, n32_, n40_, n41_, n42_, n43_, n45_, n48_, n54_, n57_, n58_, n59_, n60_, n61_, n63_, n96_, n97_, n99_, n100_, n122_, n126_, n200_, n255_, n375_, n400_, n1000_, n2000_, n9999_, n5764801_, n1000000_, n3000_, m1, m2, le_t, le_f, lt_t, lt_f, eq_t, eq_f, no_lt, no_le, le_no, lt_no, eq_no, no_eq, add_no, wib_t, clamp, nI_add, pk_mul, pk_sub, nor_, nand_, ndif_, shl_, sh1_, shr_, tbn, tb0, tb1, les_t, les_f, pk_div, rem_, remv, and31, wu1, wuc, wui, wu2, ws1, wsc, ws2, wv1, n11_, n13_, n14_, n15_, n17_, n19_, n23_, n56_, n64_, fX11_showsBy_b38, h200, h201, hg, e1, z]
theorem LawR_0 (hq : h.1 201 0 = h.1 200 0) : LawR h (fun a b c d => decide (gv0 (gEn a b c d) ≠ 0)) := by
  intro h2 q1 q2 q3 t a b c d ht _ _ _ _ hg
  have hq2 : h2.1 201 0 = h2.1 200 0 := by rw [q1, q2]; exact hq
  refine ⟨h2, ?_, fr_rf⟩
  show fX11_showsBy_b38 h2 (nI t) (nI d) (nI a) (nI b) = some (decide (gv0 (gEn a b c d) ≠ 0), h2)
  have e0 : gv0 (gEn a b c d) = if nI a ≤ nI b * 2 - nI c then 0 else 1 := rfl
  have wi : wib (nI t) 12 := by rw [wib_t (by omega) (by omega)]; trivial
  rw [e0]
  unfold fX11_showsBy_b38
  rw [if_pos hq2, if_pos wi, clamp (by omega), hg]
  by_cases z : nI a ≤ nI b * 2 - nI c
  · rw [if_pos z, if_pos z]; rfl
  · rw [if_neg z, if_neg z]; rfl
end G84

/-! A LIBRARY LAID, the other side -/
section G89
variable {h g : wSt} {D : gLib} {W : Option gPc}
theorem r_lays (hD : DM h D) (hw : DMw h W) (hW : WL D) (hv : gWv W) : ∃ g, fX11_lays h = some g ∧ ML g (gFn2 D W) ∧ fr (fun c => 190 ≤ c ∧ c ≤ 202) h g := by
  obtain ⟨g0, e0, f0, q0, p0⟩ := r_shifts h (a0 := 190) (g0 := 6) (n := 3) (by omega) (by omega)
  obtain ⟨g1, e1, f1, q1, p1⟩ := r_shiftsN g0 (a0 := 191) (g0 := 6) (n := 3) (by omega) (by omega)
  obtain ⟨g2, e2, f2, q2, p2⟩ := r_shiftsN g1 (a0 := 192) (g0 := 12) (n := 6) (by omega) (by omega)
  obtain ⟨g3, e3, f3, q3, p3⟩ := r_shifts g2 (a0 := 193) (g0 := 6) (n := 3) (by omega) (by omega)
  obtain ⟨g4, e4, f4, q4, p4⟩ := r_shifts g3 (a0 := 194) (g0 := 6) (n := 3) (by omega) (by omega)
  obtain ⟨g5, e5, f5, q5, p5⟩ := r_shifts g4 (a0 := 195) (g0 := 6) (n := 3) (by omega) (by omega)
  obtain ⟨g6, e6, f6, q6, p6⟩ := r_shifts g5 (a0 := 196) (g0 := 12) (n := 6) (by omega) (by omega)
  obtain ⟨g7, e7, f7, q7, p7⟩ := r_shifts g6 (a0 := 197) (g0 := 12) (n := 6) (by omega) (by omega)
  obtain ⟨g8, e8, f8, q8, p8⟩ := r_shifts g7 (a0 := 198) (g0 := 12) (n := 6) (by omega) (by omega)
  obtain ⟨g9, e9, f9, q9, p9⟩ := r_shifts g8 (a0 := 199) (g0 := 24) (n := 12) (by omega) (by omega)
  obtain ⟨g10, e10, f10, q10, p10⟩ := r_shifts g9 (a0 := 202) (g0 := 2000) (n := 1000) (by omega) (by omega)
  have c200 : g10.1 200 = h.1 200 := by rw [fr_at f10 (by omega), fr_at f9 (by omega), fr_at f8 (by omega), fr_at f7 (by omega), fr_at f6 (by omega), fr_at f5 (by omega), fr_at f4 (by omega), fr_at f3 (by omega), fr_at f2 (by omega), fr_at f1 (by omega), fr_at f0 (by omega)]
  have c201 : g10.1 201 = h.1 201 := by rw [fr_at f10 (by omega), fr_at f9 (by omega), fr_at f8 (by omega), fr_at f7 (by omega), fr_at f6 (by omega), fr_at f5 (by omega), fr_at f4 (by omega), fr_at f3 (by omega), fr_at f2 (by omega), fr_at f1 (by omega), fr_at f0 (by omega)]
  have c202 : ∀ j, j < 1000 → g10.1 202 j = h.1 202 (1000 + j) := fun j hj => by rw [q10, if_pos hj, fr_at f9 (by omega), fr_at f8 (by omega), fr_at f7 (by omega), fr_at f6 (by omega), fr_at f5 (by omega), fr_at f4 (by omega), fr_at f3 (by omega), fr_at f2 (by omega), fr_at f1 (by omega), fr_at f0 (by omega)]
  have c190 : ∀ j, j < 3 → g10.1 190 j = h.1 190 (3 + j) := fun j hj => by rw [fr_at f10 (by omega), fr_at f9 (by omega), fr_at f8 (by omega), fr_at f7 (by omega), fr_at f6 (by omega), fr_at f5 (by omega), fr_at f4 (by omega), fr_at f3 (by omega), fr_at f2 (by omega), fr_at f1 (by omega), q0, if_pos hj]
  have c191 : ∀ j, j < 3 → g10.2 191 j = h.2 191 (3 + j) := fun j hj => by rw [(f10 191 (by omega)).2, (f9 191 (by omega)).2, (f8 191 (by omega)).2, (f7 191 (by omega)).2, (f6 191 (by omega)).2, (f5 191 (by omega)).2, (f4 191 (by omega)).2, (f3 191 (by omega)).2, (f2 191 (by omega)).2, q1, if_pos hj, (f0 191 (by omega)).2]
  have c192 : ∀ j, j < 6 → g10.2 192 j = h.2 192 (6 + j) := fun j hj => by rw [(f10 192 (by omega)).2, (f9 192 (by omega)).2, (f8 192 (by omega)).2, (f7 192 (by omega)).2, (f6 192 (by omega)).2, (f5 192 (by omega)).2, (f4 192 (by omega)).2, (f3 192 (by omega)).2, q2, if_pos hj, (f1 192 (by omega)).2, (f0 192 (by omega)).2]
  have c193 : ∀ j, j < 3 → g10.1 193 j = h.1 193 (3 + j) := fun j hj => by rw [fr_at f10 (by omega), fr_at f9 (by omega), fr_at f8 (by omega), fr_at f7 (by omega), fr_at f6 (by omega), fr_at f5 (by omega), fr_at f4 (by omega), q3, if_pos hj, fr_at f2 (by omega), fr_at f1 (by omega), fr_at f0 (by omega)]
  have c194 : ∀ j, j < 3 → g10.1 194 j = h.1 194 (3 + j) := fun j hj => by rw [fr_at f10 (by omega), fr_at f9 (by omega), fr_at f8 (by omega), fr_at f7 (by omega), fr_at f6 (by omega), fr_at f5 (by omega), q4, if_pos hj, fr_at f3 (by omega), fr_at f2 (by omega), fr_at f1 (by omega), fr_at f0 (by omega)]
  have c195 : ∀ j, j < 3 → g10.1 195 j = h.1 195 (3 + j) := fun j hj => by rw [fr_at f10 (by omega), fr_at f9 (by omega), fr_at f8 (by omega), fr_at f7 (by omega), fr_at f6 (by omega), q5, if_pos hj, fr_at f4 (by omega), fr_at f3 (by omega), fr_at f2 (by omega), fr_at f1 (by omega), fr_at f0 (by omega)]
  have c196 : ∀ j, j < 6 → g10.1 196 j = h.1 196 (6 + j) := fun j hj => by rw [fr_at f10 (by omega), fr_at f9 (by omega), fr_at f8 (by omega), fr_at f7 (by omega), q6, if_pos hj, fr_at f5 (by omega), fr_at f4 (by omega), fr_at f3 (by omega), fr_at f2 (by omega), fr_at f1 (by omega), fr_at f0 (by omega)]
  have c197 : ∀ j, j < 6 → g10.1 197 j = h.1 197 (6 + j) := fun j hj => by rw [fr_at f10 (by omega), fr_at f9 (by omega), fr_at f8 (by omega), q7, if_pos hj, fr_at f6 (by omega), fr_at f5 (by omega), fr_at f4 (by omega), fr_at f3 (by omega), fr_at f2 (by omega), fr_at f1 (by omega), fr_at f0 (by omega)]
  have c198 : ∀ j, j < 6 → g10.1 198 j = h.1 198 (6 + j) := fun j hj => by rw [fr_at f10 (by omega), fr_at f9 (by omega), q8, if_pos hj, fr_at f7 (by omega), fr_at f6 (by omega), fr_at f5 (by omega), fr_at f4 (by omega), fr_at f3 (by omega), fr_at f2 (by omega), fr_at f1 (by omega), fr_at f0 (by omega)]
  have c199 : ∀ j, j < 12 → g10.1 199 j = h.1 199 (12 + j) := fun j hj => by rw [fr_at f10 (by omega), q9, if_pos hj, fr_at f8 (by omega), fr_at f7 (by omega), fr_at f6 (by omega), fr_at f5 (by omega), fr_at f4 (by omega), fr_at f3 (by omega), fr_at f2 (by omega), fr_at f1 (by omega), fr_at f0 (by omega)]
  have fA : fr (fun c => 190 ≤ c ∧ c ≤ 202) h g10 := fr_tr (fr_mono f0 (fun c q => by omega)) (fr_tr (fr_mono f1 (fun c q => by omega)) (fr_tr (fr_mono f2 (fun c q => by omega)) (fr_tr (fr_mono f3 (fun c q => by omega)) (fr_tr (fr_mono f4 (fun c q => by omega)) (fr_tr (fr_mono f5 (fun c q => by omega)) (fr_tr (fr_mono f6 (fun c q => by omega)) (fr_tr (fr_mono f7 (fun c q => by omega)) (fr_tr (fr_mono f8 (fun c q => by omega)) (fr_tr (fr_mono f9 (fun c q => by omega)) (fr_mono f10 (fun c q => by omega)))))))))))
  have hn : ∃ n, h.1 200 1 = nI 1000 ∧ h.1 201 1 = nI (1000 + n) ∧ n ≤ 1000 := by
    cases W with
    | none => exact ⟨0, hw.1, hw.2.1, by omega⟩
    | some x => exact ⟨x.2.2.1.length, hw.1, hw.2.1, hw.2.2.2.1⟩
  obtain ⟨n, n0, n1, n2⟩ := hn
  have x0 : g10.1 200 1 = nI 1000 := by rw [c200]; exact n0
  have x1 : g10.1 201 1 = nI (1000 + n) := by rw [c201]; exact n1
  have fB : fr (fun c => c = 200 ∨ c = 201) g10 (wuI (wuI g10 200 0 (nI 0)) 201 0 (nI n)) := fr_tr (fr_wuI (Or.inl rfl)) (fr_wuI (Or.inr rfl))
  refine ⟨wuI (wuI g10 200 0 (nI 0)) 201 0 (nI n), ?_, ?_, fr_tr fA (fr_mono fB (fun c q => by omega))⟩
  · have s0 : nI 1000 - nI 1000 = nI 0 := by rw [pk_sub (Nat.le_refl _)]
    have s1 : nI (1000 + n) - nI 1000 = nI n := by rw [pk_sub (by omega), Nat.add_sub_cancel_left]
    have x2 : (wuI g10 200 0 (nI 0)).1 201 1 = nI (1000 + n) := by rw [wuc (by omega)]; exact x1
    unfold fX11_lays
    rw [show (3 : Int32) = nI 3 from rfl, show (6 : Int32) = nI 6 from rfl, show (12 : Int32) = nI 12 from rfl, show (1000 : Int32) = nI 1000 from rfl]
    rw [e0, Option.bind_some, e1, Option.bind_some, e2, Option.bind_some, e3, Option.bind_some, e4, Option.bind_some, e5, Option.bind_some, e6, Option.bind_some, e7, Option.bind_some, e8, Option.bind_some, e9, Option.bind_some, e10, Option.bind_some]
    unfold wlet
    rw [x0, s0]
    dsimp only
    rw [x2, s1]
  · obtain ⟨d1, d2, d3, d4, d5, d6⟩ := hD
    unfold ML
    simp only [F_ns, F_nt, F_nd, F_ln, F_tk, F_ho, F_kd, F_ga, F_tl, F_dm, F_nm, F_sh]
    refine ⟨?_, ?_, ?_, fun i hi => ?_, fun t ht => ?_, fun i hi => ?_, ?_⟩
    · rw [fr_at fB (by omega), c190 0 (by omega)]; exact d1
    · rw [fr_at fB (by omega), c190 1 (by omega)]; exact d2
    · rw [fr_at fB (by omega), c190 2 (by omega)]; exact d3
    · have hi : i < gns D := hi
      have m := hW.1
      rw [fr_at fB (by omega), fr_at fB (by omega), fr_at fB (by omega), (fB 191 (by omega)).2, c193 i (by omega), c194 i (by omega), c195 i (by omega), c191 i (by omega)]
      exact d4 i hi
    · have ht : t < gnt D := ht
      have m := hW.2.1
      rw [fr_at fB (by omega), fr_at fB (by omega), fr_at fB (by omega), (fB 192 (by omega)).2, c196 t (by omega), c197 t (by omega), c198 t (by omega), c192 t (by omega)]
      exact d5 t ht
    · have hi : i < gnd D := hi
      have m := hW.2.2.1
      rw [fr_at fB (by omega), c199 i (by omega)]
      exact d6 i hi
    · intro _
      have y0 : (wuI (wuI g10 200 0 (nI 0)) 201 0 (nI n)).1 200 0 = nI 0 := by rw [wuc (by omega), wu1]
      cases W with
      | none =>
        have hn0 : n = 0 := by
          have := hw.2.1
          rw [n1] at this
          have := (nI_eq (by omega) (by omega)).mp this
          omega
        rw [gwv_n]
        exact LawR_0 (by rw [y0, wu1, hn0])
      | some x =>
        obtain ⟨a1, a2, a3, a4, a5⟩ := hw
        have hn0 : n = x.2.2.1.length := by
          rw [n1] at a2
          have := (nI_eq (by omega) (by omega)).mp a2
          omega
        rw [gwv_s]
        exact LawR_of (rs := x.2.2.1) y0 (by rw [wu1, hn0]) (fun j hj => by rw [fr_at fB (by omega), c202 j (by omega)]; exact a5 j hj) a4 a3 (hv x rfl).2
end G89

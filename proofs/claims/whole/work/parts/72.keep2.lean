/-! THE DRAFT STAYS WELL, by the ghosts -/
section G72
variable {T : gTp} {b : Nat} {D : gLib}
theorem gS1_W (hb : b ≤ T.1) (q : (gS1 D T (b, 0)).2 = 0) : WN (gTw T (nx T (b, 0)).1) := by
  have en : nx T (b, 0) = (gTe T b, 0) := by unfold nx; rfl
  unfold gS1 gNew at q
  rw [nx_2] at q
  by_cases hq : gNa T (nx T (b, 0)).1 = true
  · have hk := gNa_1 hq
    rw [en] at hk ⊢
    exact gTw_W (gTe_b hb).2.1 hk
  · rw [if_neg hq] at q
    exact absurd q (fl_ne (by omega))
theorem gSk_W (hW : WL D) (hb : b ≤ T.1) (q : (gSk D T (b, 0)).1.2 = 0) : WL (gSk D T (b, 0)).2 := by
  by_cases hn : gns D < 3
  · rw [gSk_s hn] at q ⊢
    dsimp only at q ⊢
    obtain ⟨q5, ⟨q4, t4, l4, u4⟩, q3, ⟨q2, t2, l2, u2⟩, q1⟩ := gS5_0 q
    exact WL_sk hW hn ⟨l2, u2⟩ ⟨l4, u4⟩ (gS1_W hb q1)
  · rw [gSk_f hn] at q
    dsimp only at q
    exact absurd q (fl_ne (by omega))
theorem gTx_W (hW : WL D) (hb : b ≤ T.1) (q : (gTx D T (b, 0)).1.2 = 0) : WL (gTx D T (b, 0)).2 := by
  by_cases hn : gnt D < 6
  · rw [gTx_s hn] at q ⊢
    dsimp only at q ⊢
    obtain ⟨q5, ⟨q4, t4, l4, u4⟩, q3, q2, q1⟩ := gU5_0 q
    have p2 := q2
    unfold gU2 at p2
    obtain ⟨-, i, hi⟩ := gTq_2 p2
    have hi3 := gKd_lt hi
    refine WL_tx hW hn (by rw [hi]; exact hi3) ?_ ⟨l4, u4⟩ (gS1_W hb q1)
    unfold gIk
    split
    · exact Nat.le_refl 1
    · split
      · exact Nat.zero_le 1
      · exact Nat.zero_le 1
  · rw [gTx_f hn] at q
    dsimp only at q
    exact absurd q (fl_ne (by omega))
end G72

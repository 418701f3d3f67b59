/-! THE WORDS OF THE THROW -/
abbrev xE : String := "java/util/NoSuchElementException"
abbrev xN : List String := ["java/lang/RuntimeException", "java/lang/Exception"]
abbrev xB : List Cond := [Cond.castable xE xE, Cond.declares ⟨"java/lang/RuntimeException", "<init>", "()V"⟩, Cond.declares ⟨"java/lang/Exception", "<init>", "()V"⟩, Cond.declares ⟨"java/lang/Throwable", "<init>", "()V"⟩]
theorem x_ng : ∀ w ∈ (vx_at0 RX10 295 xE xN).filter (fun w => !goodWord w), w ∈ xB := by decide +kernel
theorem x_Bt : ∀ w ∈ xB, w ∈ lw_tbl := by decide +kernel
theorem x_ot : ∀ w ∈ Cond.classLink RX10 293 xE :: Cond.initialized xE :: vx_at0 RX10 295 xE xN, vx_ot w = true := by decide +kernel
theorem x_tbl : ∀ w ∈ vx_at0 RX10 295 xE xN, w ∈ lw_tbl := by decide +kernel
theorem x_T0 : ∀ w ∈ (vx_at0 RX10 295 xE xN).filter goodWord, w ∈ wT0 := fun w h => wT0_in (x_tbl w (List.mem_filter.mp h).1) (List.mem_filter.mp h).2
theorem x_k : Cond.classLink RX10 293 xE ∈ wT0 := wT0_in (by decide +kernel) (by decide +kernel)
theorem x_i : Cond.initialized xE ∈ wT0 := wT0_in (by decide +kernel) (by decide +kernel)
theorem x_lk : Cond.classLink RL 13 xE ∈ wT0 := wT0_in (by decide +kernel) (by decide +kernel)
theorem x_cast : Cond.castable xE xE ∈ lw_tbl := by decide +kernel
theorem x_l1 : Cond.laysStatic Bundle.tN "UNASSIGNED_STACK" Bundle.steD ∈ lw_tbl := by decide +kernel
theorem x_l2 : Cond.laysStatic Bundle.tN "SUPPRESSED_SENTINEL" Bundle.listD ∈ lw_tbl := by decide +kernel
theorem x_l3 : Cond.initialized Bundle.tN ∈ lw_tbl := by decide +kernel
theorem x_s1 : Cond.isRef (.static Bundle.tN "UNASSIGNED_STACK" Bundle.steD) ∈ wN1 := by decide +kernel
theorem x_s2 : Cond.isRef (.static Bundle.tN "SUPPRESSED_SENTINEL" Bundle.listD) ∈ wN1 := by decide +kernel
theorem x_cR : Cond.code yX10_rests cX10_rests 9 (some .int) ∈ wT0 := wT0_in (by decide +kernel) (by decide +kernel)
theorem x_lR : Cond.methodLink RL 7 yX10_rests ∈ wT0 := wT0_in (by decide +kernel) (by decide +kernel)
theorem x_iR : Cond.instanceMethod yX10_rests ∈ wT0 := wT0_in (by decide +kernel) (by decide +kernel)
theorem x_sR : Cond.selects RX10 yX10_rests yX10_rests ∈ wT0 := wT0_in (by decide +kernel) (by decide +kernel)
theorem x_nR : Cond.initialized RX10 ∈ wT0 := wT0_in (by decide +kernel) (by decide +kernel)
theorem x_cL : Cond.codeWith yL_rests cL_rests 7 (some .int) [(0, 14, 17, 13)] ∈ wT0 := wT0_in (by decide +kernel) (by decide +kernel)
theorem x_sL : Cond.static yL_rests ∈ wT0 := wT0_in (by decide +kernel) (by decide +kernel)
theorem x_nL : Cond.initialized RL ∈ wT0 := wT0_in (by decide +kernel) (by decide +kernel)

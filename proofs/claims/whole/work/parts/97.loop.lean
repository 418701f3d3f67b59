/-! THE LAW'S LOOP -/
section WX97
variable {p : Program} {l : Launch} {e : Env} {s : State} {m : MethodId} {below : List Frame} {meth : Method} {c : Code} {D : va_G} {dA : Nat → ClassId} {ad : Nat → Nat} {b : Nat} {L : Nat} {xs : Nat → Int32}
theorem law_exit (X : wCx p s m #[Value.ref b] meth c RL cL_law 7 D dA s.heap.size ad) (hr : meth.sig.returnType = ret) {ck cn : Nat} {h : wSt} (h1 : ck ≤ 600128) (h2 : cn ≤ 7301098) : wM p l e room_1 s m #[Value.ref b] below meth c ck cn (lw_Z below #[Value.ref b] s) 7 D dA s.heap.size ad S0 1483 [none, none, none, none, none, none, none] [] h := by
  refine w_iconst X dL_law_1483 rfl ci_1 ?_
  intro H locs arr hP hD hS hL
  refine W.widen h1 h2 ?_
  exact fun T hT Y => lw_ret X.1 X.2.1 hr X.2.2.2.2.2.2.2.1 dL_law_1484 T hT (Stand.forget (locs := []) Y (fun q hq => hS.2.2 q hq))
theorem law_loop (X : wCx p s m #[Value.ref b] meth c RL cL_law 7 D dA s.heap.size ad) (hr : meth.sig.returnType = ret) (hl : l.stackTraces = false) (hZ1 : vx_Zq Bundle.tN "UNASSIGNED_STACK" Bundle.steD (wA s.heap.size) s s.heap) (hZ2 : vx_Zq Bundle.tN "SUPPRESSED_SENTINEL" Bundle.listD (wA s.heap.size) s s.heap) (hB : ∀ w ∈ xB, va_Nw w s) (hsc : wSc s ad s.heap.size L xs) (hL : L ≤ 448) : ∀ (f i k ck cn : Nat) (h : wSt), Inv k h → i ≤ 448 → L < i + 7 * f + 7 → k + f ≤ 1000 → ck + f + 10 ≤ 600128 → cn + 8 * f + 100 ≤ 7301098 → wM p l e room_1 s m #[Value.ref b] below meth c ck cn (lw_Z below #[Value.ref b] s) 7 D dA s.heap.size ad S0 23 [some (.ref 99999), some (.ref 0), some (.ref 188), some (.ref 233), some (.int (nI i)), none, none] [] h := by
  have ex : ∀ (i ck cn : Nat) (h : wSt), i ≤ 448 → L < i + 7 → ck + 10 ≤ 600128 → cn + 100 ≤ 7301098 → wM p l e room_1 s m #[Value.ref b] below meth c ck cn (lw_Z below #[Value.ref b] s) 7 D dA s.heap.size ad S0 23 [some (.ref 99999), some (.ref 0), some (.ref 188), some (.ref 233), some (.int (nI i)), none, none] [] h := by
    intro i ck cn h hi hq h1 h2
    have c0 : (Int32.ofNat L - 7) < nI i := by rw [law_end hL (by omega)]; exact hq
    have hf : wok (fL_law_l23 h xs L (nI i)) (fun z => z = .inr h) := ⟨.inr h, by unfold fL_law_l23; rw [if_pos c0], rfl⟩
    exact pL_law_l23b X hr hsc ⟨by show 200 ≤ 2048; omega, by show 13000 ≤ 84000; omega, h1, h2⟩ (K := fun z => z = .inr h) (by intro _ _ q; cases q) (fun nh _ => law_exit X hr (by omega) (by omega)) hf
  intro f
  induction f with
  | zero => exact fun i k ck cn h hI hi hq _ h1 h2 => ex i ck cn h hi (by omega) (by omega) (by omega)
  | succ f ih =>
    intro i k ck cn h hI hi hq hk h1 h2
    by_cases q : L < i + 7
    · exact ex i ck cn h hi q (by omega) (by omega)
    have hR : 200 ≤ room_1.frames ∧ 13000 ≤ room_1.locals ∧ ck + 10 ≤ room_1.cells ∧ cn + 100 ≤ room_1.slots := ⟨by show 200 ≤ 2048; omega, by show 13000 ≤ 84000; omega, by show ck + 10 ≤ 600128; omega, by show cn + 100 ≤ 7301098; omega⟩
    have c0 : ¬ (Int32.ofNat L - 7) < nI i := by rw [law_end hL (by omega)]; exact q
    have g0 : wib (nI i) L := of_eq_true (wib_t (by omega) (by omega))
    have g1 : wib (nI i + 1) L := law_in (j := 1) hL (by omega) (by omega)
    have g2 : wib (nI i + 2) L := law_in (j := 2) hL (by omega) (by omega)
    have g3 : wib (nI i + 3) L := law_in (j := 3) hL (by omega) (by omega)
    have g4 : wib (nI i + 4) L := law_in (j := 4) hL (by omega) (by omega)
    have g5 : wib (nI i + 5) L := law_in (j := 5) hL (by omega) (by omega)
    have g6 : wib (nI i + 6) L := law_in (j := 6) hL (by omega) (by omega)
    have e7 : nI i + 7 = nI (i + 7) := nI_add (a := i) (b := 7)
    by_cases h32 : ((xs (nI i).toNatClampNeg) &&& 63) = 32
    · obtain ⟨res, r2, h3, e1, e2, e3, e4, i3⟩ := op_rests hI (xs (nI i + 1).toNatClampNeg) (xs (nI i + 2).toNatClampNeg) (xs (nI i + 3).toNatClampNeg) (xs (nI i + 4).toNatClampNeg)
      refine pL_law_32 X hl hZ1 hZ2 hB hsc hR c0 g0 g1 g2 g3 g4 h32 e1 e2 e3 e4 ?_
      rw [e7]
      exact ih (i + 7) (k + 1) (ck + 1) (cn + 8) h3 (Inv_mono i3 (Nat.le_succ _)) (by omega) (by omega) (by omega) (by omega) (by omega)
    · obtain ⟨h2', e2, i2⟩ := law_step hI (by omega) c0 g0 g1 g2 g3 g4 g5 g6 h32
      refine pL_law_l23b X hr hsc hR (K := fun z => z = .inl (nI i + 7, h2')) (fun n4 nh z => ?_) (by intro _ z; cases z) ⟨_, e2, rfl⟩
      cases z
      rw [e7]
      exact ih (i + 7) (k + 1) (ck + 1) (cn + 8) h2' i2 (by omega) (by omega) (by omega) (by omega) (by omega)
end WX97

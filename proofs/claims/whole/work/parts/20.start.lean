theorem wd_26 : (Jvm.Cond.instantiable "WornSkin" (12 : Nat)) ∈ wT0 := wT0_in (List.mem_append_right _ (List.mem_of_getElem? (i := 26) (by decide +kernel))) rfl
theorem wd_1169 : (Jvm.Cond.instantiable "WornSkinModel" (59 : Nat)) ∈ wT0 := wT0_in (List.mem_append_right _ (List.mem_of_getElem? (i := 1169) (by decide +kernel))) rfl
theorem wd_25 : (Jvm.Cond.classLink "WornSkinLaw" (8 : Nat) "WornSkin") ∈ wT0 := wT0_in (List.mem_append_right _ (List.mem_of_getElem? (i := 25) (by decide +kernel))) rfl
theorem wd_1168 : (Jvm.Cond.classLink "WornSkinLaw" (16 : Nat) "WornSkinModel") ∈ wT0 := wT0_in (List.mem_append_right _ (List.mem_of_getElem? (i := 1168) (by decide +kernel))) rfl
theorem wd_29 : (Jvm.Cond.code ({ cls := "WornSkin", name := "<init>", desc := "()V" } : Jvm.MethodName) prog_1_method_1_code (2 : Nat) (Option.none : Option Jvm.ClassFile.FieldType)) ∈ wT0 := wT0_in (List.mem_append_right _ (List.mem_of_getElem? (i := 29) (by decide +kernel))) rfl
theorem wd_27 : (Jvm.Cond.methodLink "WornSkinLaw" (15 : Nat) ({ cls := "WornSkin", name := "<init>", desc := "()V" } : Jvm.MethodName)) ∈ wT0 := wT0_in (List.mem_append_right _ (List.mem_of_getElem? (i := 27) (by decide +kernel))) rfl
theorem wd_28 : (Jvm.Cond.instanceMethod ({ cls := "WornSkin", name := "<init>", desc := "()V" } : Jvm.MethodName)) ∈ wT0 := wT0_in (List.mem_append_right _ (List.mem_of_getElem? (i := 28) (by decide +kernel))) rfl
theorem wd_1172 : (Jvm.Cond.code ({ cls := "WornSkinModel", name := "<init>", desc := "()V" } : Jvm.MethodName) prog_13_method_1_code (1 : Nat) (Option.none : Option Jvm.ClassFile.FieldType)) ∈ wT0 := wT0_in (List.mem_append_right _ (List.mem_of_getElem? (i := 1172) (by decide +kernel))) rfl
theorem wd_1170 : (Jvm.Cond.methodLink "WornSkinLaw" (18 : Nat) ({ cls := "WornSkinModel", name := "<init>", desc := "()V" } : Jvm.MethodName)) ∈ wT0 := wT0_in (List.mem_append_right _ (List.mem_of_getElem? (i := 1170) (by decide +kernel))) rfl
theorem wd_1171 : (Jvm.Cond.instanceMethod ({ cls := "WornSkinModel", name := "<init>", desc := "()V" } : Jvm.MethodName)) ∈ wT0 := wT0_in (List.mem_append_right _ (List.mem_of_getElem? (i := 1171) (by decide +kernel))) rfl
theorem il_L_15 : wIl RL 15 yX10_init cX10_init 2 0 := ⟨by decide +kernel, wd_29, Or.inl wd_27, wd_28, wd_1, rfl⟩
theorem il_L_18 : wIl RL 18 yX11_init cX11_init 1 0 := ⟨by decide +kernel, wd_1172, Or.inl wd_1170, wd_1171, wd_12, rfl⟩

theorem w_arr {args : Array Value} {s : State} {ty : FieldType} (h : (Cond.arrayClass ty).before args s = true) : ∃ cA : ClassId, ArrOfT s cA ty ∧ s.vm.findClass ("[" ++ ty.toString) = some cA := by
  obtain ⟨cA, kA, comp, h1, h2, h3⟩ := Cond.arrayClass_spec h
  exact ⟨cA, fun n z => ⟨fun k h => (by cases h), kA, h2, comp, h3⟩, h1⟩
theorem w_arrO {s : State} {C : String} (h : va_AO C s) : ∃ cA : ClassId, ArrOfT s cA (.object C) ∧ va_RA s cA (.object C) := by
  obtain ⟨comp, cA, kA, h1, h2, h3, h4, h5⟩ := Cond.arrayOver_spec h
  exact ⟨cA, fun n z => ⟨fun k h => (by cases h), kA, h3, comp, h4⟩, kA, comp, h3, h4, h1, h5⟩
/-- the tables' words give the classes and the arrays' classes -/
theorem w_known {args : Array Value} {s : State} (hts : ∀ w ∈ wT0, w.before args s = true) (hN : wNw s) : ∃ (D : va_G) (dA : Nat → ClassId), va_K D vwCl (wTy dA) s := by
  obtain ⟨c0, i0, k0⟩ := u_known (C := RX0) (T := TX0) (N := 4) (n := 4) hts wcl_0 (hts _ wd_286)
  obtain ⟨c1, i1, k1⟩ := u_known (C := RX1) (T := TX1) (N := 1) (n := 1) hts wcl_1 (hts _ wd_275)
  obtain ⟨c2, i2, k2⟩ := u_known (C := RX2) (T := TX2) (N := 4) (n := 4) hts wcl_2 (hts _ wd_78)
  obtain ⟨c3, i3, k3⟩ := u_known (C := RX3) (T := TX3) (N := 7) (n := 7) hts wcl_3 (hts _ wd_245)
  obtain ⟨c4, i4, k4⟩ := u_known (C := RX4) (T := TX4) (N := 13) (n := 13) hts wcl_4 (hts _ wd_72)
  obtain ⟨c5, i5, k5⟩ := u_known (C := RX5) (T := TX5) (N := 5) (n := 5) hts wcl_5 (hts _ wd_202)
  obtain ⟨c6, i6, k6⟩ := u_known (C := RX6) (T := TX6) (N := 6) (n := 6) hts wcl_6 (hts _ wd_157)
  obtain ⟨c7, i7, k7⟩ := u_known (C := RX7) (T := TX7) (N := 8) (n := 8) hts wcl_7 (hts _ wd_34)
  obtain ⟨c8, i8, k8⟩ := u_known (C := RX8) (T := TX8) (N := 3) (n := 3) hts wcl_8 (hts _ wd_225)
  obtain ⟨c9, i9, k9⟩ := u_known (C := RX9) (T := TX9) (N := 2) (n := 2) hts wcl_9 (hts _ wd_187)
  obtain ⟨c10, i10, k10⟩ := u_known (C := RX10) (T := TX10) (N := 12) (n := 12) hts wcl_10 (hts _ wd_26)
  obtain ⟨c11, i11, k11⟩ := u_known (C := RX11) (T := TX11) (N := 59) (n := 59) hts wcl_11 (hts _ wd_1169)
  obtain ⟨dC, dI, hKc⟩ : ∃ (dC : Nat → ClassId) (dI : Nat → Nat → Nat), ∀ (k : Nat) (q : vw_C), vwCl[k]? = some q → u_Kn s q.1 q.2.1 q.2.2 (dC k) (dI k) := by
    refine ⟨fun k => [c0, c1, c2, c3, c4, c5, c6, c7, c8, c9, c10, c11].getD k c0, fun k => [i0, i1, i2, i3, i4, i5, i6, i7, i8, i9, i10, i11].getD k i0, ?_⟩
    intro k q hq
    match k, hq with
    | 0, hq => cases hq; exact k0
    | 1, hq => cases hq; exact k1
    | 2, hq => cases hq; exact k2
    | 3, hq => cases hq; exact k3
    | 4, hq => cases hq; exact k4
    | 5, hq => cases hq; exact k5
    | 6, hq => cases hq; exact k6
    | 7, hq => cases hq; exact k7
    | 8, hq => cases hq; exact k8
    | 9, hq => cases hq; exact k9
    | 10, hq => cases hq; exact k10
    | 11, hq => cases hq; exact k11
    | k + 12, hq => simp [vwCl] at hq
  obtain ⟨a0, q0, r0⟩ := w_arr (hts _ wd_97)
  obtain ⟨a1, q1, r1⟩ := w_arr (hts _ wd_70)
  obtain ⟨a2, q2, r2⟩ := w_arr (hts _ wd_1352)
  obtain ⟨a3, q3, r3⟩ := w_arr (hts _ wd_96)
  obtain ⟨a4, q4, r4⟩ := w_arrO hN.2.1
  obtain ⟨a5, q5, r5⟩ := w_arrO hN.2.2
  refine ⟨(dC, dI), fun k => [a0, a1, a2, a3, a4, a5].getD k a0, hKc, fun k q hq => ?_⟩
  match k, hq with
  | 0, hq => cases hq; exact ⟨q0, r0⟩
  | 1, hq => cases hq; exact ⟨q1, r1⟩
  | 2, hq => cases hq; exact ⟨q2, r2⟩
  | 3, hq => cases hq; exact ⟨q3, r3⟩
  | 4, hq => cases hq; exact ⟨q4, r4⟩
  | 5, hq => cases hq; exact ⟨q5, r5⟩
  | k + 6, hq => simp [wTy] at hq
/-- the whole shape -/
theorem sX_all : wap (sX11 (wap (sX10 [(16, 0, [(3, 0), (3, 0), (3, 0), (3, 0), (3, 0), (3, 0), (3, 0), (3, 0), (3, 0), (3, 0), (3, 0), (3, 0)])] 1 0) (17, 0, [(0, 0), (0, 0), (3, 0), (0, 0), (0, 0), (0, 0), (0, 0), (1, 0), (0, 0), (0, 0), (3, 0), (3, 0), (3, 0), (3, 0), (3, 0), (3, 0), (3, 0), (3, 0), (3, 0), (3, 0), (3, 0), (3, 0), (3, 0), (0, 0), (3, 0), (3, 0), (3, 0), (3, 0), (3, 0), (3, 0), (3, 0), (3, 0), (3, 0), (3, 0), (3, 0), (3, 0), (0, 0), (1, 0), (3, 0), (3, 0), (3, 0), (3, 0), (3, 0), (3, 0), (3, 0), (3, 0), (3, 0), (3, 0), (3, 0), (3, 0), (3, 0), (3, 0), (3, 0), (3, 0), (0, 0), (3, 0), (3, 0), (0, 0), (1, 0)])) 189 188) (3, 1, []) = S0 := by decide +kernel
theorem wRf_h {n k : Nat} (h : 99999 ≤ k) : wRf n (.ref k) := Or.inr h
def R_law : String := "WornSkinLaw"
section WLAW
variable {p : Program} {l : Launch} {e : Env} {s : State} {m : MethodId} {below : List Frame} {meth : Method} {c : Code} {D : va_G} {dA : Nat → ClassId} {ad : Nat → Nat} {Q : State → Prop} {b : Nat}
/-- the law's walk up to its loop -/
theorem w_begin (X : wCx p s m #[Value.ref b] meth c RL cL_law 7 D dA s.heap.size ad) (hb : ad 99999 = b)
    (hloop : ∀ ad2 : Nat → Nat, ad2 99999 = b → wCx p s m #[Value.ref b] meth c RL cL_law 7 D dA s.heap.size ad2 → wM p l e room_1 s m #[Value.ref b] below meth c (0 + 1 + 187 + 1 + 44 + 1) (0 + 12 + 4772 + 59 + 4925 + 1) Q 7 D dA s.heap.size ad2 S0 23 [some (.ref 99999), some (.ref 0), some (.ref 188), some (.ref 233), some (.int 0), none, none] [] wz) :
    wM p l e room_1 s m #[Value.ref b] below meth c 0 0 Q 7 D dA s.heap.size ad [] 0 [some (.ref 99999), none, none, none, none, none, none] [] wz := by
  have hw0 : wWf [] := fun c q h => by simp at h
  refine w_newo X (ci := 10) (N := 12) (C := RX10) (T := TX10) (ty := tyX10) (fs := [(3, 0), (3, 0), (3, 0), (3, 0), (3, 0), (3, 0), (3, 0), (3, 0), (3, 0), (3, 0), (3, 0), (3, 0)]) dL_law_0 rfl rfl wcl_10 tyX10_ok wd_25 wd_26 wd_1 (by decide +kernel) (by decide +kernel) hw0 (n := 0) rfl (by omega) (w_rl ⟨wRf_h (by omega), trivial⟩ trivial) ⟨Nat.le_of_ble_eq_true rfl, Nat.le_of_ble_eq_true rfl⟩ (fun ad1 ha1 X => ?_)
  have hw1 : wWf [(16, 0, [(3, 0), (3, 0), (3, 0), (3, 0), (3, 0), (3, 0), (3, 0), (3, 0), (3, 0), (3, 0), (3, 0), (3, 0)])] := wWf_app (S := []) hw0 (by decide)
  refine w_dup X dL_law_3 rfl rfl ?_
  refine w_callI X dL_law_4 rfl il_L_15 (iX10 l (S := [(16, 0, [(3, 0), (3, 0), (3, 0), (3, 0), (3, 0), (3, 0), (3, 0), (3, 0), (3, 0), (3, 0), (3, 0), (3, 0)])]) (n := 1) (k := 0) rfl hw1 rfl (by omega)) (As := []) (st := [.ref 0]) rfl rfl (w_rl ⟨wRf_h (by omega), trivial⟩ ⟨wRf_r (by omega), trivial⟩) (Nat.le_of_ble_eq_true rfl) ⟨Nat.le_of_ble_eq_true rfl, Nat.le_of_ble_eq_true rfl⟩ ⟨Nat.le_of_ble_eq_true rfl, Nat.le_of_ble_eq_true rfl⟩ (fun ad2 ha2 X => ?_)
  have hg1 := gX10 (S := [(16, 0, [(3, 0), (3, 0), (3, 0), (3, 0), (3, 0), (3, 0), (3, 0), (3, 0), (3, 0), (3, 0), (3, 0), (3, 0)])]) (n := 1) (k := 0) rfl hw1 rfl
  generalize hs1 : sX10 [(16, 0, [(3, 0), (3, 0), (3, 0), (3, 0), (3, 0), (3, 0), (3, 0), (3, 0), (3, 0), (3, 0), (3, 0), (3, 0)])] 1 0 = S1 at hg1 ⊢
  refine w_astore_n X dL_law_7 rfl rfl rfl (Nat.le_of_ble_eq_true rfl) (ls' := [some (.ref 99999), some (.ref 0), none, none, none, none, none]) rfl ?_
  refine w_newo X (ci := 11) (N := 59) (C := RX11) (T := TX11) (ty := tyX11) (fs := [(0, 0), (0, 0), (3, 0), (0, 0), (0, 0), (0, 0), (0, 0), (1, 0), (0, 0), (0, 0), (3, 0), (3, 0), (3, 0), (3, 0), (3, 0), (3, 0), (3, 0), (3, 0), (3, 0), (3, 0), (3, 0), (3, 0), (3, 0), (0, 0), (3, 0), (3, 0), (3, 0), (3, 0), (3, 0), (3, 0), (3, 0), (3, 0), (3, 0), (3, 0), (3, 0), (3, 0), (0, 0), (1, 0), (3, 0), (3, 0), (3, 0), (3, 0), (3, 0), (3, 0), (3, 0), (3, 0), (3, 0), (3, 0), (3, 0), (3, 0), (3, 0), (3, 0), (3, 0), (3, 0), (0, 0), (3, 0), (3, 0), (0, 0), (1, 0)]) dL_law_8 rfl rfl wcl_11 tyX11_ok wd_1168 wd_1169 wd_12 (by decide +kernel) (by decide +kernel) hg1.2.2.1 hg1.1 (by omega) (w_rl ⟨wRf_h (by omega), wRf_r (by omega), trivial⟩ trivial) ⟨Nat.le_of_ble_eq_true rfl, Nat.le_of_ble_eq_true rfl⟩ (fun ad3 ha3 X => ?_)
  have hw2 : wWf (S1 ++ [(17, 0, [(0, 0), (0, 0), (3, 0), (0, 0), (0, 0), (0, 0), (0, 0), (1, 0), (0, 0), (0, 0), (3, 0), (3, 0), (3, 0), (3, 0), (3, 0), (3, 0), (3, 0), (3, 0), (3, 0), (3, 0), (3, 0), (3, 0), (3, 0), (0, 0), (3, 0), (3, 0), (3, 0), (3, 0), (3, 0), (3, 0), (3, 0), (3, 0), (3, 0), (3, 0), (3, 0), (3, 0), (0, 0), (1, 0), (3, 0), (3, 0), (3, 0), (3, 0), (3, 0), (3, 0), (3, 0), (3, 0), (3, 0), (3, 0), (3, 0), (3, 0), (3, 0), (3, 0), (3, 0), (3, 0), (0, 0), (3, 0), (3, 0), (0, 0), (1, 0)])]) := wWf_app hg1.2.2.1 (by decide +kernel)
  have hn2 : (S1 ++ [(17, 0, [(0, 0), (0, 0), (3, 0), (0, 0), (0, 0), (0, 0), (0, 0), (1, 0), (0, 0), (0, 0), (3, 0), (3, 0), (3, 0), (3, 0), (3, 0), (3, 0), (3, 0), (3, 0), (3, 0), (3, 0), (3, 0), (3, 0), (3, 0), (0, 0), (3, 0), (3, 0), (3, 0), (3, 0), (3, 0), (3, 0), (3, 0), (3, 0), (3, 0), (3, 0), (3, 0), (3, 0), (0, 0), (1, 0), (3, 0), (3, 0), (3, 0), (3, 0), (3, 0), (3, 0), (3, 0), (3, 0), (3, 0), (3, 0), (3, 0), (3, 0), (3, 0), (3, 0), (3, 0), (3, 0), (0, 0), (3, 0), (3, 0), (0, 0), (1, 0)])]).length = 189 := by rw [List.length_append, hg1.1]; rfl
  have hk2 : (S1 ++ [(17, 0, [(0, 0), (0, 0), (3, 0), (0, 0), (0, 0), (0, 0), (0, 0), (1, 0), (0, 0), (0, 0), (3, 0), (3, 0), (3, 0), (3, 0), (3, 0), (3, 0), (3, 0), (3, 0), (3, 0), (3, 0), (3, 0), (3, 0), (3, 0), (0, 0), (3, 0), (3, 0), (3, 0), (3, 0), (3, 0), (3, 0), (3, 0), (3, 0), (3, 0), (3, 0), (3, 0), (3, 0), (0, 0), (1, 0), (3, 0), (3, 0), (3, 0), (3, 0), (3, 0), (3, 0), (3, 0), (3, 0), (3, 0), (3, 0), (3, 0), (3, 0), (3, 0), (3, 0), (3, 0), (3, 0), (0, 0), (3, 0), (3, 0), (0, 0), (1, 0)])])[188]? = some (17, 0, [(0, 0), (0, 0), (3, 0), (0, 0), (0, 0), (0, 0), (0, 0), (1, 0), (0, 0), (0, 0), (3, 0), (3, 0), (3, 0), (3, 0), (3, 0), (3, 0), (3, 0), (3, 0), (3, 0), (3, 0), (3, 0), (3, 0), (3, 0), (0, 0), (3, 0), (3, 0), (3, 0), (3, 0), (3, 0), (3, 0), (3, 0), (3, 0), (3, 0), (3, 0), (3, 0), (3, 0), (0, 0), (1, 0), (3, 0), (3, 0), (3, 0), (3, 0), (3, 0), (3, 0), (3, 0), (3, 0), (3, 0), (3, 0), (3, 0), (3, 0), (3, 0), (3, 0), (3, 0), (3, 0), (0, 0), (3, 0), (3, 0), (0, 0), (1, 0)]) := w_apn hg1.1
  refine w_dup X dL_law_11 rfl rfl ?_
  refine w_callI X dL_law_12 rfl il_L_18 (iX11 l hn2 hw2 hk2 (by omega)) (As := []) (st := [.ref 188]) rfl rfl (w_rl ⟨wRf_h (by omega), wRf_r (by omega), trivial⟩ ⟨wRf_r (by omega), trivial⟩) (Nat.le_of_ble_eq_true rfl) ⟨Nat.le_of_ble_eq_true rfl, Nat.le_of_ble_eq_true rfl⟩ ⟨Nat.le_of_ble_eq_true rfl, Nat.le_of_ble_eq_true rfl⟩ (fun ad4 ha4 X => ?_)
  have hg2 := gX11 hn2 hw2 hk2
  generalize hs2 : sX11 (S1 ++ [(17, 0, [(0, 0), (0, 0), (3, 0), (0, 0), (0, 0), (0, 0), (0, 0), (1, 0), (0, 0), (0, 0), (3, 0), (3, 0), (3, 0), (3, 0), (3, 0), (3, 0), (3, 0), (3, 0), (3, 0), (3, 0), (3, 0), (3, 0), (3, 0), (0, 0), (3, 0), (3, 0), (3, 0), (3, 0), (3, 0), (3, 0), (3, 0), (3, 0), (3, 0), (3, 0), (3, 0), (3, 0), (0, 0), (1, 0), (3, 0), (3, 0), (3, 0), (3, 0), (3, 0), (3, 0), (3, 0), (3, 0), (3, 0), (3, 0), (3, 0), (3, 0), (3, 0), (3, 0), (3, 0), (3, 0), (0, 0), (3, 0), (3, 0), (0, 0), (1, 0)])]) 189 188 = S2 at hg2 ⊢
  refine w_astore_n X dL_law_15 rfl rfl rfl (Nat.le_of_ble_eq_true rfl) (ls' := [some (.ref 99999), some (.ref 0), some (.ref 188), none, none, none, none]) rfl ?_
  refine w_iconst X dL_law_16 rfl ci_1 ?_
  refine w_newaJ X dL_law_17 rfl wd_96 (by decide) (N := 1) (by decide) (by decide) hg2.2.2.1 hg2.1 (by omega) (w_rl ⟨wRf_h (by omega), wRf_r (by omega), wRf_r (by omega), trivial⟩ trivial) ⟨Nat.le_of_ble_eq_true rfl, Nat.le_of_ble_eq_true rfl⟩ (fun ad5 ha5 X => ?_)
  have e1 : S2 ++ [(3, 1, [])] = S0 := by
    rw [← hs2, ← hs1]
    exact sX_all
  rw [e1]
  refine w_astore_n X dL_law_19 rfl rfl rfl (Nat.le_of_ble_eq_true rfl) (ls' := [some (.ref 99999), some (.ref 0), some (.ref 188), some (.ref 233), none, none, none]) rfl ?_
  refine w_iconst X dL_law_20 rfl ci_0 ?_
  refine w_istore X dL_law_21 rfl rfl (Nat.le_of_ble_eq_true rfl) (ls' := [some (.ref 99999), some (.ref 0), some (.ref 188), some (.ref 233), some (.int 0), none, none]) rfl ?_
  exact hloop ad5 (by rw [ha5 _ (Or.inr (by omega)), ha4 _ (Or.inr (by omega)), ha3 _ (Or.inr (by omega)), ha2 _ (Or.inr (by omega)), ha1 _ (Or.inr (by omega))]; exact hb) X
end WLAW

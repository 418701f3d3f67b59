def fX11_within (h : wSt) (x0 : Int32) (x1 : Int32) (x2 : Int32) : Option (Bool) :=
if x0 < x1 then
some false
else
if x2 < x0 then
some false
else
some true
def fX11_bits_l4 (h : wSt) (v0 : Int32) (v1 : Int32) (v2 : Int32) : Option ((Int32 × Int32) ⊕ ((Int32))) :=
if 6 ≤ v2 then
some (.inr v1)
else
wlet (v1 + ((v0 >>> (v2 &&& 31)) &&& 1)) (fun yx21 =>
some (.inl (yx21, (v2 + 1))))
def fX11_bits (h : wSt) (x0 : Int32) : Option (Int32) :=
(wit (fun v : (Int32 × Int32) => fX11_bits_l4 h x0 v.1 v.2) 3000 ((0 : Int32), (0 : Int32))).bind (fun ye22 =>
some ye22)
def fX11_deepOf_l4 (h : wSt) (v1 : Int32) (v2 : Int32) : Option ((Int32 × Int32) ⊕ ((Int32))) :=
if v2 ≤ 0 then
some (.inr v1)
else
some (.inl ((v1 + 1), (v2 / 7)))
def fX11_deepOf (h : wSt) (x0 : Int32) : Option (Int32) :=
(wit (fun v : (Int32 × Int32) => fX11_deepOf_l4 h v.1 v.2) 3000 ((0 : Int32), x0)).bind (fun ye21 =>
some ye21)
def fX11_isSkin (h : wSt) (x0 : Int32) : Option (Bool) :=
if x0 < 0 then
some false
else
if (h.1 190 0) ≤ x0 then
some false
else
some true
def fX11_isText (h : wSt) (x0 : Int32) : Option (Bool) :=
if x0 < 0 then
some false
else
if (h.1 190 1) ≤ x0 then
some false
else
some true
def fX11_isLine (h : wSt) (x0 : Int32) (x1 : Int32) : Option (Bool) :=
(fX11_isSkin h x0).bind (fun yr21 =>
if yr21 = true then
if x1 < 0 then
some false
else
if wib x0 6 then
if (h.1 193 x0.toNatClampNeg) ≤ x1 then
some false
else
some true
else none
else
some false)
def fX11_dampOf (h : wSt) (x0 : Int32) : Option (Int32) :=
if (h.1 190 2) = 0 then
some (0 : Int32)
else
if ¬ (h.1 190 2) = 0 then
if wib (x0 - x0 / (h.1 190 2) * (h.1 190 2)) 24 then
some (h.1 199 (x0 - x0 / (h.1 190 2) * (h.1 190 2)).toNatClampNeg)
else none
else none
def fX11_opens (h : wSt) (x0 : Int32) : Option (wSt) :=
if wib x0 7 then
wlet (wuI h 206 x0.toNatClampNeg 0) (fun yh22 =>
wlet (wuI yh22 208 x0.toNatClampNeg 0) (fun yh23 =>
wlet (wuI yh23 209 x0.toNatClampNeg 0) (fun yh24 =>
wlet (wuI yh24 210 x0.toNatClampNeg 20) (fun yh25 =>
wlet (wuI yh25 212 x0.toNatClampNeg 0) (fun yh26 =>
some yh26)))))
else none
def fX11_sums_b45 (h : wSt) (v1 : Int32) (w1 : Int32) (w2 : Int32) : Option (wSt) :=
if wib w1 7 then
wlet (wuI h 209 w1.toNatClampNeg w2) (fun yh23 =>
if wib v1 7 then
wlet (wuI yh23 212 v1.toNatClampNeg 0) (fun yh25 =>
some yh25)
else none)
else none
def fX11_sums (h : wSt) (x0 : Int32) : Option (wSt) :=
if wib x0 7 then
if (h.1 210 x0.toNatClampNeg) = 21 then
fX11_sums_b45 h x0 x0 ((h.1 209 x0.toNatClampNeg) - (h.1 211 x0.toNatClampNeg))
else
fX11_sums_b45 h x0 x0 ((h.1 209 x0.toNatClampNeg) + (h.1 211 x0.toNatClampNeg))
else none
def fX11_tests_b136 (h : wSt) (v1 : Int32) (v2 : Int32) : Option (wSt) :=
if wib v1 7 then
wlet (wuI h 205 v1.toNatClampNeg v2) (fun yh27 =>
wlet (wuI yh27 208 v1.toNatClampNeg 0) (fun yh28 =>
wlet (wuI yh28 209 v1.toNatClampNeg 0) (fun yh29 =>
wlet (wuI yh29 210 v1.toNatClampNeg 20) (fun yh30 =>
some yh30))))
else none
def fX11_tests_b135 (h : wSt) (v1 : Int32) (w0 : Int32) : Option (wSt) :=
fX11_tests_b136 h v1 w0
def fX11_tests_b130 (h : wSt) (v1 : Int32) : Option (wSt) :=
fX11_tests_b135 h v1 (1 : Int32)
def fX11_tests_b106 (h : wSt) (v1 : Int32) (v2 : Int32) : Option (wSt) :=
if wib v1 7 then
if (h.1 206 v1.toNatClampNeg) = 27 then
if (h.1 205 v1.toNatClampNeg) = 0 then
if v2 = 0 then
fX11_tests_b135 h v1 (0 : Int32)
else
fX11_tests_b130 h v1
else
fX11_tests_b130 h v1
else
fX11_tests_b136 h v1 v2
else none
def fX11_tests_b105 (h : wSt) (v1 : Int32) (w0 : Int32) : Option (wSt) :=
fX11_tests_b106 h v1 w0
def fX11_tests_b104 (h : wSt) (v1 : Int32) : Option (wSt) :=
fX11_tests_b105 h v1 (0 : Int32)
def fX11_tests_b76 (h : wSt) (v1 : Int32) (v2 : Int32) : Option (wSt) :=
if wib v1 7 then
if (h.1 206 v1.toNatClampNeg) = 26 then
if (h.1 205 v1.toNatClampNeg) = 0 then
fX11_tests_b104 h v1
else
if v2 = 0 then
fX11_tests_b104 h v1
else
fX11_tests_b105 h v1 (1 : Int32)
else
fX11_tests_b106 h v1 v2
else none
def fX11_tests_b75 (h : wSt) (v1 : Int32) (w0 : Int32) : Option (wSt) :=
fX11_tests_b76 h v1 w0
def fX11_tests_b44 (h : wSt) (v1 : Int32) (v2 : Int32) : Option (wSt) :=
if wib v1 7 then
if (h.1 208 v1.toNatClampNeg) = 25 then
if (h.1 207 v1.toNatClampNeg) = (h.1 209 v1.toNatClampNeg) then
fX11_tests_b75 h v1 (1 : Int32)
else
fX11_tests_b75 h v1 (0 : Int32)
else
fX11_tests_b76 h v1 v2
else none
def fX11_tests_b43 (h : wSt) (v1 : Int32) (w0 : Int32) : Option (wSt) :=
fX11_tests_b44 h v1 w0
def fX11_tests (h : wSt) (x0 : Int32) : Option (wSt) :=
(fX11_sums h x0).bind (fun yr21 =>
if wib x0 7 then
if (yr21.1 208 x0.toNatClampNeg) = 24 then
if (yr21.1 209 x0.toNatClampNeg) ≤ (yr21.1 207 x0.toNatClampNeg) then
fX11_tests_b43 yr21 x0 (0 : Int32)
else
fX11_tests_b43 yr21 x0 (1 : Int32)
else
fX11_tests_b44 yr21 x0 (yr21.1 209 x0.toNatClampNeg)
else none)
def fX11_worked_b329_14 (h : wSt) (v1 : Int32) (v2 : Int32) (v3 : Int32) : Option ((Int32 × Int32 × wSt) ⊕ ((wSt))) :=
some (.inl (v2, (v3 + 1), h))
def fX11_worked_b66_14 (h : wSt) (v1 : Int32) (v2 : Int32) (v3 : Int32) (w1 : Int32) (w2 : Int32) : Option ((Int32 × Int32 × wSt) ⊕ ((wSt))) :=
if wib w1 7 then
wlet (wuI h 213 w1.toNatClampNeg w2) (fun yh26 =>
(fX11_opens yh26 v2).bind (fun yr27 =>
fX11_worked_b329_14 yr27 v1 v2 v3))
else none
def fX11_worked_b46_14 (h : wSt) (v1 : Int32) (v2 : Int32) (v3 : Int32) (v4 : Int32) : Option ((Int32 × Int32 × wSt) ⊕ ((wSt))) :=
if v4 = 30 then
fX11_worked_b66_14 h v1 (v2 + 1) v3 (v2 + 1) (1 : Int32)
else
fX11_worked_b66_14 h v1 (v2 + 1) v3 (v2 + 1) (0 : Int32)
def fX11_worked_b89_14 (h : wSt) (v1 : Int32) (v2 : Int32) (v3 : Int32) (v4 : Int32) : Option ((Int32 × Int32 × wSt) ⊕ ((wSt))) :=
(fX11_sums h v2).bind (fun yr28 =>
if wib v2 7 then
wlet (wuI yr28 210 v2.toNatClampNeg v4) (fun yh30 =>
fX11_worked_b329_14 yh30 v1 v2 v3)
else none)
def fX11_worked_b137_14 (h : wSt) (v1 : Int32) (v2 : Int32) (v3 : Int32) (v4 : Int32) : Option ((Int32 × Int32 × wSt) ⊕ ((wSt))) :=
(fX11_sums h v2).bind (fun yr31 =>
if wib v2 7 then
wlet (wuI yr31 207 v2.toNatClampNeg (yr31.1 209 v2.toNatClampNeg)) (fun yh33 =>
wlet (wuI yh33 208 v2.toNatClampNeg v4) (fun yh34 =>
wlet (wuI yh34 209 v2.toNatClampNeg 0) (fun yh35 =>
wlet (wuI yh35 210 v2.toNatClampNeg 20) (fun yh36 =>
fX11_worked_b329_14 yh36 v1 v2 v3))))
else none)
def fX11_worked_b194_14 (h : wSt) (v1 : Int32) (v2 : Int32) (v3 : Int32) (v4 : Int32) : Option ((Int32 × Int32 × wSt) ⊕ ((wSt))) :=
(fX11_tests h v2).bind (fun yr37 =>
if wib v2 7 then
wlet (wuI yr37 206 v2.toNatClampNeg v4) (fun yh39 =>
fX11_worked_b329_14 yh39 v1 v2 v3)
else none)
def fX11_worked_b292_268 (h : wSt) (v1 : Int32) (v2 : Int32) (v3 : Int32) (w0 : Int32) : Option ((Int32 × Int32) ⊕ ((Int32 × Int32))) :=
some (.inl ((v2 + (-1)), w0))
def fX11_worked_l268 (h : wSt) (v1 : Int32) (v3 : Int32) (v2 : Int32) (v5 : Int32) : Option ((Int32 × Int32) ⊕ ((Int32 × Int32))) :=
if v2 ≤ 0 then
some (.inr (v2, v5))
else
if wib v2 7 then
if (h.1 213 v2.toNatClampNeg) = 1 then
if v5 = 0 then
fX11_worked_b292_268 h v1 v2 v3 (1 : Int32)
else
fX11_worked_b292_268 h v1 v2 v3 (0 : Int32)
else
some (.inr (v2, v5))
else none
def fX11_worked_b328_14 (h : wSt) (v1 : Int32) (v2 : Int32) (v3 : Int32) (w1 : Int32) (w2 : Int32) : Option ((Int32 × Int32 × wSt) ⊕ ((wSt))) :=
if wib w1 7 then
wlet (wuI h 211 w1.toNatClampNeg w2) (fun yh46 =>
fX11_worked_b329_14 yh46 v1 v2 v3)
else none
def fX11_worked_b243_14 (h : wSt) (v1 : Int32) (v2 : Int32) (v3 : Int32) (v4 : Int32) (w0 : Int32) : Option ((Int32 × Int32 × wSt) ⊕ ((wSt))) :=
if v4 = 29 then
(fX11_tests h v2).bind (fun yr47 =>
if wib v2 7 then
(wit (fun v : (Int32 × Int32) => fX11_worked_l268 yr47 v1 v3 v.1 v.2) 3000 ((v2 + (-1)), (yr47.1 205 v2.toNatClampNeg))).bind (fun ye49 =>
if wib ye49.1 7 then
if (yr47.1 212 ye49.1.toNatClampNeg) = 0 then
fX11_worked_b328_14 yr47 v1 ye49.1 v3 ye49.1 ye49.2
else
fX11_worked_b328_14 yr47 v1 ye49.1 v3 ye49.1 ((yr47.1 211 ye49.1.toNatClampNeg) * ye49.2)
else none)
else none)
else
(wit (fun v : (Int32 × Int32) => fX11_worked_l268 h v1 v3 v.1 v.2) 3000 (v2, w0)).bind (fun ye41 =>
if wib ye41.1 7 then
if (h.1 212 ye41.1.toNatClampNeg) = 0 then
fX11_worked_b328_14 h v1 ye41.1 v3 ye41.1 ye41.2
else
fX11_worked_b328_14 h v1 ye41.1 v3 ye41.1 ((h.1 211 ye41.1.toNatClampNeg) * ye41.2)
else none)
def fX11_worked_l14 (h : wSt) (v1 : Int32) (v2 : Int32) (v3 : Int32) : Option ((Int32 × Int32 × wSt) ⊕ ((wSt))) :=
if wib v1 2 then
if (h.1 201 v1.toNatClampNeg) ≤ v3 then
some (.inr h)
else
if wib v3 2000 then
if (h.1 202 v3.toNatClampNeg) = 28 then
fX11_worked_b46_14 h v1 v2 v3 (h.1 202 v3.toNatClampNeg)
else
if (h.1 202 v3.toNatClampNeg) = 30 then
fX11_worked_b46_14 h v1 v2 v3 (h.1 202 v3.toNatClampNeg)
else
if (h.1 202 v3.toNatClampNeg) = 20 then
fX11_worked_b89_14 h v1 v2 v3 (h.1 202 v3.toNatClampNeg)
else
if (h.1 202 v3.toNatClampNeg) = 21 then
fX11_worked_b89_14 h v1 v2 v3 (h.1 202 v3.toNatClampNeg)
else
if (h.1 202 v3.toNatClampNeg) = 22 then
if wib v2 7 then
wlet (wuI h 212 v2.toNatClampNeg (h.1 202 v3.toNatClampNeg)) (fun yh55 =>
fX11_worked_b329_14 yh55 v1 v2 v3)
else none
else
if (h.1 202 v3.toNatClampNeg) = 24 then
fX11_worked_b137_14 h v1 v2 v3 (h.1 202 v3.toNatClampNeg)
else
if (h.1 202 v3.toNatClampNeg) = 25 then
fX11_worked_b137_14 h v1 v2 v3 (h.1 202 v3.toNatClampNeg)
else
if (h.1 202 v3.toNatClampNeg) = 26 then
fX11_worked_b194_14 h v1 v2 v3 (h.1 202 v3.toNatClampNeg)
else
if (h.1 202 v3.toNatClampNeg) = 27 then
fX11_worked_b194_14 h v1 v2 v3 (h.1 202 v3.toNatClampNeg)
else
if (h.1 202 v3.toNatClampNeg) < 100 then
if 20 ≤ (h.1 202 v3.toNatClampNeg) then
fX11_worked_b243_14 h v1 v2 v3 (h.1 202 v3.toNatClampNeg) (0 : Int32)
else
if wib (h.1 202 v3.toNatClampNeg) 20 then
fX11_worked_b243_14 h v1 v2 v3 (h.1 202 v3.toNatClampNeg) (h.1 214 (h.1 202 v3.toNatClampNeg).toNatClampNeg)
else none
else
fX11_worked_b243_14 h v1 v2 v3 (h.1 202 v3.toNatClampNeg) ((h.1 202 v3.toNatClampNeg) - 100)
else none
else none
def fX11_worked (h : wSt) (x0 : Int32) : Option (Int32 × wSt) :=
(fX11_opens h (0 : Int32)).bind (fun yr21 =>
if wib x0 2 then
(wit (fun v : (Int32 × Int32 × wSt) => fX11_worked_l14 v.2.2 x0 v.1 v.2.1) 3000 ((0 : Int32), (yr21.1 200 x0.toNatClampNeg), yr21)).bind (fun ye56 =>
(fX11_tests ye56 (0 : Int32)).bind (fun yr58 =>
some ((yr58.1 205 0), yr58)))
else none)
section WX
variable {p : Program} {l : Launch} {e : Env} {s : State} {m : MethodId} {args : Array Value} {below : List Frame} {meth : Method} {c : Code} {D : va_G} {dA : Nat → ClassId} {b0 : Nat} {ad : Nat → Nat} {F : Option Value → wSt → Prop}
set_option maxRecDepth 4000 in
theorem pX11_within_b0 (X : wCx p s m args meth c RX11 cX11_within 3 D dA b0 ad) (hr : meth.sig.returnType = (some .boolean)) {h : wSt} {x0 : Int32} {x1 : Int32} {x2 : Int32} {K : Bool → Prop} (hT : ∀ (x : Bool), K x → F (some (.int (wb x))) h) (hf : wok (fX11_within h x0 x1 x2) K) : wM p l e (wR 1) s m args below meth c 0 0 (wE below args s D dA b0 ad S0 F) 3 D dA b0 ad S0 0 [some (.int x0), some (.int x1), some (.int x2)] [] h := by
  unfold fX11_within at hf
  refine w_iload_n X dX11_within_0 rfl rfl rfl ?_
  refine w_iload_n X dX11_within_1 rfl rfl rfl ?_
  refine w_icmp_lt X dX11_within_2 rfl (t := 14) rfl (fun hc => ?_) (fun hc => ?_)
  · have hf := wok_t hf hc
    refine w_iconst X dX11_within_14 rfl ci_0 ?_
    exact w_zret X dX11_within_15 hr rfl (hT false (wok_s hf))
  · have hf := wok_f hf hc
    refine w_iload_n X dX11_within_5 rfl rfl rfl ?_
    refine w_iload_n X dX11_within_6 rfl rfl rfl ?_
    refine w_icmp_gt X dX11_within_7 rfl (t := 14) rfl (fun hc => ?_) (fun hc => ?_)
    · have hf := wok_t hf hc
      refine w_iconst X dX11_within_14 rfl ci_0 ?_
      exact w_zret X dX11_within_15 hr rfl (hT false (wok_s hf))
    · have hf := wok_f hf hc
      refine w_iconst X dX11_within_10 rfl ci_1 ?_
      refine w_goto X dX11_within_11 (t := 15) rfl ?_
      exact w_zret X dX11_within_15 hr rfl (hT true (wok_s hf))
set_option maxRecDepth 4000 in
theorem kX11_within (l : Launch) {h : wSt} {x0 : Int32} {x1 : Int32} {x2 : Int32} {res : Bool} (hf : fX11_within h x0 x1 x2 = some res) : wC l yX11_within cX11_within 3 (some .boolean) 1 S0 [.int x0, .int x1, .int x2] h (wFZ (fun a b => res = a ∧ h = b)) := by
  refine w_meth2 0 (by decide) (Nat.le_of_ble_eq_true rfl) (ls := [some (.int x0), some (.int x1), some (.int x2)]) rfl ?_
  intro p e s m args below meth c D dA b0 ad X hr
  exact pX11_within_b0 X hr  (K := fun z => res = z) (fun x hz => ⟨x, rfl, hz, rfl⟩) ⟨res, hf, rfl⟩
set_option maxRecDepth 4000 in
theorem pX11_bits_l4b (X : wCx p s m args meth c RX11 cX11_bits 3 D dA b0 ad) (hr : meth.sig.returnType = (some .int)) {h : wSt} {v0 : Int32} {v1 : Int32} {v2 : Int32} {K : (Int32 × Int32) ⊕ ((Int32)) → Prop} (hN : ∀ (n1 : Int32) (n2 : Int32), K (.inl (n1, n2)) → wM p l e (wR 1) s m args below meth c 0 0 (wE below args s D dA b0 ad S0 F) 3 D dA b0 ad S0 4 [some (.int v0), some (.int n1), some (.int n2)] [] h) (hX0 : ∀ (n1 : Int32), K (.inr n1) → wM p l e (wR 1) s m args below meth c 0 0 (wE below args s D dA b0 ad S0 F) 3 D dA b0 ad S0 24 [none, some (.int n1), none] [] h) (hf : wok (fX11_bits_l4 h v0 v1 v2) K) : wM p l e (wR 1) s m args below meth c 0 0 (wE below args s D dA b0 ad S0 F) 3 D dA b0 ad S0 4 [some (.int v0), some (.int v1), some (.int v2)] [] h := by
  unfold fX11_bits_l4 at hf
  refine w_iload_n X dX11_bits_4 rfl rfl rfl ?_
  refine w_bipush X dX11_bits_5 rfl cb_6 ?_
  refine w_icmp_ge X dX11_bits_7 rfl (t := 24) rfl (fun hc => ?_) (fun hc => ?_)
  · have hf := wok_t hf hc
    refine w_fg (ls2 := [none, some (.int v1), none]) ⟨rfl, trivial⟩ ?_
    exact hX0 _ (wok_s hf)
  · have hf := wok_f hf hc
    refine w_iload_n X dX11_bits_10 rfl rfl rfl ?_
    refine w_iload_n X dX11_bits_11 rfl rfl rfl ?_
    refine w_iload_n X dX11_bits_12 rfl rfl rfl ?_
    refine w_ishr X dX11_bits_13 rfl ?_
    refine w_iconst X dX11_bits_14 rfl ci_1 ?_
    refine w_iand X dX11_bits_15 rfl ?_
    refine w_iadd X dX11_bits_16 rfl ?_
    refine w_topi (fun yx21 eyx21 => ?_)
    have hf := wok_l hf eyx21
    refine w_istore_n X dX11_bits_17 rfl rfl rfl (Nat.le_of_ble_eq_true rfl) (ls' := [some (.int v0), some (.int yx21), some (.int v2)]) rfl ?_
    refine w_iinc X dX11_bits_18 rfl (v := (v2 + 1)) rfl rfl (Nat.le_of_ble_eq_true rfl) (cinc_1 _) (ls' := [some (.int v0), some (.int yx21), some (.int (v2 + 1))]) rfl ?_
    refine w_goto X dX11_bits_21 (t := 4) rfl ?_
    exact hN _ _ (wok_s hf)
set_option maxRecDepth 4000 in
theorem pX11_bits_l4 (X : wCx p s m args meth c RX11 cX11_bits 3 D dA b0 ad) (hr : meth.sig.returnType = (some .int)) {h : wSt} {v0 : Int32} {KE : (Int32) → Prop} (hX0 : ∀ (n1 : Int32), KE (n1) → wM p l e (wR 1) s m args below meth c 0 0 (wE below args s D dA b0 ad S0 F) 3 D dA b0 ad S0 24 [none, some (.int n1), none] [] h) : ∀ (n : Nat) (v1 : Int32) (v2 : Int32), wok (wit (fun v : (Int32 × Int32) => fX11_bits_l4 h v0 v.1 v.2) n (v1, v2)) KE → wM p l e (wR 1) s m args below meth c 0 0 (wE below args s D dA b0 ad S0 F) 3 D dA b0 ad S0 4 [some (.int v0), some (.int v1), some (.int v2)] [] h := by
  have key := wit_M (b := (fun v : (Int32 × Int32) => fX11_bits_l4 h v0 v.1 v.2)) (KE := KE) (G := fun v => wM p l e (wR 1) s m args below meth c 0 0 (wE below args s D dA b0 ad S0 F) 3 D dA b0 ad S0 4 [some (.int v0), some (.int v.1), some (.int v.2)] [] h) (fun v K hN hE hf => pX11_bits_l4b X hr  (fun n1 n2 hz => hN (n1, n2) hz) (fun z0 hz => hX0 z0 (hE _ hz)) hf)
  exact fun n v1 v2 hf => key n (v1, v2) hf
set_option maxRecDepth 4000 in
theorem pX11_bits_b0 (X : wCx p s m args meth c RX11 cX11_bits 3 D dA b0 ad) (hr : meth.sig.returnType = (some .int)) {h : wSt} {x0 : Int32} {K : Int32 → Prop} (hT : ∀ (x : Int32), K x → F (some (.int x)) h) (hf : wok (fX11_bits h x0) K) : wM p l e (wR 1) s m args below meth c 0 0 (wE below args s D dA b0 ad S0 F) 3 D dA b0 ad S0 0 [some (.int x0), none, none] [] h := by
  unfold fX11_bits at hf
  refine w_iconst X dX11_bits_0 rfl ci_0 ?_
  refine w_istore_n X dX11_bits_1 rfl rfl rfl (Nat.le_of_ble_eq_true rfl) (ls' := [some (.int x0), some (.int 0), none]) rfl ?_
  refine w_iconst X dX11_bits_2 rfl ci_0 ?_
  refine w_istore_n X dX11_bits_3 rfl rfl rfl (Nat.le_of_ble_eq_true rfl) (ls' := [some (.int x0), some (.int 0), some (.int 0)]) rfl ?_
  obtain ⟨ye22, hye22, hf⟩ := wok_b hf
  refine pX11_bits_l4 X hr  (KE := fun z => ye22 = z) ?_ 3000 _ _ ⟨ye22, hye22, rfl⟩
  · intro yz23 hz
    subst hz
    refine w_iload_n X dX11_bits_24 rfl rfl rfl ?_
    exact w_iret X dX11_bits_25 hr (hT _ (wok_s hf))
set_option maxRecDepth 4000 in
theorem kX11_bits (l : Launch) {h : wSt} {x0 : Int32} {res : Int32} (hf : fX11_bits h x0 = some res) : wC l yX11_bits cX11_bits 3 (some .int) 1 S0 [.int x0] h (wFI (fun a b => res = a ∧ h = b)) := by
  refine w_meth2 2 (by decide) (Nat.le_of_ble_eq_true rfl) (ls := [some (.int x0), none, none]) rfl ?_
  intro p e s m args below meth c D dA b0 ad X hr
  exact pX11_bits_b0 X hr  (K := fun z => res = z) (fun x hz => ⟨x, rfl, hz, rfl⟩) ⟨res, hf, rfl⟩
set_option maxRecDepth 4000 in
theorem pX11_deepOf_l4b (X : wCx p s m args meth c RX11 cX11_deepOf 3 D dA b0 ad) (hr : meth.sig.returnType = (some .int)) {h : wSt} {v1 : Int32} {v2 : Int32} {K : (Int32 × Int32) ⊕ ((Int32)) → Prop} (hN : ∀ (n1 : Int32) (n2 : Int32), K (.inl (n1, n2)) → wM p l e (wR 1) s m args below meth c 0 0 (wE below args s D dA b0 ad S0 F) 3 D dA b0 ad S0 4 [none, some (.int n1), some (.int n2)] [] h) (hX0 : ∀ (n1 : Int32), K (.inr n1) → wM p l e (wR 1) s m args below meth c 0 0 (wE below args s D dA b0 ad S0 F) 3 D dA b0 ad S0 19 [none, some (.int n1), none] [] h) (hf : wok (fX11_deepOf_l4 h v1 v2) K) : wM p l e (wR 1) s m args below meth c 0 0 (wE below args s D dA b0 ad S0 F) 3 D dA b0 ad S0 4 [none, some (.int v1), some (.int v2)] [] h := by
  unfold fX11_deepOf_l4 at hf
  refine w_iload_n X dX11_deepOf_4 rfl rfl rfl ?_
  refine w_if_le X dX11_deepOf_5 rfl (t := 19) rfl (fun hc => ?_) (fun hc => ?_)
  · have hf := wok_t hf hc
    refine w_fg (ls2 := [none, some (.int v1), none]) ⟨rfl, trivial⟩ ?_
    exact hX0 _ (wok_s hf)
  · have hf := wok_f hf hc
    refine w_iinc X dX11_deepOf_8 rfl (v := (v1 + 1)) rfl rfl (Nat.le_of_ble_eq_true rfl) (cinc_1 _) (ls' := [none, some (.int (v1 + 1)), some (.int v2)]) rfl ?_
    refine w_iload_n X dX11_deepOf_11 rfl rfl rfl ?_
    refine w_bipush X dX11_deepOf_12 rfl cb_7 ?_
    refine w_idiv X dX11_deepOf_14 rfl (by decide) ?_
    refine w_istore_n X dX11_deepOf_15 rfl rfl rfl (Nat.le_of_ble_eq_true rfl) (ls' := [none, some (.int (v1 + 1)), some (.int (v2 / 7))]) rfl ?_
    refine w_goto X dX11_deepOf_16 (t := 4) rfl ?_
    exact hN _ _ (wok_s hf)
set_option maxRecDepth 4000 in
theorem pX11_deepOf_l4 (X : wCx p s m args meth c RX11 cX11_deepOf 3 D dA b0 ad) (hr : meth.sig.returnType = (some .int)) {h : wSt} {KE : (Int32) → Prop} (hX0 : ∀ (n1 : Int32), KE (n1) → wM p l e (wR 1) s m args below meth c 0 0 (wE below args s D dA b0 ad S0 F) 3 D dA b0 ad S0 19 [none, some (.int n1), none] [] h) : ∀ (n : Nat) (v1 : Int32) (v2 : Int32), wok (wit (fun v : (Int32 × Int32) => fX11_deepOf_l4 h v.1 v.2) n (v1, v2)) KE → wM p l e (wR 1) s m args below meth c 0 0 (wE below args s D dA b0 ad S0 F) 3 D dA b0 ad S0 4 [none, some (.int v1), some (.int v2)] [] h := by
  have key := wit_M (b := (fun v : (Int32 × Int32) => fX11_deepOf_l4 h v.1 v.2)) (KE := KE) (G := fun v => wM p l e (wR 1) s m args below meth c 0 0 (wE below args s D dA b0 ad S0 F) 3 D dA b0 ad S0 4 [none, some (.int v.1), some (.int v.2)] [] h) (fun v K hN hE hf => pX11_deepOf_l4b X hr  (fun n1 n2 hz => hN (n1, n2) hz) (fun z0 hz => hX0 z0 (hE _ hz)) hf)
  exact fun n v1 v2 hf => key n (v1, v2) hf
set_option maxRecDepth 4000 in
theorem pX11_deepOf_b0 (X : wCx p s m args meth c RX11 cX11_deepOf 3 D dA b0 ad) (hr : meth.sig.returnType = (some .int)) {h : wSt} {x0 : Int32} {K : Int32 → Prop} (hT : ∀ (x : Int32), K x → F (some (.int x)) h) (hf : wok (fX11_deepOf h x0) K) : wM p l e (wR 1) s m args below meth c 0 0 (wE below args s D dA b0 ad S0 F) 3 D dA b0 ad S0 0 [some (.int x0), none, none] [] h := by
  unfold fX11_deepOf at hf
  refine w_iconst X dX11_deepOf_0 rfl ci_0 ?_
  refine w_istore_n X dX11_deepOf_1 rfl rfl rfl (Nat.le_of_ble_eq_true rfl) (ls' := [some (.int x0), some (.int 0), none]) rfl ?_
  refine w_iload_n X dX11_deepOf_2 rfl rfl rfl ?_
  refine w_istore_n X dX11_deepOf_3 rfl rfl rfl (Nat.le_of_ble_eq_true rfl) (ls' := [some (.int x0), some (.int 0), some (.int x0)]) rfl ?_
  refine w_fg (ls2 := [none, some (.int 0), some (.int x0)]) ⟨rfl, rfl, trivial⟩ ?_
  obtain ⟨ye21, hye21, hf⟩ := wok_b hf
  refine pX11_deepOf_l4 X hr  (KE := fun z => ye21 = z) ?_ 3000 _ _ ⟨ye21, hye21, rfl⟩
  · intro yz22 hz
    subst hz
    refine w_iload_n X dX11_deepOf_19 rfl rfl rfl ?_
    exact w_iret X dX11_deepOf_20 hr (hT _ (wok_s hf))
set_option maxRecDepth 4000 in
theorem kX11_deepOf (l : Launch) {h : wSt} {x0 : Int32} {res : Int32} (hf : fX11_deepOf h x0 = some res) : wC l yX11_deepOf cX11_deepOf 3 (some .int) 1 S0 [.int x0] h (wFI (fun a b => res = a ∧ h = b)) := by
  refine w_meth2 2 (by decide) (Nat.le_of_ble_eq_true rfl) (ls := [some (.int x0), none, none]) rfl ?_
  intro p e s m args below meth c D dA b0 ad X hr
  exact pX11_deepOf_b0 X hr  (K := fun z => res = z) (fun x hz => ⟨x, rfl, hz, rfl⟩) ⟨res, hf, rfl⟩
set_option maxRecDepth 4000 in
theorem pX11_isSkin_b0 (X : wCx p s m args meth c RX11 cX11_isSkin 2 D dA b0 ad) (hr : meth.sig.returnType = (some .boolean)) {h : wSt} {x0 : Int32} {K : Bool → Prop} (hT : ∀ (x : Bool), K x → F (some (.int (wb x))) h) (hf : wok (fX11_isSkin h x0) K) : wM p l e (wR 1) s m args below meth c 0 0 (wE below args s D dA b0 ad S0 F) 2 D dA b0 ad S0 0 [some (.ref 188), some (.int x0)] [] h := by
  unfold fX11_isSkin at hf
  refine w_iload_n X dX11_isSkin_0 rfl rfl rfl ?_
  refine w_if_lt X dX11_isSkin_1 rfl (t := 18) rfl (fun hc => ?_) (fun hc => ?_)
  · have hf := wok_t hf hc
    refine w_iconst X dX11_isSkin_18 rfl ci_0 ?_
    exact w_zret X dX11_isSkin_19 hr rfl (hT false (wok_s hf))
  · have hf := wok_f hf hc
    refine w_iload_n X dX11_isSkin_4 rfl rfl rfl ?_
    refine w_aload_n X dX11_isSkin_5 rfl rfl rfl ?_
    refine w_getR X dX11_isSkin_6 rfl fl_X11_13 S0_188 rfl ?_
    refine w_iconst X dX11_isSkin_9 rfl ci_0 ?_
    refine w_iald X dX11_isSkin_10 rfl (j := 0) cn_0 S0_190 (show wib 0 6 by decide) ?_
    refine w_icmp_ge X dX11_isSkin_11 rfl (t := 18) rfl (fun hc => ?_) (fun hc => ?_)
    · have hf := wok_t hf hc
      refine w_iconst X dX11_isSkin_18 rfl ci_0 ?_
      exact w_zret X dX11_isSkin_19 hr rfl (hT false (wok_s hf))
    · have hf := wok_f hf hc
      refine w_iconst X dX11_isSkin_14 rfl ci_1 ?_
      refine w_goto X dX11_isSkin_15 (t := 19) rfl ?_
      exact w_zret X dX11_isSkin_19 hr rfl (hT true (wok_s hf))
set_option maxRecDepth 4000 in
theorem kX11_isSkin (l : Launch) {h : wSt} {x0 : Int32} {res : Bool} (hf : fX11_isSkin h x0 = some res) : wC l yX11_isSkin cX11_isSkin 2 (some .boolean) 1 S0 [.ref 188, .int x0] h (wFZ (fun a b => res = a ∧ h = b)) := by
  refine w_meth2 0 (by decide) (Nat.le_of_ble_eq_true rfl) (ls := [some (.ref 188), some (.int x0)]) rfl ?_
  intro p e s m args below meth c D dA b0 ad X hr
  exact pX11_isSkin_b0 X hr  (K := fun z => res = z) (fun x hz => ⟨x, rfl, hz, rfl⟩) ⟨res, hf, rfl⟩
set_option maxRecDepth 4000 in
theorem pX11_isText_b0 (X : wCx p s m args meth c RX11 cX11_isText 2 D dA b0 ad) (hr : meth.sig.returnType = (some .boolean)) {h : wSt} {x0 : Int32} {K : Bool → Prop} (hT : ∀ (x : Bool), K x → F (some (.int (wb x))) h) (hf : wok (fX11_isText h x0) K) : wM p l e (wR 1) s m args below meth c 0 0 (wE below args s D dA b0 ad S0 F) 2 D dA b0 ad S0 0 [some (.ref 188), some (.int x0)] [] h := by
  unfold fX11_isText at hf
  refine w_iload_n X dX11_isText_0 rfl rfl rfl ?_
  refine w_if_lt X dX11_isText_1 rfl (t := 18) rfl (fun hc => ?_) (fun hc => ?_)
  · have hf := wok_t hf hc
    refine w_iconst X dX11_isText_18 rfl ci_0 ?_
    exact w_zret X dX11_isText_19 hr rfl (hT false (wok_s hf))
  · have hf := wok_f hf hc
    refine w_iload_n X dX11_isText_4 rfl rfl rfl ?_
    refine w_aload_n X dX11_isText_5 rfl rfl rfl ?_
    refine w_getR X dX11_isText_6 rfl fl_X11_13 S0_188 rfl ?_
    refine w_iconst X dX11_isText_9 rfl ci_1 ?_
    refine w_iald X dX11_isText_10 rfl (j := 1) cn_1 S0_190 (show wib 1 6 by decide) ?_
    refine w_icmp_ge X dX11_isText_11 rfl (t := 18) rfl (fun hc => ?_) (fun hc => ?_)
    · have hf := wok_t hf hc
      refine w_iconst X dX11_isText_18 rfl ci_0 ?_
      exact w_zret X dX11_isText_19 hr rfl (hT false (wok_s hf))
    · have hf := wok_f hf hc
      refine w_iconst X dX11_isText_14 rfl ci_1 ?_
      refine w_goto X dX11_isText_15 (t := 19) rfl ?_
      exact w_zret X dX11_isText_19 hr rfl (hT true (wok_s hf))
set_option maxRecDepth 4000 in
theorem kX11_isText (l : Launch) {h : wSt} {x0 : Int32} {res : Bool} (hf : fX11_isText h x0 = some res) : wC l yX11_isText cX11_isText 2 (some .boolean) 1 S0 [.ref 188, .int x0] h (wFZ (fun a b => res = a ∧ h = b)) := by
  refine w_meth2 0 (by decide) (Nat.le_of_ble_eq_true rfl) (ls := [some (.ref 188), some (.int x0)]) rfl ?_
  intro p e s m args below meth c D dA b0 ad X hr
  exact pX11_isText_b0 X hr  (K := fun z => res = z) (fun x hz => ⟨x, rfl, hz, rfl⟩) ⟨res, hf, rfl⟩
set_option maxRecDepth 4000 in
theorem pX11_isLine_b0 (X : wCx p s m args meth c RX11 cX11_isLine 3 D dA b0 ad) (hr : meth.sig.returnType = (some .boolean)) {h : wSt} {x0 : Int32} {x1 : Int32} {K : Bool → Prop} (hT : ∀ (x : Bool), K x → F (some (.int (wb x))) h) (hf : wok (fX11_isLine h x0 x1) K) : wM p l e (wR 2) s m args below meth c 0 0 (wE below args s D dA b0 ad S0 F) 3 D dA b0 ad S0 0 [some (.ref 188), some (.int x0), some (.int x1)] [] h := by
  unfold fX11_isLine at hf
  refine w_aload_n X dX11_isLine_0 rfl rfl rfl ?_
  refine w_iload_n X dX11_isLine_1 rfl rfl rfl ?_
  obtain ⟨yr21, eyr21, hf⟩ := wok_b hf
  refine w_callV X dX11_isLine_2 rfl vl_X11_353 (kX11_isSkin l  eyr21) S0_188 (As := [.int x0]) (st := []) rfl rfl (Nat.le_of_ble_eq_true rfl) ⟨Nat.le_of_ble_eq_true rfl, Nat.le_of_ble_eq_true rfl⟩ ⟨Nat.zero_le _, Nat.zero_le _⟩ (fun r h2 hF => ?_)
  obtain ⟨_, rfl, rfl, rfl⟩ := hF
  show wM p l e (wR 2) s m args below meth c 0 0 (wE below args s D dA b0 ad S0 F) 3 D dA b0 ad S0 5 [some (.ref 188), some (.int x0), some (.int x1)] [.int (wb yr21)] h
  refine w_if_eq X dX11_isLine_5 rfl (t := 26) rfl (fun hc => ?_) (fun hc => ?_)
  · have hf := wok_f hf (wb_0 hc)
    refine w_iconst X dX11_isLine_26 rfl ci_0 ?_
    exact w_zret X dX11_isLine_27 hr rfl (hT false (wok_s hf))
  · have hf := wok_t hf (wb_n0 hc)
    refine w_iload_n X dX11_isLine_8 rfl rfl rfl ?_
    refine w_if_lt X dX11_isLine_9 rfl (t := 26) rfl (fun hc => ?_) (fun hc => ?_)
    · have hf := wok_t hf hc
      refine w_iconst X dX11_isLine_26 rfl ci_0 ?_
      exact w_zret X dX11_isLine_27 hr rfl (hT false (wok_s hf))
    · have hf := wok_f hf hc
      refine w_iload_n X dX11_isLine_12 rfl rfl rfl ?_
      refine w_aload_n X dX11_isLine_13 rfl rfl rfl ?_
      refine w_getR X dX11_isLine_14 rfl fl_X11_23 S0_188 rfl ?_
      refine w_iload_n X dX11_isLine_17 rfl rfl rfl ?_
      obtain ⟨yhg22, hf⟩ := wok_g hf
      refine w_iald X dX11_isLine_18 rfl (j := x0.toNatClampNeg) rfl S0_193 yhg22 ?_
      refine w_icmp_ge X dX11_isLine_19 rfl (t := 26) rfl (fun hc => ?_) (fun hc => ?_)
      · have hf := wok_t hf hc
        refine w_iconst X dX11_isLine_26 rfl ci_0 ?_
        exact w_zret X dX11_isLine_27 hr rfl (hT false (wok_s hf))
      · have hf := wok_f hf hc
        refine w_iconst X dX11_isLine_22 rfl ci_1 ?_
        refine w_goto X dX11_isLine_23 (t := 27) rfl ?_
        exact w_zret X dX11_isLine_27 hr rfl (hT true (wok_s hf))
set_option maxRecDepth 4000 in
theorem kX11_isLine (l : Launch) {h : wSt} {x0 : Int32} {x1 : Int32} {res : Bool} (hf : fX11_isLine h x0 x1 = some res) : wC l yX11_isLine cX11_isLine 3 (some .boolean) 2 S0 [.ref 188, .int x0, .int x1] h (wFZ (fun a b => res = a ∧ h = b)) := by
  refine w_meth2 0 (by decide) (Nat.le_of_ble_eq_true rfl) (ls := [some (.ref 188), some (.int x0), some (.int x1)]) rfl ?_
  intro p e s m args below meth c D dA b0 ad X hr
  exact pX11_isLine_b0 X hr  (K := fun z => res = z) (fun x hz => ⟨x, rfl, hz, rfl⟩) ⟨res, hf, rfl⟩
set_option maxRecDepth 4000 in
theorem pX11_dampOf_b0 (X : wCx p s m args meth c RX11 cX11_dampOf 2 D dA b0 ad) (hr : meth.sig.returnType = (some .int)) {h : wSt} {x0 : Int32} {K : Int32 → Prop} (hT : ∀ (x : Int32), K x → F (some (.int x)) h) (hf : wok (fX11_dampOf h x0) K) : wM p l e (wR 1) s m args below meth c 0 0 (wE below args s D dA b0 ad S0 F) 2 D dA b0 ad S0 0 [some (.ref 188), some (.int x0)] [] h := by
  unfold fX11_dampOf at hf
  refine w_aload_n X dX11_dampOf_0 rfl rfl rfl ?_
  refine w_getR X dX11_dampOf_1 rfl fl_X11_13 S0_188 rfl ?_
  refine w_iconst X dX11_dampOf_4 rfl ci_2 ?_
  refine w_iald X dX11_dampOf_5 rfl (j := 2) cn_2 S0_190 (show wib 2 6 by decide) ?_
  refine w_if_ne X dX11_dampOf_6 rfl (t := 13) rfl (fun hc => ?_) (fun hc => ?_)
  · have hf := wok_f hf hc
    refine w_aload_n X dX11_dampOf_13 rfl rfl rfl ?_
    refine w_getR X dX11_dampOf_14 rfl fl_X11_41 S0_188 rfl ?_
    refine w_iload_n X dX11_dampOf_17 rfl rfl rfl ?_
    refine w_aload_n X dX11_dampOf_18 rfl rfl rfl ?_
    refine w_getR X dX11_dampOf_19 rfl fl_X11_13 S0_188 rfl ?_
    refine w_iconst X dX11_dampOf_22 rfl ci_2 ?_
    refine w_iald X dX11_dampOf_23 rfl (j := 2) cn_2 S0_190 (show wib 2 6 by decide) ?_
    obtain ⟨yhg21, hf⟩ := wok_g hf
    refine w_irem X dX11_dampOf_24 rfl yhg21 ?_
    obtain ⟨yhg22, hf⟩ := wok_g hf
    refine w_iald X dX11_dampOf_25 rfl (j := (x0 - x0 / (h.1 190 2) * (h.1 190 2)).toNatClampNeg) rfl S0_199 yhg22 ?_
    exact w_iret X dX11_dampOf_26 hr (hT _ (wok_s hf))
  · have hf := wok_t hf hc
    refine w_iconst X dX11_dampOf_9 rfl ci_0 ?_
    refine w_goto X dX11_dampOf_10 (t := 26) rfl ?_
    exact w_iret X dX11_dampOf_26 hr (hT _ (wok_s hf))
set_option maxRecDepth 4000 in
theorem kX11_dampOf (l : Launch) {h : wSt} {x0 : Int32} {res : Int32} (hf : fX11_dampOf h x0 = some res) : wC l yX11_dampOf cX11_dampOf 2 (some .int) 1 S0 [.ref 188, .int x0] h (wFI (fun a b => res = a ∧ h = b)) := by
  refine w_meth2 0 (by decide) (Nat.le_of_ble_eq_true rfl) (ls := [some (.ref 188), some (.int x0)]) rfl ?_
  intro p e s m args below meth c D dA b0 ad X hr
  exact pX11_dampOf_b0 X hr  (K := fun z => res = z) (fun x hz => ⟨x, rfl, hz, rfl⟩) ⟨res, hf, rfl⟩
set_option maxRecDepth 4000 in
theorem pX11_opens_b0 (X : wCx p s m args meth c RX11 cX11_opens 2 D dA b0 ad) (hr : meth.sig.returnType = none) {h : wSt} {x0 : Int32} {K : wSt → Prop} (hT : ∀ (h2 : wSt), K h2 → F none h2) (hf : wok (fX11_opens h x0) K) : wM p l e (wR 1) s m args below meth c 0 0 (wE below args s D dA b0 ad S0 F) 2 D dA b0 ad S0 0 [some (.ref 188), some (.int x0)] [] h := by
  unfold fX11_opens at hf
  refine w_aload_n X dX11_opens_0 rfl rfl rfl ?_
  refine w_getR X dX11_opens_1 rfl fl_X11_63 S0_188 rfl ?_
  refine w_iload_n X dX11_opens_4 rfl rfl rfl ?_
  refine w_iconst X dX11_opens_5 rfl ci_0 ?_
  obtain ⟨yhg21, hf⟩ := wok_g hf
  refine w_iast X dX11_opens_6 rfl (j := x0.toNatClampNeg) rfl S0_206 yhg21 ?_
  refine w_nmh (fun yh22 eyh22 => ?_)
  have hf := wok_l hf eyh22
  refine w_aload_n X dX11_opens_7 rfl rfl rfl ?_
  refine w_getR X dX11_opens_8 rfl fl_X11_69 S0_188 rfl ?_
  refine w_iload_n X dX11_opens_11 rfl rfl rfl ?_
  refine w_iconst X dX11_opens_12 rfl ci_0 ?_
  refine w_iast X dX11_opens_13 rfl (j := x0.toNatClampNeg) rfl S0_208 yhg21 ?_
  refine w_nmh (fun yh23 eyh23 => ?_)
  have hf := wok_l hf eyh23
  refine w_aload_n X dX11_opens_14 rfl rfl rfl ?_
  refine w_getR X dX11_opens_15 rfl fl_X11_72 S0_188 rfl ?_
  refine w_iload_n X dX11_opens_18 rfl rfl rfl ?_
  refine w_iconst X dX11_opens_19 rfl ci_0 ?_
  refine w_iast X dX11_opens_20 rfl (j := x0.toNatClampNeg) rfl S0_209 yhg21 ?_
  refine w_nmh (fun yh24 eyh24 => ?_)
  have hf := wok_l hf eyh24
  refine w_aload_n X dX11_opens_21 rfl rfl rfl ?_
  refine w_getR X dX11_opens_22 rfl fl_X11_75 S0_188 rfl ?_
  refine w_iload_n X dX11_opens_25 rfl rfl rfl ?_
  refine w_bipush X dX11_opens_26 rfl cb_20 ?_
  refine w_iast X dX11_opens_28 rfl (j := x0.toNatClampNeg) rfl S0_210 yhg21 ?_
  refine w_nmh (fun yh25 eyh25 => ?_)
  have hf := wok_l hf eyh25
  refine w_aload_n X dX11_opens_29 rfl rfl rfl ?_
  refine w_getR X dX11_opens_30 rfl fl_X11_81 S0_188 rfl ?_
  refine w_iload_n X dX11_opens_33 rfl rfl rfl ?_
  refine w_iconst X dX11_opens_34 rfl ci_0 ?_
  refine w_iast X dX11_opens_35 rfl (j := x0.toNatClampNeg) rfl S0_212 yhg21 ?_
  refine w_nmh (fun yh26 eyh26 => ?_)
  have hf := wok_l hf eyh26
  exact w_vret X dX11_opens_36 hr (hT _ (wok_s hf))
set_option maxRecDepth 4000 in
theorem kX11_opens (l : Launch) {h : wSt} {x0 : Int32} {res : wSt} (hf : fX11_opens h x0 = some res) : wC l yX11_opens cX11_opens 2 none 1 S0 [.ref 188, .int x0] h (wFV (fun b => res = b)) := by
  refine w_meth2 0 (by decide) (Nat.le_of_ble_eq_true rfl) (ls := [some (.ref 188), some (.int x0)]) rfl ?_
  intro p e s m args below meth c D dA b0 ad X hr
  exact pX11_opens_b0 X hr  (K := fun z => res = z) (fun h2 hz => ⟨rfl, hz⟩) ⟨res, hf, rfl⟩
set_option maxRecDepth 4000 in
theorem pX11_sums_b45 (X : wCx p s m args meth c RX11 cX11_sums 2 D dA b0 ad) (hr : meth.sig.returnType = none) {h : wSt} {v1 : Int32} {w1 : Int32} {w2 : Int32} {K : wSt → Prop} (hT : ∀ (h2 : wSt), K h2 → F none h2)  (hf : wok (fX11_sums_b45 h v1 w1 w2) K) : wM p l e (wR 1) s m args below meth c 0 0 (wE below args s D dA b0 ad S0 F) 2 D dA b0 ad S0 45 [some (.ref 188), some (.int v1)] [.int w2, .int w1, .ref 209] h := by
  unfold fX11_sums_b45 at hf
  obtain ⟨yhg22, hf⟩ := wok_g hf
  refine w_iast X dX11_sums_45 rfl (j := w1.toNatClampNeg) rfl S0_209 yhg22 ?_
  refine w_nmh (fun yh23 eyh23 => ?_)
  have hf := wok_l hf eyh23
  refine w_aload_n X dX11_sums_46 rfl rfl rfl ?_
  refine w_getR X dX11_sums_47 rfl fl_X11_81 S0_188 rfl ?_
  refine w_iload_n X dX11_sums_50 rfl rfl rfl ?_
  refine w_iconst X dX11_sums_51 rfl ci_0 ?_
  obtain ⟨yhg24, hf⟩ := wok_g hf
  refine w_iast X dX11_sums_52 rfl (j := v1.toNatClampNeg) rfl S0_212 yhg24 ?_
  refine w_nmh (fun yh25 eyh25 => ?_)
  have hf := wok_l hf eyh25
  exact w_vret X dX11_sums_53 hr (hT _ (wok_s hf))
set_option maxRecDepth 4000 in
theorem pX11_sums_b0 (X : wCx p s m args meth c RX11 cX11_sums 2 D dA b0 ad) (hr : meth.sig.returnType = none) {h : wSt} {x0 : Int32} {K : wSt → Prop} (hT : ∀ (h2 : wSt), K h2 → F none h2) (hf : wok (fX11_sums h x0) K) : wM p l e (wR 1) s m args below meth c 0 0 (wE below args s D dA b0 ad S0 F) 2 D dA b0 ad S0 0 [some (.ref 188), some (.int x0)] [] h := by
  unfold fX11_sums at hf
  refine w_aload_n X dX11_sums_0 rfl rfl rfl ?_
  refine w_getR X dX11_sums_1 rfl fl_X11_72 S0_188 rfl ?_
  refine w_iload_n X dX11_sums_4 rfl rfl rfl ?_
  refine w_aload_n X dX11_sums_5 rfl rfl rfl ?_
  refine w_getR X dX11_sums_6 rfl fl_X11_75 S0_188 rfl ?_
  refine w_iload_n X dX11_sums_9 rfl rfl rfl ?_
  obtain ⟨yhg21, hf⟩ := wok_g hf
  refine w_iald X dX11_sums_10 rfl (j := x0.toNatClampNeg) rfl S0_210 yhg21 ?_
  refine w_bipush X dX11_sums_11 rfl cb_21 ?_
  refine w_icmp_ne X dX11_sums_13 rfl (t := 32) rfl (fun hc => ?_) (fun hc => ?_)
  · have hf := wok_f hf hc
    refine w_aload_n X dX11_sums_32 rfl rfl rfl ?_
    refine w_getR X dX11_sums_33 rfl fl_X11_72 S0_188 rfl ?_
    refine w_iload_n X dX11_sums_36 rfl rfl rfl ?_
    refine w_iald X dX11_sums_37 rfl (j := x0.toNatClampNeg) rfl S0_209 yhg21 ?_
    refine w_aload_n X dX11_sums_38 rfl rfl rfl ?_
    refine w_getR X dX11_sums_39 rfl fl_X11_78 S0_188 rfl ?_
    refine w_iload_n X dX11_sums_42 rfl rfl rfl ?_
    refine w_iald X dX11_sums_43 rfl (j := x0.toNatClampNeg) rfl S0_211 yhg21 ?_
    refine w_iadd X dX11_sums_44 rfl ?_
    exact pX11_sums_b45 X hr  hT hf
  · have hf := wok_t hf hc
    refine w_aload_n X dX11_sums_16 rfl rfl rfl ?_
    refine w_getR X dX11_sums_17 rfl fl_X11_72 S0_188 rfl ?_
    refine w_iload_n X dX11_sums_20 rfl rfl rfl ?_
    refine w_iald X dX11_sums_21 rfl (j := x0.toNatClampNeg) rfl S0_209 yhg21 ?_
    refine w_aload_n X dX11_sums_22 rfl rfl rfl ?_
    refine w_getR X dX11_sums_23 rfl fl_X11_78 S0_188 rfl ?_
    refine w_iload_n X dX11_sums_26 rfl rfl rfl ?_
    refine w_iald X dX11_sums_27 rfl (j := x0.toNatClampNeg) rfl S0_211 yhg21 ?_
    refine w_isub X dX11_sums_28 rfl ?_
    refine w_goto X dX11_sums_29 (t := 45) rfl ?_
    exact pX11_sums_b45 X hr  hT hf
set_option maxRecDepth 4000 in
theorem kX11_sums (l : Launch) {h : wSt} {x0 : Int32} {res : wSt} (hf : fX11_sums h x0 = some res) : wC l yX11_sums cX11_sums 2 none 1 S0 [.ref 188, .int x0] h (wFV (fun b => res = b)) := by
  refine w_meth2 0 (by decide) (Nat.le_of_ble_eq_true rfl) (ls := [some (.ref 188), some (.int x0)]) rfl ?_
  intro p e s m args below meth c D dA b0 ad X hr
  exact pX11_sums_b0 X hr  (K := fun z => res = z) (fun h2 hz => ⟨rfl, hz⟩) ⟨res, hf, rfl⟩
set_option maxRecDepth 4000 in
theorem pX11_tests_b136 (X : wCx p s m args meth c RX11 cX11_tests 3 D dA b0 ad) (hr : meth.sig.returnType = none) {h : wSt} {v1 : Int32} {v2 : Int32} {K : wSt → Prop} (hT : ∀ (h2 : wSt), K h2 → F none h2)  (hf : wok (fX11_tests_b136 h v1 v2) K) : wM p l e (wR 2) s m args below meth c 0 0 (wE below args s D dA b0 ad S0 F) 3 D dA b0 ad S0 136 [some (.ref 188), some (.int v1), some (.int v2)] [] h := by
  unfold fX11_tests_b136 at hf
  refine w_aload_n X dX11_tests_136 rfl rfl rfl ?_
  refine w_getR X dX11_tests_137 rfl fl_X11_60 S0_188 rfl ?_
  refine w_iload_n X dX11_tests_140 rfl rfl rfl ?_
  refine w_iload_n X dX11_tests_141 rfl rfl rfl ?_
  obtain ⟨yhg26, hf⟩ := wok_g hf
  refine w_iast X dX11_tests_142 rfl (j := v1.toNatClampNeg) rfl S0_205 yhg26 ?_
  refine w_nmh (fun yh27 eyh27 => ?_)
  have hf := wok_l hf eyh27
  refine w_aload_n X dX11_tests_143 rfl rfl rfl ?_
  refine w_getR X dX11_tests_144 rfl fl_X11_69 S0_188 rfl ?_
  refine w_iload_n X dX11_tests_147 rfl rfl rfl ?_
  refine w_iconst X dX11_tests_148 rfl ci_0 ?_
  refine w_iast X dX11_tests_149 rfl (j := v1.toNatClampNeg) rfl S0_208 yhg26 ?_
  refine w_nmh (fun yh28 eyh28 => ?_)
  have hf := wok_l hf eyh28
  refine w_aload_n X dX11_tests_150 rfl rfl rfl ?_
  refine w_getR X dX11_tests_151 rfl fl_X11_72 S0_188 rfl ?_
  refine w_iload_n X dX11_tests_154 rfl rfl rfl ?_
  refine w_iconst X dX11_tests_155 rfl ci_0 ?_
  refine w_iast X dX11_tests_156 rfl (j := v1.toNatClampNeg) rfl S0_209 yhg26 ?_
  refine w_nmh (fun yh29 eyh29 => ?_)
  have hf := wok_l hf eyh29
  refine w_aload_n X dX11_tests_157 rfl rfl rfl ?_
  refine w_getR X dX11_tests_158 rfl fl_X11_75 S0_188 rfl ?_
  refine w_iload_n X dX11_tests_161 rfl rfl rfl ?_
  refine w_bipush X dX11_tests_162 rfl cb_20 ?_
  refine w_iast X dX11_tests_164 rfl (j := v1.toNatClampNeg) rfl S0_210 yhg26 ?_
  refine w_nmh (fun yh30 eyh30 => ?_)
  have hf := wok_l hf eyh30
  exact w_vret X dX11_tests_165 hr (hT _ (wok_s hf))
set_option maxRecDepth 4000 in
theorem pX11_tests_b135 (X : wCx p s m args meth c RX11 cX11_tests 3 D dA b0 ad) (hr : meth.sig.returnType = none) {h : wSt} {v1 : Int32} {w0 : Int32} {K : wSt → Prop} (hT : ∀ (h2 : wSt), K h2 → F none h2)  (hf : wok (fX11_tests_b135 h v1 w0) K) : wM p l e (wR 2) s m args below meth c 0 0 (wE below args s D dA b0 ad S0 F) 3 D dA b0 ad S0 135 [some (.ref 188), some (.int v1), none] [.int w0] h := by
  unfold fX11_tests_b135 at hf
  refine w_istore_n X dX11_tests_135 rfl rfl rfl (Nat.le_of_ble_eq_true rfl) (ls' := [some (.ref 188), some (.int v1), some (.int w0)]) rfl ?_
  exact pX11_tests_b136 X hr  hT hf
set_option maxRecDepth 4000 in
theorem pX11_tests_b130 (X : wCx p s m args meth c RX11 cX11_tests 3 D dA b0 ad) (hr : meth.sig.returnType = none) {h : wSt} {v1 : Int32} {K : wSt → Prop} (hT : ∀ (h2 : wSt), K h2 → F none h2)  (hf : wok (fX11_tests_b130 h v1) K) : wM p l e (wR 2) s m args below meth c 0 0 (wE below args s D dA b0 ad S0 F) 3 D dA b0 ad S0 130 [some (.ref 188), some (.int v1), none] [] h := by
  unfold fX11_tests_b130 at hf
  refine w_iconst X dX11_tests_130 rfl ci_1 ?_
  refine w_goto X dX11_tests_131 (t := 135) rfl ?_
  exact pX11_tests_b135 X hr  hT hf
set_option maxRecDepth 4000 in
theorem pX11_tests_b106 (X : wCx p s m args meth c RX11 cX11_tests 3 D dA b0 ad) (hr : meth.sig.returnType = none) {h : wSt} {v1 : Int32} {v2 : Int32} {K : wSt → Prop} (hT : ∀ (h2 : wSt), K h2 → F none h2)  (hf : wok (fX11_tests_b106 h v1 v2) K) : wM p l e (wR 2) s m args below meth c 0 0 (wE below args s D dA b0 ad S0 F) 3 D dA b0 ad S0 106 [some (.ref 188), some (.int v1), some (.int v2)] [] h := by
  unfold fX11_tests_b106 at hf
  refine w_aload_n X dX11_tests_106 rfl rfl rfl ?_
  refine w_getR X dX11_tests_107 rfl fl_X11_63 S0_188 rfl ?_
  refine w_iload_n X dX11_tests_110 rfl rfl rfl ?_
  obtain ⟨yhg25, hf⟩ := wok_g hf
  refine w_iald X dX11_tests_111 rfl (j := v1.toNatClampNeg) rfl S0_206 yhg25 ?_
  refine w_bipush X dX11_tests_112 rfl cb_27 ?_
  refine w_icmp_ne X dX11_tests_114 rfl (t := 136) rfl (fun hc => ?_) (fun hc => ?_)
  · have hf := wok_f hf hc
    exact pX11_tests_b136 X hr  hT hf
  · have hf := wok_t hf hc
    refine w_aload_n X dX11_tests_117 rfl rfl rfl ?_
    refine w_getR X dX11_tests_118 rfl fl_X11_60 S0_188 rfl ?_
    refine w_iload_n X dX11_tests_121 rfl rfl rfl ?_
    refine w_iald X dX11_tests_122 rfl (j := v1.toNatClampNeg) rfl S0_205 yhg25 ?_
    refine w_if_ne X dX11_tests_123 rfl (t := 130) rfl (fun hc => ?_) (fun hc => ?_)
    · have hf := wok_f hf hc
      refine w_fg (ls2 := [some (.ref 188), some (.int v1), none]) ⟨rfl, rfl, trivial⟩ ?_
      exact pX11_tests_b130 X hr  hT hf
    · have hf := wok_t hf hc
      refine w_iload_n X dX11_tests_126 rfl rfl rfl ?_
      refine w_if_eq X dX11_tests_127 rfl (t := 134) rfl (fun hc => ?_) (fun hc => ?_)
      · have hf := wok_t hf hc
        refine w_iconst X dX11_tests_134 rfl ci_0 ?_
        refine w_fg (ls2 := [some (.ref 188), some (.int v1), none]) ⟨rfl, rfl, trivial⟩ ?_
        exact pX11_tests_b135 X hr  hT hf
      · have hf := wok_f hf hc
        refine w_fg (ls2 := [some (.ref 188), some (.int v1), none]) ⟨rfl, rfl, trivial⟩ ?_
        exact pX11_tests_b130 X hr  hT hf
set_option maxRecDepth 4000 in
theorem pX11_tests_b105 (X : wCx p s m args meth c RX11 cX11_tests 3 D dA b0 ad) (hr : meth.sig.returnType = none) {h : wSt} {v1 : Int32} {w0 : Int32} {K : wSt → Prop} (hT : ∀ (h2 : wSt), K h2 → F none h2)  (hf : wok (fX11_tests_b105 h v1 w0) K) : wM p l e (wR 2) s m args below meth c 0 0 (wE below args s D dA b0 ad S0 F) 3 D dA b0 ad S0 105 [some (.ref 188), some (.int v1), none] [.int w0] h := by
  unfold fX11_tests_b105 at hf
  refine w_istore_n X dX11_tests_105 rfl rfl rfl (Nat.le_of_ble_eq_true rfl) (ls' := [some (.ref 188), some (.int v1), some (.int w0)]) rfl ?_
  exact pX11_tests_b106 X hr  hT hf
set_option maxRecDepth 4000 in
theorem pX11_tests_b104 (X : wCx p s m args meth c RX11 cX11_tests 3 D dA b0 ad) (hr : meth.sig.returnType = none) {h : wSt} {v1 : Int32} {K : wSt → Prop} (hT : ∀ (h2 : wSt), K h2 → F none h2)  (hf : wok (fX11_tests_b104 h v1) K) : wM p l e (wR 2) s m args below meth c 0 0 (wE below args s D dA b0 ad S0 F) 3 D dA b0 ad S0 104 [some (.ref 188), some (.int v1), none] [] h := by
  unfold fX11_tests_b104 at hf
  refine w_iconst X dX11_tests_104 rfl ci_0 ?_
  exact pX11_tests_b105 X hr  hT hf
set_option maxRecDepth 4000 in
theorem pX11_tests_b76 (X : wCx p s m args meth c RX11 cX11_tests 3 D dA b0 ad) (hr : meth.sig.returnType = none) {h : wSt} {v1 : Int32} {v2 : Int32} {K : wSt → Prop} (hT : ∀ (h2 : wSt), K h2 → F none h2)  (hf : wok (fX11_tests_b76 h v1 v2) K) : wM p l e (wR 2) s m args below meth c 0 0 (wE below args s D dA b0 ad S0 F) 3 D dA b0 ad S0 76 [some (.ref 188), some (.int v1), some (.int v2)] [] h := by
  unfold fX11_tests_b76 at hf
  refine w_aload_n X dX11_tests_76 rfl rfl rfl ?_
  refine w_getR X dX11_tests_77 rfl fl_X11_63 S0_188 rfl ?_
  refine w_iload_n X dX11_tests_80 rfl rfl rfl ?_
  obtain ⟨yhg24, hf⟩ := wok_g hf
  refine w_iald X dX11_tests_81 rfl (j := v1.toNatClampNeg) rfl S0_206 yhg24 ?_
  refine w_bipush X dX11_tests_82 rfl cb_26 ?_
  refine w_icmp_ne X dX11_tests_84 rfl (t := 106) rfl (fun hc => ?_) (fun hc => ?_)
  · have hf := wok_f hf hc
    exact pX11_tests_b106 X hr  hT hf
  · have hf := wok_t hf hc
    refine w_aload_n X dX11_tests_87 rfl rfl rfl ?_
    refine w_getR X dX11_tests_88 rfl fl_X11_60 S0_188 rfl ?_
    refine w_iload_n X dX11_tests_91 rfl rfl rfl ?_
    refine w_iald X dX11_tests_92 rfl (j := v1.toNatClampNeg) rfl S0_205 yhg24 ?_
    refine w_if_eq X dX11_tests_93 rfl (t := 104) rfl (fun hc => ?_) (fun hc => ?_)
    · have hf := wok_t hf hc
      refine w_fg (ls2 := [some (.ref 188), some (.int v1), none]) ⟨rfl, rfl, trivial⟩ ?_
      exact pX11_tests_b104 X hr  hT hf
    · have hf := wok_f hf hc
      refine w_iload_n X dX11_tests_96 rfl rfl rfl ?_
      refine w_if_eq X dX11_tests_97 rfl (t := 104) rfl (fun hc => ?_) (fun hc => ?_)
      · have hf := wok_t hf hc
        refine w_fg (ls2 := [some (.ref 188), some (.int v1), none]) ⟨rfl, rfl, trivial⟩ ?_
        exact pX11_tests_b104 X hr  hT hf
      · have hf := wok_f hf hc
        refine w_iconst X dX11_tests_100 rfl ci_1 ?_
        refine w_goto X dX11_tests_101 (t := 105) rfl ?_
        refine w_fg (ls2 := [some (.ref 188), some (.int v1), none]) ⟨rfl, rfl, trivial⟩ ?_
        exact pX11_tests_b105 X hr  hT hf
set_option maxRecDepth 4000 in
theorem pX11_tests_b75 (X : wCx p s m args meth c RX11 cX11_tests 3 D dA b0 ad) (hr : meth.sig.returnType = none) {h : wSt} {v1 : Int32} {w0 : Int32} {K : wSt → Prop} (hT : ∀ (h2 : wSt), K h2 → F none h2)  (hf : wok (fX11_tests_b75 h v1 w0) K) : wM p l e (wR 2) s m args below meth c 0 0 (wE below args s D dA b0 ad S0 F) 3 D dA b0 ad S0 75 [some (.ref 188), some (.int v1), none] [.int w0] h := by
  unfold fX11_tests_b75 at hf
  refine w_istore_n X dX11_tests_75 rfl rfl rfl (Nat.le_of_ble_eq_true rfl) (ls' := [some (.ref 188), some (.int v1), some (.int w0)]) rfl ?_
  exact pX11_tests_b76 X hr  hT hf
set_option maxRecDepth 4000 in
theorem pX11_tests_b44 (X : wCx p s m args meth c RX11 cX11_tests 3 D dA b0 ad) (hr : meth.sig.returnType = none) {h : wSt} {v1 : Int32} {v2 : Int32} {K : wSt → Prop} (hT : ∀ (h2 : wSt), K h2 → F none h2)  (hf : wok (fX11_tests_b44 h v1 v2) K) : wM p l e (wR 2) s m args below meth c 0 0 (wE below args s D dA b0 ad S0 F) 3 D dA b0 ad S0 44 [some (.ref 188), some (.int v1), some (.int v2)] [] h := by
  unfold fX11_tests_b44 at hf
  refine w_aload_n X dX11_tests_44 rfl rfl rfl ?_
  refine w_getR X dX11_tests_45 rfl fl_X11_69 S0_188 rfl ?_
  refine w_iload_n X dX11_tests_48 rfl rfl rfl ?_
  obtain ⟨yhg23, hf⟩ := wok_g hf
  refine w_iald X dX11_tests_49 rfl (j := v1.toNatClampNeg) rfl S0_208 yhg23 ?_
  refine w_bipush X dX11_tests_50 rfl cb_25 ?_
  refine w_icmp_ne X dX11_tests_52 rfl (t := 76) rfl (fun hc => ?_) (fun hc => ?_)
  · have hf := wok_f hf hc
    exact pX11_tests_b76 X hr  hT hf
  · have hf := wok_t hf hc
    refine w_aload_n X dX11_tests_55 rfl rfl rfl ?_
    refine w_getR X dX11_tests_56 rfl fl_X11_66 S0_188 rfl ?_
    refine w_iload_n X dX11_tests_59 rfl rfl rfl ?_
    refine w_iald X dX11_tests_60 rfl (j := v1.toNatClampNeg) rfl S0_207 yhg23 ?_
    refine w_aload_n X dX11_tests_61 rfl rfl rfl ?_
    refine w_getR X dX11_tests_62 rfl fl_X11_72 S0_188 rfl ?_
    refine w_iload_n X dX11_tests_65 rfl rfl rfl ?_
    refine w_iald X dX11_tests_66 rfl (j := v1.toNatClampNeg) rfl S0_209 yhg23 ?_
    refine w_icmp_ne X dX11_tests_67 rfl (t := 74) rfl (fun hc => ?_) (fun hc => ?_)
    · have hf := wok_f hf hc
      refine w_iconst X dX11_tests_74 rfl ci_0 ?_
      refine w_fg (ls2 := [some (.ref 188), some (.int v1), none]) ⟨rfl, rfl, trivial⟩ ?_
      exact pX11_tests_b75 X hr  hT hf
    · have hf := wok_t hf hc
      refine w_iconst X dX11_tests_70 rfl ci_1 ?_
      refine w_goto X dX11_tests_71 (t := 75) rfl ?_
      refine w_fg (ls2 := [some (.ref 188), some (.int v1), none]) ⟨rfl, rfl, trivial⟩ ?_
      exact pX11_tests_b75 X hr  hT hf
set_option maxRecDepth 4000 in
theorem pX11_tests_b43 (X : wCx p s m args meth c RX11 cX11_tests 3 D dA b0 ad) (hr : meth.sig.returnType = none) {h : wSt} {v1 : Int32} {w0 : Int32} {K : wSt → Prop} (hT : ∀ (h2 : wSt), K h2 → F none h2)  (hf : wok (fX11_tests_b43 h v1 w0) K) : wM p l e (wR 2) s m args below meth c 0 0 (wE below args s D dA b0 ad S0 F) 3 D dA b0 ad S0 43 [some (.ref 188), some (.int v1), none] [.int w0] h := by
  unfold fX11_tests_b43 at hf
  refine w_istore_n X dX11_tests_43 rfl rfl rfl (Nat.le_of_ble_eq_true rfl) (ls' := [some (.ref 188), some (.int v1), some (.int w0)]) rfl ?_
  exact pX11_tests_b44 X hr  hT hf
set_option maxRecDepth 4000 in
theorem pX11_tests_b0 (X : wCx p s m args meth c RX11 cX11_tests 3 D dA b0 ad) (hr : meth.sig.returnType = none) {h : wSt} {x0 : Int32} {K : wSt → Prop} (hT : ∀ (h2 : wSt), K h2 → F none h2) (hf : wok (fX11_tests h x0) K) : wM p l e (wR 2) s m args below meth c 0 0 (wE below args s D dA b0 ad S0 F) 3 D dA b0 ad S0 0 [some (.ref 188), some (.int x0), none] [] h := by
  unfold fX11_tests at hf
  refine w_aload_n X dX11_tests_0 rfl rfl rfl ?_
  refine w_iload_n X dX11_tests_1 rfl rfl rfl ?_
  obtain ⟨yr21, eyr21, hf⟩ := wok_b hf
  refine w_callV X dX11_tests_2 rfl vl_X11_222 (kX11_sums l  eyr21) S0_188 (As := [.int x0]) (st := []) rfl rfl (Nat.le_of_ble_eq_true rfl) ⟨Nat.le_of_ble_eq_true rfl, Nat.le_of_ble_eq_true rfl⟩ ⟨Nat.zero_le _, Nat.zero_le _⟩ (fun r h2 hF => ?_)
  obtain ⟨rfl, rfl⟩ := hF
  show wM p l e (wR 2) s m args below meth c 0 0 (wE below args s D dA b0 ad S0 F) 3 D dA b0 ad S0 5 [some (.ref 188), some (.int x0), none] [] yr21
  refine w_aload_n X dX11_tests_5 rfl rfl rfl ?_
  refine w_getR X dX11_tests_6 rfl fl_X11_72 S0_188 rfl ?_
  refine w_iload_n X dX11_tests_9 rfl rfl rfl ?_
  obtain ⟨yhg22, hf⟩ := wok_g hf
  refine w_iald X dX11_tests_10 rfl (j := x0.toNatClampNeg) rfl S0_209 yhg22 ?_
  refine w_istore_n X dX11_tests_11 rfl rfl rfl (Nat.le_of_ble_eq_true rfl) (ls' := [some (.ref 188), some (.int x0), some (.int (yr21.1 209 x0.toNatClampNeg))]) rfl ?_
  refine w_aload_n X dX11_tests_12 rfl rfl rfl ?_
  refine w_getR X dX11_tests_13 rfl fl_X11_69 S0_188 rfl ?_
  refine w_iload_n X dX11_tests_16 rfl rfl rfl ?_
  refine w_iald X dX11_tests_17 rfl (j := x0.toNatClampNeg) rfl S0_208 yhg22 ?_
  refine w_bipush X dX11_tests_18 rfl cb_24 ?_
  refine w_icmp_ne X dX11_tests_20 rfl (t := 44) rfl (fun hc => ?_) (fun hc => ?_)
  · have hf := wok_f hf hc
    exact pX11_tests_b44 X hr  hT hf
  · have hf := wok_t hf hc
    refine w_aload_n X dX11_tests_23 rfl rfl rfl ?_
    refine w_getR X dX11_tests_24 rfl fl_X11_66 S0_188 rfl ?_
    refine w_iload_n X dX11_tests_27 rfl rfl rfl ?_
    refine w_iald X dX11_tests_28 rfl (j := x0.toNatClampNeg) rfl S0_207 yhg22 ?_
    refine w_aload_n X dX11_tests_29 rfl rfl rfl ?_
    refine w_getR X dX11_tests_30 rfl fl_X11_72 S0_188 rfl ?_
    refine w_iload_n X dX11_tests_33 rfl rfl rfl ?_
    refine w_iald X dX11_tests_34 rfl (j := x0.toNatClampNeg) rfl S0_209 yhg22 ?_
    refine w_icmp_ge X dX11_tests_35 rfl (t := 42) rfl (fun hc => ?_) (fun hc => ?_)
    · have hf := wok_t hf hc
      refine w_iconst X dX11_tests_42 rfl ci_0 ?_
      refine w_fg (ls2 := [some (.ref 188), some (.int x0), none]) ⟨rfl, rfl, trivial⟩ ?_
      exact pX11_tests_b43 X hr  hT hf
    · have hf := wok_f hf hc
      refine w_iconst X dX11_tests_38 rfl ci_1 ?_
      refine w_goto X dX11_tests_39 (t := 43) rfl ?_
      refine w_fg (ls2 := [some (.ref 188), some (.int x0), none]) ⟨rfl, rfl, trivial⟩ ?_
      exact pX11_tests_b43 X hr  hT hf
set_option maxRecDepth 4000 in
theorem kX11_tests (l : Launch) {h : wSt} {x0 : Int32} {res : wSt} (hf : fX11_tests h x0 = some res) : wC l yX11_tests cX11_tests 3 none 2 S0 [.ref 188, .int x0] h (wFV (fun b => res = b)) := by
  refine w_meth2 1 (by decide) (Nat.le_of_ble_eq_true rfl) (ls := [some (.ref 188), some (.int x0), none]) rfl ?_
  intro p e s m args below meth c D dA b0 ad X hr
  exact pX11_tests_b0 X hr  (K := fun z => res = z) (fun h2 hz => ⟨rfl, hz⟩) ⟨res, hf, rfl⟩
set_option maxRecDepth 4000 in
theorem pX11_worked_b329_14 (X : wCx p s m args meth c RX11 cX11_worked 6 D dA b0 ad) (hr : meth.sig.returnType = (some .int)) {h : wSt} {v1 : Int32} {v2 : Int32} {v3 : Int32} {K : (Int32 × Int32 × wSt) ⊕ ((wSt)) → Prop} (hN : ∀ (n2 : Int32) (n3 : Int32) (nh : wSt), K (.inl (n2, n3, nh)) → wM p l e (wR 3) s m args below meth c 0 0 (wE below args s D dA b0 ad S0 F) 6 D dA b0 ad S0 14 [some (.ref 188), some (.int v1), some (.int n2), some (.int n3), none, none] [] nh) (hX0 : ∀ (nh : wSt), K (.inr nh) → wM p l e (wR 3) s m args below meth c 0 0 (wE below args s D dA b0 ad S0 F) 6 D dA b0 ad S0 335 [some (.ref 188), none, none, none, none, none] [] nh) (hf : wok (fX11_worked_b329_14 h v1 v2 v3) K) : wM p l e (wR 3) s m args below meth c 0 0 (wE below args s D dA b0 ad S0 F) 6 D dA b0 ad S0 329 [some (.ref 188), some (.int v1), some (.int v2), some (.int v3), none, none] [] h := by
  unfold fX11_worked_b329_14 at hf
  refine w_iinc X dX11_worked_329 rfl (v := (v3 + 1)) rfl rfl (Nat.le_of_ble_eq_true rfl) (cinc_1 _) (ls' := [some (.ref 188), some (.int v1), some (.int v2), some (.int (v3 + 1)), none, none]) rfl ?_
  refine w_goto X dX11_worked_332 (t := 14) rfl ?_
  exact hN _ _ _ (wok_s hf)
set_option maxRecDepth 4000 in
theorem pX11_worked_b66_14 (X : wCx p s m args meth c RX11 cX11_worked 6 D dA b0 ad) (hr : meth.sig.returnType = (some .int)) {h : wSt} {v1 : Int32} {v2 : Int32} {v3 : Int32} {w1 : Int32} {w2 : Int32} {K : (Int32 × Int32 × wSt) ⊕ ((wSt)) → Prop} (hN : ∀ (n2 : Int32) (n3 : Int32) (nh : wSt), K (.inl (n2, n3, nh)) → wM p l e (wR 3) s m args below meth c 0 0 (wE below args s D dA b0 ad S0 F) 6 D dA b0 ad S0 14 [some (.ref 188), some (.int v1), some (.int n2), some (.int n3), none, none] [] nh) (hX0 : ∀ (nh : wSt), K (.inr nh) → wM p l e (wR 3) s m args below meth c 0 0 (wE below args s D dA b0 ad S0 F) 6 D dA b0 ad S0 335 [some (.ref 188), none, none, none, none, none] [] nh) (hf : wok (fX11_worked_b66_14 h v1 v2 v3 w1 w2) K) : wM p l e (wR 3) s m args below meth c 0 0 (wE below args s D dA b0 ad S0 F) 6 D dA b0 ad S0 66 [some (.ref 188), some (.int v1), some (.int v2), some (.int v3), none, none] [.int w2, .int w1, .ref 213] h := by
  unfold fX11_worked_b66_14 at hf
  obtain ⟨yhg25, hf⟩ := wok_g hf
  refine w_iast X dX11_worked_66 rfl (j := w1.toNatClampNeg) rfl S0_213 yhg25 ?_
  refine w_nmh (fun yh26 eyh26 => ?_)
  have hf := wok_l hf eyh26
  refine w_aload_n X dX11_worked_67 rfl rfl rfl ?_
  refine w_iload_n X dX11_worked_68 rfl rfl rfl ?_
  obtain ⟨yr27, eyr27, hf⟩ := wok_b hf
  refine w_callV X dX11_worked_69 rfl vl_X11_225 (kX11_opens l  eyr27) S0_188 (As := [.int v2]) (st := []) rfl rfl (Nat.le_of_ble_eq_true rfl) ⟨Nat.le_of_ble_eq_true rfl, Nat.le_of_ble_eq_true rfl⟩ ⟨Nat.zero_le _, Nat.zero_le _⟩ (fun r h2 hF => ?_)
  obtain ⟨rfl, rfl⟩ := hF
  show wM p l e (wR 3) s m args below meth c 0 0 (wE below args s D dA b0 ad S0 F) 6 D dA b0 ad S0 72 [some (.ref 188), some (.int v1), some (.int v2), some (.int v3), none, none] [] yr27
  refine w_goto X dX11_worked_72 (t := 329) rfl ?_
  exact pX11_worked_b329_14 X hr  hN hX0 hf
set_option maxRecDepth 4000 in
theorem pX11_worked_b46_14 (X : wCx p s m args meth c RX11 cX11_worked 6 D dA b0 ad) (hr : meth.sig.returnType = (some .int)) {h : wSt} {v1 : Int32} {v2 : Int32} {v3 : Int32} {v4 : Int32} {K : (Int32 × Int32 × wSt) ⊕ ((wSt)) → Prop} (hN : ∀ (n2 : Int32) (n3 : Int32) (nh : wSt), K (.inl (n2, n3, nh)) → wM p l e (wR 3) s m args below meth c 0 0 (wE below args s D dA b0 ad S0 F) 6 D dA b0 ad S0 14 [some (.ref 188), some (.int v1), some (.int n2), some (.int n3), none, none] [] nh) (hX0 : ∀ (nh : wSt), K (.inr nh) → wM p l e (wR 3) s m args below meth c 0 0 (wE below args s D dA b0 ad S0 F) 6 D dA b0 ad S0 335 [some (.ref 188), none, none, none, none, none] [] nh) (hf : wok (fX11_worked_b46_14 h v1 v2 v3 v4) K) : wM p l e (wR 3) s m args below meth c 0 0 (wE below args s D dA b0 ad S0 F) 6 D dA b0 ad S0 46 [some (.ref 188), some (.int v1), some (.int v2), some (.int v3), some (.int v4), none] [] h := by
  unfold fX11_worked_b46_14 at hf
  refine w_iinc X dX11_worked_46 rfl (v := (v2 + 1)) rfl rfl (Nat.le_of_ble_eq_true rfl) (cinc_1 _) (ls' := [some (.ref 188), some (.int v1), some (.int (v2 + 1)), some (.int v3), some (.int v4), none]) rfl ?_
  refine w_aload_n X dX11_worked_49 rfl rfl rfl ?_
  refine w_getR X dX11_worked_50 rfl fl_X11_84 S0_188 rfl ?_
  refine w_iload_n X dX11_worked_53 rfl rfl rfl ?_
  refine w_iload X dX11_worked_54 rfl rfl ?_
  refine w_bipush X dX11_worked_56 rfl cb_30 ?_
  refine w_icmp_ne X dX11_worked_58 rfl (t := 65) rfl (fun hc => ?_) (fun hc => ?_)
  · have hf := wok_f hf hc
    refine w_iconst X dX11_worked_65 rfl ci_0 ?_
    refine w_fg (ls2 := [some (.ref 188), some (.int v1), some (.int (v2 + 1)), some (.int v3), none, none]) ⟨rfl, rfl, rfl, rfl, trivial⟩ ?_
    exact pX11_worked_b66_14 X hr  hN hX0 hf
  · have hf := wok_t hf hc
    refine w_iconst X dX11_worked_61 rfl ci_1 ?_
    refine w_goto X dX11_worked_62 (t := 66) rfl ?_
    refine w_fg (ls2 := [some (.ref 188), some (.int v1), some (.int (v2 + 1)), some (.int v3), none, none]) ⟨rfl, rfl, rfl, rfl, trivial⟩ ?_
    exact pX11_worked_b66_14 X hr  hN hX0 hf
set_option maxRecDepth 4000 in
theorem pX11_worked_b89_14 (X : wCx p s m args meth c RX11 cX11_worked 6 D dA b0 ad) (hr : meth.sig.returnType = (some .int)) {h : wSt} {v1 : Int32} {v2 : Int32} {v3 : Int32} {v4 : Int32} {K : (Int32 × Int32 × wSt) ⊕ ((wSt)) → Prop} (hN : ∀ (n2 : Int32) (n3 : Int32) (nh : wSt), K (.inl (n2, n3, nh)) → wM p l e (wR 3) s m args below meth c 0 0 (wE below args s D dA b0 ad S0 F) 6 D dA b0 ad S0 14 [some (.ref 188), some (.int v1), some (.int n2), some (.int n3), none, none] [] nh) (hX0 : ∀ (nh : wSt), K (.inr nh) → wM p l e (wR 3) s m args below meth c 0 0 (wE below args s D dA b0 ad S0 F) 6 D dA b0 ad S0 335 [some (.ref 188), none, none, none, none, none] [] nh) (hf : wok (fX11_worked_b89_14 h v1 v2 v3 v4) K) : wM p l e (wR 3) s m args below meth c 0 0 (wE below args s D dA b0 ad S0 F) 6 D dA b0 ad S0 89 [some (.ref 188), some (.int v1), some (.int v2), some (.int v3), some (.int v4), none] [] h := by
  unfold fX11_worked_b89_14 at hf
  refine w_aload_n X dX11_worked_89 rfl rfl rfl ?_
  refine w_iload_n X dX11_worked_90 rfl rfl rfl ?_
  obtain ⟨yr28, eyr28, hf⟩ := wok_b hf
  refine w_callV X dX11_worked_91 rfl vl_X11_222 (kX11_sums l  eyr28) S0_188 (As := [.int v2]) (st := []) rfl rfl (Nat.le_of_ble_eq_true rfl) ⟨Nat.le_of_ble_eq_true rfl, Nat.le_of_ble_eq_true rfl⟩ ⟨Nat.zero_le _, Nat.zero_le _⟩ (fun r h2 hF => ?_)
  obtain ⟨rfl, rfl⟩ := hF
  show wM p l e (wR 3) s m args below meth c 0 0 (wE below args s D dA b0 ad S0 F) 6 D dA b0 ad S0 94 [some (.ref 188), some (.int v1), some (.int v2), some (.int v3), some (.int v4), none] [] yr28
  refine w_aload_n X dX11_worked_94 rfl rfl rfl ?_
  refine w_getR X dX11_worked_95 rfl fl_X11_75 S0_188 rfl ?_
  refine w_iload_n X dX11_worked_98 rfl rfl rfl ?_
  refine w_iload X dX11_worked_99 rfl rfl ?_
  obtain ⟨yhg29, hf⟩ := wok_g hf
  refine w_iast X dX11_worked_101 rfl (j := v2.toNatClampNeg) rfl S0_210 yhg29 ?_
  refine w_nmh (fun yh30 eyh30 => ?_)
  have hf := wok_l hf eyh30
  refine w_goto X dX11_worked_102 (t := 329) rfl ?_
  refine w_fg (ls2 := [some (.ref 188), some (.int v1), some (.int v2), some (.int v3), none, none]) ⟨rfl, rfl, rfl, rfl, trivial⟩ ?_
  exact pX11_worked_b329_14 X hr  hN hX0 hf
set_option maxRecDepth 4000 in
theorem pX11_worked_b137_14 (X : wCx p s m args meth c RX11 cX11_worked 6 D dA b0 ad) (hr : meth.sig.returnType = (some .int)) {h : wSt} {v1 : Int32} {v2 : Int32} {v3 : Int32} {v4 : Int32} {K : (Int32 × Int32 × wSt) ⊕ ((wSt)) → Prop} (hN : ∀ (n2 : Int32) (n3 : Int32) (nh : wSt), K (.inl (n2, n3, nh)) → wM p l e (wR 3) s m args below meth c 0 0 (wE below args s D dA b0 ad S0 F) 6 D dA b0 ad S0 14 [some (.ref 188), some (.int v1), some (.int n2), some (.int n3), none, none] [] nh) (hX0 : ∀ (nh : wSt), K (.inr nh) → wM p l e (wR 3) s m args below meth c 0 0 (wE below args s D dA b0 ad S0 F) 6 D dA b0 ad S0 335 [some (.ref 188), none, none, none, none, none] [] nh) (hf : wok (fX11_worked_b137_14 h v1 v2 v3 v4) K) : wM p l e (wR 3) s m args below meth c 0 0 (wE below args s D dA b0 ad S0 F) 6 D dA b0 ad S0 137 [some (.ref 188), some (.int v1), some (.int v2), some (.int v3), some (.int v4), none] [] h := by
  unfold fX11_worked_b137_14 at hf
  refine w_aload_n X dX11_worked_137 rfl rfl rfl ?_
  refine w_iload_n X dX11_worked_138 rfl rfl rfl ?_
  obtain ⟨yr31, eyr31, hf⟩ := wok_b hf
  refine w_callV X dX11_worked_139 rfl vl_X11_222 (kX11_sums l  eyr31) S0_188 (As := [.int v2]) (st := []) rfl rfl (Nat.le_of_ble_eq_true rfl) ⟨Nat.le_of_ble_eq_true rfl, Nat.le_of_ble_eq_true rfl⟩ ⟨Nat.zero_le _, Nat.zero_le _⟩ (fun r h2 hF => ?_)
  obtain ⟨rfl, rfl⟩ := hF
  show wM p l e (wR 3) s m args below meth c 0 0 (wE below args s D dA b0 ad S0 F) 6 D dA b0 ad S0 142 [some (.ref 188), some (.int v1), some (.int v2), some (.int v3), some (.int v4), none] [] yr31
  refine w_aload_n X dX11_worked_142 rfl rfl rfl ?_
  refine w_getR X dX11_worked_143 rfl fl_X11_66 S0_188 rfl ?_
  refine w_iload_n X dX11_worked_146 rfl rfl rfl ?_
  refine w_aload_n X dX11_worked_147 rfl rfl rfl ?_
  refine w_getR X dX11_worked_148 rfl fl_X11_72 S0_188 rfl ?_
  refine w_iload_n X dX11_worked_151 rfl rfl rfl ?_
  obtain ⟨yhg32, hf⟩ := wok_g hf
  refine w_iald X dX11_worked_152 rfl (j := v2.toNatClampNeg) rfl S0_209 yhg32 ?_
  refine w_iast X dX11_worked_153 rfl (j := v2.toNatClampNeg) rfl S0_207 yhg32 ?_
  refine w_nmh (fun yh33 eyh33 => ?_)
  have hf := wok_l hf eyh33
  refine w_aload_n X dX11_worked_154 rfl rfl rfl ?_
  refine w_getR X dX11_worked_155 rfl fl_X11_69 S0_188 rfl ?_
  refine w_iload_n X dX11_worked_158 rfl rfl rfl ?_
  refine w_iload X dX11_worked_159 rfl rfl ?_
  refine w_iast X dX11_worked_161 rfl (j := v2.toNatClampNeg) rfl S0_208 yhg32 ?_
  refine w_nmh (fun yh34 eyh34 => ?_)
  have hf := wok_l hf eyh34
  refine w_aload_n X dX11_worked_162 rfl rfl rfl ?_
  refine w_getR X dX11_worked_163 rfl fl_X11_72 S0_188 rfl ?_
  refine w_iload_n X dX11_worked_166 rfl rfl rfl ?_
  refine w_iconst X dX11_worked_167 rfl ci_0 ?_
  refine w_iast X dX11_worked_168 rfl (j := v2.toNatClampNeg) rfl S0_209 yhg32 ?_
  refine w_nmh (fun yh35 eyh35 => ?_)
  have hf := wok_l hf eyh35
  refine w_aload_n X dX11_worked_169 rfl rfl rfl ?_
  refine w_getR X dX11_worked_170 rfl fl_X11_75 S0_188 rfl ?_
  refine w_iload_n X dX11_worked_173 rfl rfl rfl ?_
  refine w_bipush X dX11_worked_174 rfl cb_20 ?_
  refine w_iast X dX11_worked_176 rfl (j := v2.toNatClampNeg) rfl S0_210 yhg32 ?_
  refine w_nmh (fun yh36 eyh36 => ?_)
  have hf := wok_l hf eyh36
  refine w_goto X dX11_worked_177 (t := 329) rfl ?_
  refine w_fg (ls2 := [some (.ref 188), some (.int v1), some (.int v2), some (.int v3), none, none]) ⟨rfl, rfl, rfl, rfl, trivial⟩ ?_
  exact pX11_worked_b329_14 X hr  hN hX0 hf
set_option maxRecDepth 4000 in
theorem pX11_worked_b194_14 (X : wCx p s m args meth c RX11 cX11_worked 6 D dA b0 ad) (hr : meth.sig.returnType = (some .int)) {h : wSt} {v1 : Int32} {v2 : Int32} {v3 : Int32} {v4 : Int32} {K : (Int32 × Int32 × wSt) ⊕ ((wSt)) → Prop} (hN : ∀ (n2 : Int32) (n3 : Int32) (nh : wSt), K (.inl (n2, n3, nh)) → wM p l e (wR 3) s m args below meth c 0 0 (wE below args s D dA b0 ad S0 F) 6 D dA b0 ad S0 14 [some (.ref 188), some (.int v1), some (.int n2), some (.int n3), none, none] [] nh) (hX0 : ∀ (nh : wSt), K (.inr nh) → wM p l e (wR 3) s m args below meth c 0 0 (wE below args s D dA b0 ad S0 F) 6 D dA b0 ad S0 335 [some (.ref 188), none, none, none, none, none] [] nh) (hf : wok (fX11_worked_b194_14 h v1 v2 v3 v4) K) : wM p l e (wR 3) s m args below meth c 0 0 (wE below args s D dA b0 ad S0 F) 6 D dA b0 ad S0 194 [some (.ref 188), some (.int v1), some (.int v2), some (.int v3), some (.int v4), none] [] h := by
  unfold fX11_worked_b194_14 at hf
  refine w_aload_n X dX11_worked_194 rfl rfl rfl ?_
  refine w_iload_n X dX11_worked_195 rfl rfl rfl ?_
  obtain ⟨yr37, eyr37, hf⟩ := wok_b hf
  refine w_callV X dX11_worked_196 rfl vl_X11_228 (kX11_tests l  eyr37) S0_188 (As := [.int v2]) (st := []) rfl rfl (Nat.le_of_ble_eq_true rfl) ⟨Nat.le_of_ble_eq_true rfl, Nat.le_of_ble_eq_true rfl⟩ ⟨Nat.zero_le _, Nat.zero_le _⟩ (fun r h2 hF => ?_)
  obtain ⟨rfl, rfl⟩ := hF
  show wM p l e (wR 3) s m args below meth c 0 0 (wE below args s D dA b0 ad S0 F) 6 D dA b0 ad S0 199 [some (.ref 188), some (.int v1), some (.int v2), some (.int v3), some (.int v4), none] [] yr37
  refine w_aload_n X dX11_worked_199 rfl rfl rfl ?_
  refine w_getR X dX11_worked_200 rfl fl_X11_63 S0_188 rfl ?_
  refine w_iload_n X dX11_worked_203 rfl rfl rfl ?_
  refine w_iload X dX11_worked_204 rfl rfl ?_
  obtain ⟨yhg38, hf⟩ := wok_g hf
  refine w_iast X dX11_worked_206 rfl (j := v2.toNatClampNeg) rfl S0_206 yhg38 ?_
  refine w_nmh (fun yh39 eyh39 => ?_)
  have hf := wok_l hf eyh39
  refine w_goto X dX11_worked_207 (t := 329) rfl ?_
  refine w_fg (ls2 := [some (.ref 188), some (.int v1), some (.int v2), some (.int v3), none, none]) ⟨rfl, rfl, rfl, rfl, trivial⟩ ?_
  exact pX11_worked_b329_14 X hr  hN hX0 hf
set_option maxRecDepth 4000 in
theorem pX11_worked_b292_268 (X : wCx p s m args meth c RX11 cX11_worked 6 D dA b0 ad) (hr : meth.sig.returnType = (some .int)) {h : wSt} {v1 : Int32} {v2 : Int32} {v3 : Int32} {w0 : Int32} {K : (Int32 × Int32) ⊕ ((Int32 × Int32)) → Prop} (hN : ∀ (n2 : Int32) (n5 : Int32), K (.inl (n2, n5)) → wM p l e (wR 3) s m args below meth c 0 0 (wE below args s D dA b0 ad S0 F) 6 D dA b0 ad S0 268 [some (.ref 188), some (.int v1), some (.int n2), some (.int v3), none, some (.int n5)] [] h) (hX0 : ∀ (n2 : Int32) (n5 : Int32), K (.inr (n2, n5)) → wM p l e (wR 3) s m args below meth c 0 0 (wE below args s D dA b0 ad S0 F) 6 D dA b0 ad S0 300 [some (.ref 188), some (.int v1), some (.int n2), some (.int v3), none, some (.int n5)] [] h) (hf : wok (fX11_worked_b292_268 h v1 v2 v3 w0) K) : wM p l e (wR 3) s m args below meth c 0 0 (wE below args s D dA b0 ad S0 F) 6 D dA b0 ad S0 292 [some (.ref 188), some (.int v1), some (.int v2), some (.int v3), none, none] [.int w0] h := by
  unfold fX11_worked_b292_268 at hf
  refine w_istore X dX11_worked_292 rfl rfl (Nat.le_of_ble_eq_true rfl) (ls' := [some (.ref 188), some (.int v1), some (.int v2), some (.int v3), none, some (.int w0)]) rfl ?_
  refine w_iinc X dX11_worked_294 rfl (v := (v2 + (-1))) rfl rfl (Nat.le_of_ble_eq_true rfl) (cinc_m1 _) (ls' := [some (.ref 188), some (.int v1), some (.int (v2 + (-1))), some (.int v3), none, some (.int w0)]) rfl ?_
  refine w_goto X dX11_worked_297 (t := 268) rfl ?_
  exact hN _ _ (wok_s hf)
set_option maxRecDepth 4000 in
theorem pX11_worked_l268b (X : wCx p s m args meth c RX11 cX11_worked 6 D dA b0 ad) (hr : meth.sig.returnType = (some .int)) {h : wSt} {v1 : Int32} {v3 : Int32} {v2 : Int32} {v5 : Int32} {K : (Int32 × Int32) ⊕ ((Int32 × Int32)) → Prop} (hN : ∀ (n2 : Int32) (n5 : Int32), K (.inl (n2, n5)) → wM p l e (wR 3) s m args below meth c 0 0 (wE below args s D dA b0 ad S0 F) 6 D dA b0 ad S0 268 [some (.ref 188), some (.int v1), some (.int n2), some (.int v3), none, some (.int n5)] [] h) (hX0 : ∀ (n2 : Int32) (n5 : Int32), K (.inr (n2, n5)) → wM p l e (wR 3) s m args below meth c 0 0 (wE below args s D dA b0 ad S0 F) 6 D dA b0 ad S0 300 [some (.ref 188), some (.int v1), some (.int n2), some (.int v3), none, some (.int n5)] [] h) (hf : wok (fX11_worked_l268 h v1 v3 v2 v5) K) : wM p l e (wR 3) s m args below meth c 0 0 (wE below args s D dA b0 ad S0 F) 6 D dA b0 ad S0 268 [some (.ref 188), some (.int v1), some (.int v2), some (.int v3), none, some (.int v5)] [] h := by
  unfold fX11_worked_l268 at hf
  refine w_iload_n X dX11_worked_268 rfl rfl rfl ?_
  refine w_if_le X dX11_worked_269 rfl (t := 300) rfl (fun hc => ?_) (fun hc => ?_)
  · have hf := wok_t hf hc
    exact hX0 _ _ (wok_s hf)
  · have hf := wok_f hf hc
    refine w_aload_n X dX11_worked_272 rfl rfl rfl ?_
    refine w_getR X dX11_worked_273 rfl fl_X11_84 S0_188 rfl ?_
    refine w_iload_n X dX11_worked_276 rfl rfl rfl ?_
    obtain ⟨yhg40, hf⟩ := wok_g hf
    refine w_iald X dX11_worked_277 rfl (j := v2.toNatClampNeg) rfl S0_213 yhg40 ?_
    refine w_iconst X dX11_worked_278 rfl ci_1 ?_
    refine w_icmp_ne X dX11_worked_279 rfl (t := 300) rfl (fun hc => ?_) (fun hc => ?_)
    · have hf := wok_f hf hc
      exact hX0 _ _ (wok_s hf)
    · have hf := wok_t hf hc
      refine w_iload X dX11_worked_282 rfl rfl ?_
      refine w_if_ne X dX11_worked_284 rfl (t := 291) rfl (fun hc => ?_) (fun hc => ?_)
      · have hf := wok_f hf hc
        refine w_iconst X dX11_worked_291 rfl ci_0 ?_
        refine w_fg (ls2 := [some (.ref 188), some (.int v1), some (.int v2), some (.int v3), none, none]) ⟨rfl, rfl, rfl, rfl, trivial⟩ ?_
        exact pX11_worked_b292_268 X hr  hN hX0 hf
      · have hf := wok_t hf hc
        refine w_iconst X dX11_worked_287 rfl ci_1 ?_
        refine w_goto X dX11_worked_288 (t := 292) rfl ?_
        refine w_fg (ls2 := [some (.ref 188), some (.int v1), some (.int v2), some (.int v3), none, none]) ⟨rfl, rfl, rfl, rfl, trivial⟩ ?_
        exact pX11_worked_b292_268 X hr  hN hX0 hf
set_option maxRecDepth 4000 in
theorem pX11_worked_l268 (X : wCx p s m args meth c RX11 cX11_worked 6 D dA b0 ad) (hr : meth.sig.returnType = (some .int)) {h : wSt} {v1 : Int32} {v3 : Int32} {KE : (Int32 × Int32) → Prop} (hX0 : ∀ (n2 : Int32) (n5 : Int32), KE ((n2, n5)) → wM p l e (wR 3) s m args below meth c 0 0 (wE below args s D dA b0 ad S0 F) 6 D dA b0 ad S0 300 [some (.ref 188), some (.int v1), some (.int n2), some (.int v3), none, some (.int n5)] [] h) : ∀ (n : Nat) (v2 : Int32) (v5 : Int32), wok (wit (fun v : (Int32 × Int32) => fX11_worked_l268 h v1 v3 v.1 v.2) n (v2, v5)) KE → wM p l e (wR 3) s m args below meth c 0 0 (wE below args s D dA b0 ad S0 F) 6 D dA b0 ad S0 268 [some (.ref 188), some (.int v1), some (.int v2), some (.int v3), none, some (.int v5)] [] h := by
  have key := wit_M (b := (fun v : (Int32 × Int32) => fX11_worked_l268 h v1 v3 v.1 v.2)) (KE := KE) (G := fun v => wM p l e (wR 3) s m args below meth c 0 0 (wE below args s D dA b0 ad S0 F) 6 D dA b0 ad S0 268 [some (.ref 188), some (.int v1), some (.int v.1), some (.int v3), none, some (.int v.2)] [] h) (fun v K hN hE hf => pX11_worked_l268b X hr  (fun n2 n5 hz => hN (n2, n5) hz) (fun z0 z1 hz => hX0 z0 z1 (hE _ hz)) hf)
  exact fun n v2 v5 hf => key n (v2, v5) hf
set_option maxRecDepth 4000 in
theorem pX11_worked_b328_14 (X : wCx p s m args meth c RX11 cX11_worked 6 D dA b0 ad) (hr : meth.sig.returnType = (some .int)) {h : wSt} {v1 : Int32} {v2 : Int32} {v3 : Int32} {w1 : Int32} {w2 : Int32} {K : (Int32 × Int32 × wSt) ⊕ ((wSt)) → Prop} (hN : ∀ (n2 : Int32) (n3 : Int32) (nh : wSt), K (.inl (n2, n3, nh)) → wM p l e (wR 3) s m args below meth c 0 0 (wE below args s D dA b0 ad S0 F) 6 D dA b0 ad S0 14 [some (.ref 188), some (.int v1), some (.int n2), some (.int n3), none, none] [] nh) (hX0 : ∀ (nh : wSt), K (.inr nh) → wM p l e (wR 3) s m args below meth c 0 0 (wE below args s D dA b0 ad S0 F) 6 D dA b0 ad S0 335 [some (.ref 188), none, none, none, none, none] [] nh) (hf : wok (fX11_worked_b328_14 h v1 v2 v3 w1 w2) K) : wM p l e (wR 3) s m args below meth c 0 0 (wE below args s D dA b0 ad S0 F) 6 D dA b0 ad S0 328 [some (.ref 188), some (.int v1), some (.int v2), some (.int v3), none, none] [.int w2, .int w1, .ref 211] h := by
  unfold fX11_worked_b328_14 at hf
  obtain ⟨yhg45, hf⟩ := wok_g hf
  refine w_iast X dX11_worked_328 rfl (j := w1.toNatClampNeg) rfl S0_211 yhg45 ?_
  refine w_nmh (fun yh46 eyh46 => ?_)
  have hf := wok_l hf eyh46
  exact pX11_worked_b329_14 X hr  hN hX0 hf
set_option maxRecDepth 4000 in
theorem pX11_worked_b243_14 (X : wCx p s m args meth c RX11 cX11_worked 6 D dA b0 ad) (hr : meth.sig.returnType = (some .int)) {h : wSt} {v1 : Int32} {v2 : Int32} {v3 : Int32} {v4 : Int32} {w0 : Int32} {K : (Int32 × Int32 × wSt) ⊕ ((wSt)) → Prop} (hN : ∀ (n2 : Int32) (n3 : Int32) (nh : wSt), K (.inl (n2, n3, nh)) → wM p l e (wR 3) s m args below meth c 0 0 (wE below args s D dA b0 ad S0 F) 6 D dA b0 ad S0 14 [some (.ref 188), some (.int v1), some (.int n2), some (.int n3), none, none] [] nh) (hX0 : ∀ (nh : wSt), K (.inr nh) → wM p l e (wR 3) s m args below meth c 0 0 (wE below args s D dA b0 ad S0 F) 6 D dA b0 ad S0 335 [some (.ref 188), none, none, none, none, none] [] nh) (hf : wok (fX11_worked_b243_14 h v1 v2 v3 v4 w0) K) : wM p l e (wR 3) s m args below meth c 0 0 (wE below args s D dA b0 ad S0 F) 6 D dA b0 ad S0 243 [some (.ref 188), some (.int v1), some (.int v2), some (.int v3), some (.int v4), none] [.int w0] h := by
  unfold fX11_worked_b243_14 at hf
  refine w_istore X dX11_worked_243 rfl rfl (Nat.le_of_ble_eq_true rfl) (ls' := [some (.ref 188), some (.int v1), some (.int v2), some (.int v3), some (.int v4), some (.int w0)]) rfl ?_
  refine w_iload X dX11_worked_245 rfl rfl ?_
  refine w_bipush X dX11_worked_247 rfl cb_29 ?_
  refine w_icmp_ne X dX11_worked_249 rfl (t := 268) rfl (fun hc => ?_) (fun hc => ?_)
  · have hf := wok_f hf hc
    refine w_fg (ls2 := [some (.ref 188), some (.int v1), some (.int v2), some (.int v3), none, some (.int w0)]) ⟨rfl, rfl, rfl, rfl, rfl, trivial⟩ ?_
    obtain ⟨ye41, hye41, hf⟩ := wok_b hf
    refine pX11_worked_l268 X hr  (KE := fun z => ye41 = z) ?_ 3000 _ _ ⟨ye41, hye41, rfl⟩
    · intro yz42 yz43 hz
      subst hz
      refine w_aload_n X dX11_worked_300 rfl rfl rfl ?_
      refine w_getR X dX11_worked_301 rfl fl_X11_78 S0_188 rfl ?_
      refine w_iload_n X dX11_worked_304 rfl rfl rfl ?_
      refine w_aload_n X dX11_worked_305 rfl rfl rfl ?_
      refine w_getR X dX11_worked_306 rfl fl_X11_81 S0_188 rfl ?_
      refine w_iload_n X dX11_worked_309 rfl rfl rfl ?_
      obtain ⟨yhg44, hf⟩ := wok_g hf
      refine w_iald X dX11_worked_310 rfl (j := yz42.toNatClampNeg) rfl S0_212 yhg44 ?_
      refine w_if_ne X dX11_worked_311 rfl (t := 319) rfl (fun hc => ?_) (fun hc => ?_)
      · have hf := wok_f hf hc
        refine w_aload_n X dX11_worked_319 rfl rfl rfl ?_
        refine w_getR X dX11_worked_320 rfl fl_X11_78 S0_188 rfl ?_
        refine w_iload_n X dX11_worked_323 rfl rfl rfl ?_
        refine w_iald X dX11_worked_324 rfl (j := yz42.toNatClampNeg) rfl S0_211 yhg44 ?_
        refine w_iload X dX11_worked_325 rfl rfl ?_
        refine w_imul X dX11_worked_327 rfl ?_
        refine w_fg (ls2 := [some (.ref 188), some (.int v1), some (.int yz42), some (.int v3), none, none]) ⟨rfl, rfl, rfl, rfl, trivial⟩ ?_
        exact pX11_worked_b328_14 X hr  hN hX0 hf
      · have hf := wok_t hf hc
        refine w_iload X dX11_worked_314 rfl rfl ?_
        refine w_goto X dX11_worked_316 (t := 328) rfl ?_
        refine w_fg (ls2 := [some (.ref 188), some (.int v1), some (.int yz42), some (.int v3), none, none]) ⟨rfl, rfl, rfl, rfl, trivial⟩ ?_
        exact pX11_worked_b328_14 X hr  hN hX0 hf
  · have hf := wok_t hf hc
    refine w_aload_n X dX11_worked_252 rfl rfl rfl ?_
    refine w_iload_n X dX11_worked_253 rfl rfl rfl ?_
    obtain ⟨yr47, eyr47, hf⟩ := wok_b hf
    refine w_callV X dX11_worked_254 rfl vl_X11_228 (kX11_tests l  eyr47) S0_188 (As := [.int v2]) (st := []) rfl rfl (Nat.le_of_ble_eq_true rfl) ⟨Nat.le_of_ble_eq_true rfl, Nat.le_of_ble_eq_true rfl⟩ ⟨Nat.zero_le _, Nat.zero_le _⟩ (fun r h2 hF => ?_)
    obtain ⟨rfl, rfl⟩ := hF
    show wM p l e (wR 3) s m args below meth c 0 0 (wE below args s D dA b0 ad S0 F) 6 D dA b0 ad S0 257 [some (.ref 188), some (.int v1), some (.int v2), some (.int v3), some (.int v4), some (.int w0)] [] yr47
    refine w_aload_n X dX11_worked_257 rfl rfl rfl ?_
    refine w_getR X dX11_worked_258 rfl fl_X11_60 S0_188 rfl ?_
    refine w_iload_n X dX11_worked_261 rfl rfl rfl ?_
    obtain ⟨yhg48, hf⟩ := wok_g hf
    refine w_iald X dX11_worked_262 rfl (j := v2.toNatClampNeg) rfl S0_205 yhg48 ?_
    refine w_istore X dX11_worked_263 rfl rfl (Nat.le_of_ble_eq_true rfl) (ls' := [some (.ref 188), some (.int v1), some (.int v2), some (.int v3), some (.int v4), some (.int (yr47.1 205 v2.toNatClampNeg))]) rfl ?_
    refine w_iinc X dX11_worked_265 rfl (v := (v2 + (-1))) rfl rfl (Nat.le_of_ble_eq_true rfl) (cinc_m1 _) (ls' := [some (.ref 188), some (.int v1), some (.int (v2 + (-1))), some (.int v3), some (.int v4), some (.int (yr47.1 205 v2.toNatClampNeg))]) rfl ?_
    refine w_fg (ls2 := [some (.ref 188), some (.int v1), some (.int (v2 + (-1))), some (.int v3), none, some (.int (yr47.1 205 v2.toNatClampNeg))]) ⟨rfl, rfl, rfl, rfl, rfl, trivial⟩ ?_
    obtain ⟨ye49, hye49, hf⟩ := wok_b hf
    refine pX11_worked_l268 X hr  (KE := fun z => ye49 = z) ?_ 3000 _ _ ⟨ye49, hye49, rfl⟩
    · intro yz50 yz51 hz
      subst hz
      refine w_aload_n X dX11_worked_300 rfl rfl rfl ?_
      refine w_getR X dX11_worked_301 rfl fl_X11_78 S0_188 rfl ?_
      refine w_iload_n X dX11_worked_304 rfl rfl rfl ?_
      refine w_aload_n X dX11_worked_305 rfl rfl rfl ?_
      refine w_getR X dX11_worked_306 rfl fl_X11_81 S0_188 rfl ?_
      refine w_iload_n X dX11_worked_309 rfl rfl rfl ?_
      obtain ⟨yhg52, hf⟩ := wok_g hf
      refine w_iald X dX11_worked_310 rfl (j := yz50.toNatClampNeg) rfl S0_212 yhg52 ?_
      refine w_if_ne X dX11_worked_311 rfl (t := 319) rfl (fun hc => ?_) (fun hc => ?_)
      · have hf := wok_f hf hc
        refine w_aload_n X dX11_worked_319 rfl rfl rfl ?_
        refine w_getR X dX11_worked_320 rfl fl_X11_78 S0_188 rfl ?_
        refine w_iload_n X dX11_worked_323 rfl rfl rfl ?_
        refine w_iald X dX11_worked_324 rfl (j := yz50.toNatClampNeg) rfl S0_211 yhg52 ?_
        refine w_iload X dX11_worked_325 rfl rfl ?_
        refine w_imul X dX11_worked_327 rfl ?_
        refine w_fg (ls2 := [some (.ref 188), some (.int v1), some (.int yz50), some (.int v3), none, none]) ⟨rfl, rfl, rfl, rfl, trivial⟩ ?_
        exact pX11_worked_b328_14 X hr  hN hX0 hf
      · have hf := wok_t hf hc
        refine w_iload X dX11_worked_314 rfl rfl ?_
        refine w_goto X dX11_worked_316 (t := 328) rfl ?_
        refine w_fg (ls2 := [some (.ref 188), some (.int v1), some (.int yz50), some (.int v3), none, none]) ⟨rfl, rfl, rfl, rfl, trivial⟩ ?_
        exact pX11_worked_b328_14 X hr  hN hX0 hf
set_option maxRecDepth 4000 in
theorem pX11_worked_l14b (X : wCx p s m args meth c RX11 cX11_worked 6 D dA b0 ad) (hr : meth.sig.returnType = (some .int)) {h : wSt} {v1 : Int32} {v2 : Int32} {v3 : Int32} {K : (Int32 × Int32 × wSt) ⊕ ((wSt)) → Prop} (hN : ∀ (n2 : Int32) (n3 : Int32) (nh : wSt), K (.inl (n2, n3, nh)) → wM p l e (wR 3) s m args below meth c 0 0 (wE below args s D dA b0 ad S0 F) 6 D dA b0 ad S0 14 [some (.ref 188), some (.int v1), some (.int n2), some (.int n3), none, none] [] nh) (hX0 : ∀ (nh : wSt), K (.inr nh) → wM p l e (wR 3) s m args below meth c 0 0 (wE below args s D dA b0 ad S0 F) 6 D dA b0 ad S0 335 [some (.ref 188), none, none, none, none, none] [] nh) (hf : wok (fX11_worked_l14 h v1 v2 v3) K) : wM p l e (wR 3) s m args below meth c 0 0 (wE below args s D dA b0 ad S0 F) 6 D dA b0 ad S0 14 [some (.ref 188), some (.int v1), some (.int v2), some (.int v3), none, none] [] h := by
  unfold fX11_worked_l14 at hf
  refine w_iload_n X dX11_worked_14 rfl rfl rfl ?_
  refine w_aload_n X dX11_worked_15 rfl rfl rfl ?_
  refine w_getR X dX11_worked_16 rfl fl_X11_47 S0_188 rfl ?_
  refine w_iload_n X dX11_worked_19 rfl rfl rfl ?_
  obtain ⟨yhg23, hf⟩ := wok_g hf
  refine w_iald X dX11_worked_20 rfl (j := v1.toNatClampNeg) rfl S0_201 yhg23 ?_
  refine w_icmp_ge X dX11_worked_21 rfl (t := 335) rfl (fun hc => ?_) (fun hc => ?_)
  · have hf := wok_t hf hc
    refine w_fg (ls2 := [some (.ref 188), none, none, none, none, none]) ⟨rfl, trivial⟩ ?_
    exact hX0 _ (wok_s hf)
  · have hf := wok_f hf hc
    refine w_aload_n X dX11_worked_24 rfl rfl rfl ?_
    refine w_getR X dX11_worked_25 rfl fl_X11_50 S0_188 rfl ?_
    refine w_iload_n X dX11_worked_28 rfl rfl rfl ?_
    obtain ⟨yhg24, hf⟩ := wok_g hf
    refine w_iald X dX11_worked_29 rfl (j := v3.toNatClampNeg) rfl S0_202 yhg24 ?_
    refine w_istore X dX11_worked_30 rfl rfl (Nat.le_of_ble_eq_true rfl) (ls' := [some (.ref 188), some (.int v1), some (.int v2), some (.int v3), some (.int (h.1 202 v3.toNatClampNeg)), none]) rfl ?_
    refine w_iload X dX11_worked_32 rfl rfl ?_
    refine w_bipush X dX11_worked_34 rfl cb_28 ?_
    refine w_icmp_eq X dX11_worked_36 rfl (t := 46) rfl (fun hc => ?_) (fun hc => ?_)
    · have hf := wok_t hf hc
      exact pX11_worked_b46_14 X hr  hN hX0 hf
    · have hf := wok_f hf hc
      refine w_iload X dX11_worked_39 rfl rfl ?_
      refine w_bipush X dX11_worked_41 rfl cb_30 ?_
      refine w_icmp_ne X dX11_worked_43 rfl (t := 75) rfl (fun hc => ?_) (fun hc => ?_)
      · have hf := wok_f hf hc
        refine w_iload X dX11_worked_75 rfl rfl ?_
        refine w_bipush X dX11_worked_77 rfl cb_20 ?_
        refine w_icmp_eq X dX11_worked_79 rfl (t := 89) rfl (fun hc => ?_) (fun hc => ?_)
        · have hf := wok_t hf hc
          exact pX11_worked_b89_14 X hr  hN hX0 hf
        · have hf := wok_f hf hc
          refine w_iload X dX11_worked_82 rfl rfl ?_
          refine w_bipush X dX11_worked_84 rfl cb_21 ?_
          refine w_icmp_ne X dX11_worked_86 rfl (t := 105) rfl (fun hc => ?_) (fun hc => ?_)
          · have hf := wok_f hf hc
            refine w_iload X dX11_worked_105 rfl rfl ?_
            refine w_bipush X dX11_worked_107 rfl cb_22 ?_
            refine w_icmp_ne X dX11_worked_109 rfl (t := 123) rfl (fun hc => ?_) (fun hc => ?_)
            · have hf := wok_f hf hc
              refine w_iload X dX11_worked_123 rfl rfl ?_
              refine w_bipush X dX11_worked_125 rfl cb_24 ?_
              refine w_icmp_eq X dX11_worked_127 rfl (t := 137) rfl (fun hc => ?_) (fun hc => ?_)
              · have hf := wok_t hf hc
                exact pX11_worked_b137_14 X hr  hN hX0 hf
              · have hf := wok_f hf hc
                refine w_iload X dX11_worked_130 rfl rfl ?_
                refine w_bipush X dX11_worked_132 rfl cb_25 ?_
                refine w_icmp_ne X dX11_worked_134 rfl (t := 180) rfl (fun hc => ?_) (fun hc => ?_)
                · have hf := wok_f hf hc
                  refine w_iload X dX11_worked_180 rfl rfl ?_
                  refine w_bipush X dX11_worked_182 rfl cb_26 ?_
                  refine w_icmp_eq X dX11_worked_184 rfl (t := 194) rfl (fun hc => ?_) (fun hc => ?_)
                  · have hf := wok_t hf hc
                    exact pX11_worked_b194_14 X hr  hN hX0 hf
                  · have hf := wok_f hf hc
                    refine w_iload X dX11_worked_187 rfl rfl ?_
                    refine w_bipush X dX11_worked_189 rfl cb_27 ?_
                    refine w_icmp_ne X dX11_worked_191 rfl (t := 210) rfl (fun hc => ?_) (fun hc => ?_)
                    · have hf := wok_f hf hc
                      refine w_iload X dX11_worked_210 rfl rfl ?_
                      refine w_bipush X dX11_worked_212 rfl cb_100 ?_
                      refine w_icmp_lt X dX11_worked_214 rfl (t := 225) rfl (fun hc => ?_) (fun hc => ?_)
                      · have hf := wok_t hf hc
                        refine w_iload X dX11_worked_225 rfl rfl ?_
                        refine w_bipush X dX11_worked_227 rfl cb_20 ?_
                        refine w_icmp_ge X dX11_worked_229 rfl (t := 242) rfl (fun hc => ?_) (fun hc => ?_)
                        · have hf := wok_t hf hc
                          refine w_iconst X dX11_worked_242 rfl ci_0 ?_
                          exact pX11_worked_b243_14 X hr  hN hX0 hf
                        · have hf := wok_f hf hc
                          refine w_aload_n X dX11_worked_232 rfl rfl rfl ?_
                          refine w_getR X dX11_worked_233 rfl fl_X11_87 S0_188 rfl ?_
                          refine w_iload X dX11_worked_236 rfl rfl ?_
                          obtain ⟨yhg53, hf⟩ := wok_g hf
                          refine w_iald X dX11_worked_238 rfl (j := (h.1 202 v3.toNatClampNeg).toNatClampNeg) rfl S0_214 yhg53 ?_
                          refine w_goto X dX11_worked_239 (t := 243) rfl ?_
                          exact pX11_worked_b243_14 X hr  hN hX0 hf
                      · have hf := wok_f hf hc
                        refine w_iload X dX11_worked_217 rfl rfl ?_
                        refine w_bipush X dX11_worked_219 rfl cb_100 ?_
                        refine w_isub X dX11_worked_221 rfl ?_
                        refine w_goto X dX11_worked_222 (t := 243) rfl ?_
                        exact pX11_worked_b243_14 X hr  hN hX0 hf
                    · have hf := wok_t hf hc
                      exact pX11_worked_b194_14 X hr  hN hX0 hf
                · have hf := wok_t hf hc
                  exact pX11_worked_b137_14 X hr  hN hX0 hf
            · have hf := wok_t hf hc
              refine w_aload_n X dX11_worked_112 rfl rfl rfl ?_
              refine w_getR X dX11_worked_113 rfl fl_X11_81 S0_188 rfl ?_
              refine w_iload_n X dX11_worked_116 rfl rfl rfl ?_
              refine w_iload X dX11_worked_117 rfl rfl ?_
              obtain ⟨yhg54, hf⟩ := wok_g hf
              refine w_iast X dX11_worked_119 rfl (j := v2.toNatClampNeg) rfl S0_212 yhg54 ?_
              refine w_nmh (fun yh55 eyh55 => ?_)
              have hf := wok_l hf eyh55
              refine w_goto X dX11_worked_120 (t := 329) rfl ?_
              refine w_fg (ls2 := [some (.ref 188), some (.int v1), some (.int v2), some (.int v3), none, none]) ⟨rfl, rfl, rfl, rfl, trivial⟩ ?_
              exact pX11_worked_b329_14 X hr  hN hX0 hf
          · have hf := wok_t hf hc
            exact pX11_worked_b89_14 X hr  hN hX0 hf
      · have hf := wok_t hf hc
        exact pX11_worked_b46_14 X hr  hN hX0 hf
set_option maxRecDepth 4000 in
theorem pX11_worked_l14 (X : wCx p s m args meth c RX11 cX11_worked 6 D dA b0 ad) (hr : meth.sig.returnType = (some .int))  {v1 : Int32} {KE : (wSt) → Prop} (hX0 : ∀ (nh : wSt), KE (nh) → wM p l e (wR 3) s m args below meth c 0 0 (wE below args s D dA b0 ad S0 F) 6 D dA b0 ad S0 335 [some (.ref 188), none, none, none, none, none] [] nh) : ∀ (n : Nat) (v2 : Int32) (v3 : Int32) (h : wSt), wok (wit (fun v : (Int32 × Int32 × wSt) => fX11_worked_l14 v.2.2 v1 v.1 v.2.1) n (v2, v3, h)) KE → wM p l e (wR 3) s m args below meth c 0 0 (wE below args s D dA b0 ad S0 F) 6 D dA b0 ad S0 14 [some (.ref 188), some (.int v1), some (.int v2), some (.int v3), none, none] [] h := by
  have key := wit_M (b := (fun v : (Int32 × Int32 × wSt) => fX11_worked_l14 v.2.2 v1 v.1 v.2.1)) (KE := KE) (G := fun v => wM p l e (wR 3) s m args below meth c 0 0 (wE below args s D dA b0 ad S0 F) 6 D dA b0 ad S0 14 [some (.ref 188), some (.int v1), some (.int v.1), some (.int v.2.1), none, none] [] v.2.2) (fun v K hN hE hf => pX11_worked_l14b X hr  (fun n2 n3 nh hz => hN (n2, n3, nh) hz) (fun z0 hz => hX0 z0 (hE _ hz)) hf)
  exact fun n v2 v3 h hf => key n (v2, v3, h) hf
set_option maxRecDepth 4000 in
theorem pX11_worked_b0 (X : wCx p s m args meth c RX11 cX11_worked 6 D dA b0 ad) (hr : meth.sig.returnType = (some .int)) {h : wSt} {x0 : Int32} {K : Int32 × wSt → Prop} (hT : ∀ (x : Int32) (h2 : wSt), K (x, h2) → F (some (.int x)) h2) (hf : wok (fX11_worked h x0) K) : wM p l e (wR 3) s m args below meth c 0 0 (wE below args s D dA b0 ad S0 F) 6 D dA b0 ad S0 0 [some (.ref 188), some (.int x0), none, none, none, none] [] h := by
  unfold fX11_worked at hf
  refine w_iconst X dX11_worked_0 rfl ci_0 ?_
  refine w_istore_n X dX11_worked_1 rfl rfl rfl (Nat.le_of_ble_eq_true rfl) (ls' := [some (.ref 188), some (.int x0), some (.int 0), none, none, none]) rfl ?_
  refine w_aload_n X dX11_worked_2 rfl rfl rfl ?_
  refine w_iconst X dX11_worked_3 rfl ci_0 ?_
  obtain ⟨yr21, eyr21, hf⟩ := wok_b hf
  refine w_callV X dX11_worked_4 rfl vl_X11_225 (kX11_opens l  eyr21) S0_188 (As := [.int 0]) (st := []) rfl rfl (Nat.le_of_ble_eq_true rfl) ⟨Nat.le_of_ble_eq_true rfl, Nat.le_of_ble_eq_true rfl⟩ ⟨Nat.zero_le _, Nat.zero_le _⟩ (fun r h2 hF => ?_)
  obtain ⟨rfl, rfl⟩ := hF
  show wM p l e (wR 3) s m args below meth c 0 0 (wE below args s D dA b0 ad S0 F) 6 D dA b0 ad S0 7 [some (.ref 188), some (.int x0), some (.int 0), none, none, none] [] yr21
  refine w_aload_n X dX11_worked_7 rfl rfl rfl ?_
  refine w_getR X dX11_worked_8 rfl fl_X11_44 S0_188 rfl ?_
  refine w_iload_n X dX11_worked_11 rfl rfl rfl ?_
  obtain ⟨yhg22, hf⟩ := wok_g hf
  refine w_iald X dX11_worked_12 rfl (j := x0.toNatClampNeg) rfl S0_200 yhg22 ?_
  refine w_istore_n X dX11_worked_13 rfl rfl rfl (Nat.le_of_ble_eq_true rfl) (ls' := [some (.ref 188), some (.int x0), some (.int 0), some (.int (yr21.1 200 x0.toNatClampNeg)), none, none]) rfl ?_
  obtain ⟨ye56, hye56, hf⟩ := wok_b hf
  refine pX11_worked_l14 X hr  (KE := fun z => ye56 = z) ?_ 3000 _ _ _ ⟨ye56, hye56, rfl⟩
  · intro yz57 hz
    subst hz
    refine w_aload_n X dX11_worked_335 rfl rfl rfl ?_
    refine w_iconst X dX11_worked_336 rfl ci_0 ?_
    obtain ⟨yr58, eyr58, hf⟩ := wok_b hf
    refine w_callV X dX11_worked_337 rfl vl_X11_228 (kX11_tests l  eyr58) S0_188 (As := [.int 0]) (st := []) rfl rfl (Nat.le_of_ble_eq_true rfl) ⟨Nat.le_of_ble_eq_true rfl, Nat.le_of_ble_eq_true rfl⟩ ⟨Nat.zero_le _, Nat.zero_le _⟩ (fun r h2 hF => ?_)
    obtain ⟨rfl, rfl⟩ := hF
    show wM p l e (wR 3) s m args below meth c 0 0 (wE below args s D dA b0 ad S0 F) 6 D dA b0 ad S0 340 [some (.ref 188), none, none, none, none, none] [] yr58
    refine w_aload_n X dX11_worked_340 rfl rfl rfl ?_
    refine w_getR X dX11_worked_341 rfl fl_X11_60 S0_188 rfl ?_
    refine w_iconst X dX11_worked_344 rfl ci_0 ?_
    refine w_iald X dX11_worked_345 rfl (j := 0) cn_0 S0_205 (show wib 0 7 by decide) ?_
    exact w_iret X dX11_worked_346 hr (hT _ _ (wok_s hf))
set_option maxRecDepth 4000 in
theorem kX11_worked (l : Launch) {h : wSt} {x0 : Int32} {res : Int32 × wSt} (hf : fX11_worked h x0 = some res) : wC l yX11_worked cX11_worked 6 (some .int) 3 S0 [.ref 188, .int x0] h (wFI (fun a b => res.1 = a ∧ res.2 = b)) := by
  refine w_meth2 4 (by decide) (Nat.le_of_ble_eq_true rfl) (ls := [some (.ref 188), some (.int x0), none, none, none, none]) rfl ?_
  intro p e s m args below meth c D dA b0 ad X hr
  exact pX11_worked_b0 X hr  (K := fun z => res = z) (fun x h2 hz => ⟨x, rfl, by rw [hz], by rw [hz]⟩) ⟨res, hf, rfl⟩
end WX

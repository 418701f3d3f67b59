def fX2_copyFrom (h : wSt) (k : Nat) (k0 : Nat) : Option (wSt) :=
if wcp (h.1 k0 1) 1000 1000 then
wlet (wsI h (k + 1) (va_cpy (h.1 (k0 + 1)) (h.1 (k + 1)) 0 0 (h.1 k0 1).toNatClampNeg)) (fun yh22 =>
wlet (wuI yh22 k 1 (yh22.1 k0 1)) (fun yh23 =>
some yh23))
else none
def fX2_add (h : wSt) (k : Nat) (x0 : Int32) : Option (wSt) :=
if 1000 ≤ (h.1 k 1) then
some h
else
if wib (h.1 k 1) 1000 then
wlet (wuI h (k + 1) (h.1 k 1).toNatClampNeg x0) (fun yh22 =>
wlet (wuI yh22 k 1 ((yh22.1 k 1) + 1)) (fun yh23 =>
some yh23))
else none
def fX2_setUntold (h : wSt) (k : Nat) : Option (wSt) :=
wlet (wuI h k 2 0) (fun yh21 =>
wlet (wuI yh21 k 1 0) (fun yh22 =>
(fX2_add yh22 k (-2 : Int32)).bind (fun yr23 =>
(fX2_add yr23 k (2 : Int32)).bind (fun yr24 =>
(fX2_add yr24 k (-12 : Int32)).bind (fun yr25 =>
(fX2_add yr25 k (-3 : Int32)).bind (fun yr26 =>
(fX2_add yr26 k (-11 : Int32)).bind (fun yr27 =>
(fX2_add yr27 k (-1 : Int32)).bind (fun yr28 =>
(fX2_add yr28 k (-8 : Int32)).bind (fun yr29 =>
some yr29)))))))))
def fX2_jointAt (h : wSt) (x1 : Int32) : Option (Int32) :=
if x1 = 0 then
(fX7_isWord h 19).bind (fun yr22 =>
if yr22 = true then
some (-6 : Int32)
else
(fX7_isWord h 20).bind (fun yr23 =>
if yr23 = true then
some (-7 : Int32)
else
some (0 : Int32)))
else if x1 = 1 then
(fX7_isSign h (60 : Int32)).bind (fun yr25 =>
if yr25 = true then
some (-8 : Int32)
else
(fX7_isSign h (61 : Int32)).bind (fun yr26 =>
if yr26 = true then
some (-9 : Int32)
else
some (0 : Int32)))
else if x1 = 2 then
(fX7_isSign h (43 : Int32)).bind (fun yr28 =>
if yr28 = true then
some (-10 : Int32)
else
(fX7_isSign h (45 : Int32)).bind (fun yr29 =>
if yr29 = true then
some (-11 : Int32)
else
some (0 : Int32)))
else 
(fX7_isSign h (42 : Int32)).bind (fun yr30 =>
if yr30 = true then
some (-12 : Int32)
else
some (0 : Int32))
def fX2_factAt (h : wSt) : Option (Int32) :=
(fX7_isWord h 21).bind (fun yr21 =>
if yr21 = true then
some (-1 : Int32)
else
(fX7_isWord h 22).bind (fun yr22 =>
if yr22 = true then
some (-2 : Int32)
else
(fX7_isWord h 23).bind (fun yr23 =>
if yr23 = true then
some (-3 : Int32)
else
(fX7_isWord h 24).bind (fun yr24 =>
if yr24 = true then
some (-4 : Int32)
else
some (0 : Int32)))))
section WX
variable {p : Program} {l : Launch} {e : Env} {s : State} {m : MethodId} {args : Array Value} {below : List Frame} {meth : Method} {c : Code} {D : va_G} {dA : Nat → ClassId} {b0 : Nat} {ad : Nat → Nat} {F : Option Value → wSt → Prop}
set_option maxRecDepth 4000 in
theorem pX2_copyFrom_b0 (X : wCx p s m args meth c RX2 cX2_copyFrom 2 D dA b0 ad) (hr : meth.sig.returnType = none) {h : wSt} {k : Nat} {k0 : Nat} (hk : wI2 k) (hk0 : wI2 k0) {K : wSt → Prop} (hT : ∀ (h2 : wSt), K h2 → F none h2) (hf : wok (fX2_copyFrom h k k0) K) : wM p l e (wR 1) s m args below meth c 0 0 (wE below args s D dA b0 ad S0 F) 2 D dA b0 ad S0 0 [some (.ref k), some (.ref k0)] [] h := by
  unfold fX2_copyFrom at hf
  refine w_aload_n X dX2_copyFrom_0 rfl rfl rfl ?_
  refine w_getR X dX2_copyFrom_1 rfl fl_X2_9 hk0.1 rfl ?_
  refine w_iconst X dX2_copyFrom_4 rfl ci_0 ?_
  refine w_aload_n X dX2_copyFrom_5 rfl rfl rfl ?_
  refine w_getR X dX2_copyFrom_6 rfl fl_X2_9 hk.1 rfl ?_
  refine w_iconst X dX2_copyFrom_9 rfl ci_0 ?_
  refine w_aload_n X dX2_copyFrom_10 rfl rfl rfl ?_
  refine w_getI X dX2_copyFrom_11 rfl fl_X2_18 hk0.1 rfl ?_
  obtain ⟨yhg21, hf⟩ := wok_g hf
  refine w_copyI X dX2_copyFrom_14 rfl cn_0 cn_0 (n2 := (h.1 k0 1).toNatClampNeg) rfl wd_664 wd_659 wd_658 wd_19 hk0.2.1 hk.2.1 (by decide) (by decide) yhg21.1 (by rw [Nat.zero_add]; exact yhg21.2.1) (by rw [Nat.zero_add]; exact yhg21.2.2) (Nat.le_of_ble_eq_true rfl) (Nat.le_of_ble_eq_true rfl) ?_
  refine w_nmh (fun yh22 eyh22 => ?_)
  have hf := wok_l hf eyh22
  refine w_aload_n X dX2_copyFrom_17 rfl rfl rfl ?_
  refine w_aload_n X dX2_copyFrom_18 rfl rfl rfl ?_
  refine w_getI X dX2_copyFrom_19 rfl fl_X2_18 hk0.1 rfl ?_
  refine w_putI X dX2_copyFrom_22 rfl fp_X2_18 hk.1 rfl ?_
  refine w_nmh (fun yh23 eyh23 => ?_)
  have hf := wok_l hf eyh23
  exact w_vret X dX2_copyFrom_25 hr (hT _ (wok_s hf))
set_option maxRecDepth 4000 in
theorem kX2_copyFrom (l : Launch) {h : wSt} {k : Nat} {k0 : Nat} (hk : wI2 k) (hk0 : wI2 k0) {res : wSt} (hf : fX2_copyFrom h k k0 = some res) : wC l yX2_copyFrom cX2_copyFrom 2 none 1 S0 [.ref k, .ref k0] h (wFV (fun b => res = b)) := by
  refine w_meth2 0 (by decide) (Nat.le_of_ble_eq_true rfl) (ls := [some (.ref k), some (.ref k0)]) rfl ?_
  intro p e s m args below meth c D dA b0 ad X hr
  exact pX2_copyFrom_b0 X hr hk hk0 (K := fun z => res = z) (fun h2 hz => ⟨rfl, hz⟩) ⟨res, hf, rfl⟩
set_option maxRecDepth 4000 in
theorem pX2_add_b0 (X : wCx p s m args meth c RX2 cX2_add 2 D dA b0 ad) (hr : meth.sig.returnType = none) {h : wSt} {k : Nat} {x0 : Int32} (hk : wI2 k) {K : wSt → Prop} (hT : ∀ (h2 : wSt), K h2 → F none h2) (hf : wok (fX2_add h k x0) K) : wM p l e (wR 1) s m args below meth c 0 0 (wE below args s D dA b0 ad S0 F) 2 D dA b0 ad S0 0 [some (.ref k), some (.int x0)] [] h := by
  unfold fX2_add at hf
  refine w_aload_n X dX2_add_0 rfl rfl rfl ?_
  refine w_getI X dX2_add_1 rfl fl_X2_18 hk.1 rfl ?_
  refine w_aload_n X dX2_add_4 rfl rfl rfl ?_
  refine w_getR X dX2_add_5 rfl fl_X2_9 hk.1 rfl ?_
  refine w_alenI X dX2_add_8 rfl hk.2.1 rfl ?_
  refine w_icmp_ge X dX2_add_9 rfl (t := 32) rfl (fun hc => ?_) (fun hc => ?_)
  · have hf := wok_t hf hc
    exact w_vret X dX2_add_32 hr (hT _ (wok_s hf))
  · have hf := wok_f hf hc
    refine w_aload_n X dX2_add_12 rfl rfl rfl ?_
    refine w_getR X dX2_add_13 rfl fl_X2_9 hk.1 rfl ?_
    refine w_aload_n X dX2_add_16 rfl rfl rfl ?_
    refine w_getI X dX2_add_17 rfl fl_X2_18 hk.1 rfl ?_
    refine w_iload_n X dX2_add_20 rfl rfl rfl ?_
    obtain ⟨yhg21, hf⟩ := wok_g hf
    refine w_iast X dX2_add_21 rfl (j := (h.1 k 1).toNatClampNeg) rfl hk.2.1 yhg21 ?_
    refine w_nmh (fun yh22 eyh22 => ?_)
    have hf := wok_l hf eyh22
    refine w_aload_n X dX2_add_22 rfl rfl rfl ?_
    refine w_dup X dX2_add_23 rfl rfl ?_
    refine w_getI X dX2_add_24 rfl fl_X2_18 hk.1 rfl ?_
    refine w_iconst X dX2_add_27 rfl ci_1 ?_
    refine w_iadd X dX2_add_28 rfl ?_
    refine w_putI X dX2_add_29 rfl fp_X2_18 hk.1 rfl ?_
    refine w_nmh (fun yh23 eyh23 => ?_)
    have hf := wok_l hf eyh23
    exact w_vret X dX2_add_32 hr (hT _ (wok_s hf))
set_option maxRecDepth 4000 in
theorem kX2_add (l : Launch) {h : wSt} {k : Nat} {x0 : Int32} (hk : wI2 k) {res : wSt} (hf : fX2_add h k x0 = some res) : wC l yX2_add cX2_add 2 none 1 S0 [.ref k, .int x0] h (wFV (fun b => res = b)) := by
  refine w_meth2 0 (by decide) (Nat.le_of_ble_eq_true rfl) (ls := [some (.ref k), some (.int x0)]) rfl ?_
  intro p e s m args below meth c D dA b0 ad X hr
  exact pX2_add_b0 X hr hk (K := fun z => res = z) (fun h2 hz => ⟨rfl, hz⟩) ⟨res, hf, rfl⟩
set_option maxRecDepth 4000 in
theorem pX2_setUntold_b0 (X : wCx p s m args meth c RX2 cX2_setUntold 1 D dA b0 ad) (hr : meth.sig.returnType = none) {h : wSt} {k : Nat} (hk : wI2 k) {K : wSt → Prop} (hT : ∀ (h2 : wSt), K h2 → F none h2) (hf : wok (fX2_setUntold h k) K) : wM p l e (wR 2) s m args below meth c 0 0 (wE below args s D dA b0 ad S0 F) 1 D dA b0 ad S0 0 [some (.ref k)] [] h := by
  unfold fX2_setUntold at hf
  refine w_aload_n X dX2_setUntold_0 rfl rfl rfl ?_
  refine w_iconst X dX2_setUntold_1 rfl ci_0 ?_
  refine w_putZ X dX2_setUntold_2 rfl (hx := rfl) fp_X2_28 hk.1 rfl ?_
  refine w_nmh (fun yh21 eyh21 => ?_)
  have hf := wok_l hf eyh21
  refine w_aload_n X dX2_setUntold_5 rfl rfl rfl ?_
  refine w_iconst X dX2_setUntold_6 rfl ci_0 ?_
  refine w_putI X dX2_setUntold_7 rfl fp_X2_18 hk.1 rfl ?_
  refine w_nmh (fun yh22 eyh22 => ?_)
  have hf := wok_l hf eyh22
  refine w_aload_n X dX2_setUntold_10 rfl rfl rfl ?_
  refine w_bipush X dX2_setUntold_11 rfl cb_m2 ?_
  obtain ⟨yr23, eyr23, hf⟩ := wok_b hf
  refine w_callV X dX2_setUntold_13 rfl vl_X2_32 (kX2_add l hk eyr23) hk.1 (As := [.int (-2)]) (st := []) rfl rfl (Nat.le_of_ble_eq_true rfl) ⟨Nat.le_of_ble_eq_true rfl, Nat.le_of_ble_eq_true rfl⟩ ⟨Nat.zero_le _, Nat.zero_le _⟩ (fun r h2 hF => ?_)
  obtain ⟨rfl, rfl⟩ := hF
  show wM p l e (wR 2) s m args below meth c 0 0 (wE below args s D dA b0 ad S0 F) 1 D dA b0 ad S0 16 [some (.ref k)] [] yr23
  refine w_aload_n X dX2_setUntold_16 rfl rfl rfl ?_
  refine w_iconst X dX2_setUntold_17 rfl ci_2 ?_
  obtain ⟨yr24, eyr24, hf⟩ := wok_b hf
  refine w_callV X dX2_setUntold_18 rfl vl_X2_32 (kX2_add l hk eyr24) hk.1 (As := [.int 2]) (st := []) rfl rfl (Nat.le_of_ble_eq_true rfl) ⟨Nat.le_of_ble_eq_true rfl, Nat.le_of_ble_eq_true rfl⟩ ⟨Nat.zero_le _, Nat.zero_le _⟩ (fun r h2 hF => ?_)
  obtain ⟨rfl, rfl⟩ := hF
  show wM p l e (wR 2) s m args below meth c 0 0 (wE below args s D dA b0 ad S0 F) 1 D dA b0 ad S0 21 [some (.ref k)] [] yr24
  refine w_aload_n X dX2_setUntold_21 rfl rfl rfl ?_
  refine w_bipush X dX2_setUntold_22 rfl cb_m12 ?_
  obtain ⟨yr25, eyr25, hf⟩ := wok_b hf
  refine w_callV X dX2_setUntold_24 rfl vl_X2_32 (kX2_add l hk eyr25) hk.1 (As := [.int (-12)]) (st := []) rfl rfl (Nat.le_of_ble_eq_true rfl) ⟨Nat.le_of_ble_eq_true rfl, Nat.le_of_ble_eq_true rfl⟩ ⟨Nat.zero_le _, Nat.zero_le _⟩ (fun r h2 hF => ?_)
  obtain ⟨rfl, rfl⟩ := hF
  show wM p l e (wR 2) s m args below meth c 0 0 (wE below args s D dA b0 ad S0 F) 1 D dA b0 ad S0 27 [some (.ref k)] [] yr25
  refine w_aload_n X dX2_setUntold_27 rfl rfl rfl ?_
  refine w_bipush X dX2_setUntold_28 rfl cb_m3 ?_
  obtain ⟨yr26, eyr26, hf⟩ := wok_b hf
  refine w_callV X dX2_setUntold_30 rfl vl_X2_32 (kX2_add l hk eyr26) hk.1 (As := [.int (-3)]) (st := []) rfl rfl (Nat.le_of_ble_eq_true rfl) ⟨Nat.le_of_ble_eq_true rfl, Nat.le_of_ble_eq_true rfl⟩ ⟨Nat.zero_le _, Nat.zero_le _⟩ (fun r h2 hF => ?_)
  obtain ⟨rfl, rfl⟩ := hF
  show wM p l e (wR 2) s m args below meth c 0 0 (wE below args s D dA b0 ad S0 F) 1 D dA b0 ad S0 33 [some (.ref k)] [] yr26
  refine w_aload_n X dX2_setUntold_33 rfl rfl rfl ?_
  refine w_bipush X dX2_setUntold_34 rfl cb_m11 ?_
  obtain ⟨yr27, eyr27, hf⟩ := wok_b hf
  refine w_callV X dX2_setUntold_36 rfl vl_X2_32 (kX2_add l hk eyr27) hk.1 (As := [.int (-11)]) (st := []) rfl rfl (Nat.le_of_ble_eq_true rfl) ⟨Nat.le_of_ble_eq_true rfl, Nat.le_of_ble_eq_true rfl⟩ ⟨Nat.zero_le _, Nat.zero_le _⟩ (fun r h2 hF => ?_)
  obtain ⟨rfl, rfl⟩ := hF
  show wM p l e (wR 2) s m args below meth c 0 0 (wE below args s D dA b0 ad S0 F) 1 D dA b0 ad S0 39 [some (.ref k)] [] yr27
  refine w_aload_n X dX2_setUntold_39 rfl rfl rfl ?_
  refine w_iconst X dX2_setUntold_40 rfl ci_m1 ?_
  obtain ⟨yr28, eyr28, hf⟩ := wok_b hf
  refine w_callV X dX2_setUntold_41 rfl vl_X2_32 (kX2_add l hk eyr28) hk.1 (As := [.int (-1)]) (st := []) rfl rfl (Nat.le_of_ble_eq_true rfl) ⟨Nat.le_of_ble_eq_true rfl, Nat.le_of_ble_eq_true rfl⟩ ⟨Nat.zero_le _, Nat.zero_le _⟩ (fun r h2 hF => ?_)
  obtain ⟨rfl, rfl⟩ := hF
  show wM p l e (wR 2) s m args below meth c 0 0 (wE below args s D dA b0 ad S0 F) 1 D dA b0 ad S0 44 [some (.ref k)] [] yr28
  refine w_aload_n X dX2_setUntold_44 rfl rfl rfl ?_
  refine w_bipush X dX2_setUntold_45 rfl cb_m8 ?_
  obtain ⟨yr29, eyr29, hf⟩ := wok_b hf
  refine w_callV X dX2_setUntold_47 rfl vl_X2_32 (kX2_add l hk eyr29) hk.1 (As := [.int (-8)]) (st := []) rfl rfl (Nat.le_of_ble_eq_true rfl) ⟨Nat.le_of_ble_eq_true rfl, Nat.le_of_ble_eq_true rfl⟩ ⟨Nat.zero_le _, Nat.zero_le _⟩ (fun r h2 hF => ?_)
  obtain ⟨rfl, rfl⟩ := hF
  show wM p l e (wR 2) s m args below meth c 0 0 (wE below args s D dA b0 ad S0 F) 1 D dA b0 ad S0 50 [some (.ref k)] [] yr29
  exact w_vret X dX2_setUntold_50 hr (hT _ (wok_s hf))
set_option maxRecDepth 4000 in
theorem kX2_setUntold (l : Launch) {h : wSt} {k : Nat} (hk : wI2 k) {res : wSt} (hf : fX2_setUntold h k = some res) : wC l yX2_setUntold cX2_setUntold 1 none 2 S0 [.ref k] h (wFV (fun b => res = b)) := by
  refine w_meth2 0 (by decide) (Nat.le_of_ble_eq_true rfl) (ls := [some (.ref k)]) rfl ?_
  intro p e s m args below meth c D dA b0 ad X hr
  exact pX2_setUntold_b0 X hr hk (K := fun z => res = z) (fun h2 hz => ⟨rfl, hz⟩) ⟨res, hf, rfl⟩
set_option maxRecDepth 4000 in
theorem pX2_jointAt_b0 (X : wCx p s m args meth c RX2 cX2_jointAt 2 D dA b0 ad) (hr : meth.sig.returnType = (some .int)) {h : wSt} {x1 : Int32} {K : Int32 → Prop} (hT : ∀ (x : Int32), K x → F (some (.int x)) h) (hf : wok (fX2_jointAt h x1) K) : wM p l e (wR 6) s m args below meth c 0 0 (wE below args s D dA b0 ad S0 F) 2 D dA b0 ad S0 0 [some (.ref 1), some (.int x1)] [] h := by
  unfold fX2_jointAt at hf
  refine w_iload_n X dX2_jointAt_0 rfl rfl rfl ?_
  by_cases yhs21 : x1 = 0
  · have hf := wok_t hf yhs21
    refine w_swIn X dX2_jointAt_1 (t := 28) (off := 27) rfl (by rw [yhs21]; decide) (by rw [yhs21]; decide) (by rw [yhs21]; rfl) ?_
    refine w_aload_n X dX2_jointAt_28 rfl rfl rfl ?_
    refine w_ldcS X dX2_jointAt_29 rfl (i := 19) (tx := "and") (by decide +kernel) ?_
    obtain ⟨yr22, eyr22, hf⟩ := wok_b hf
    refine w_callV X dX2_jointAt_31 rfl vl_X2_64 (kX7_isWord l (by decide) eyr22) S0_1 (As := [.ref (100000 + 19)]) (st := []) rfl rfl (Nat.le_of_ble_eq_true rfl) ⟨Nat.le_of_ble_eq_true rfl, Nat.le_of_ble_eq_true rfl⟩ ⟨Nat.zero_le _, Nat.zero_le _⟩ (fun r h2 hF => ?_)
    obtain ⟨_, rfl, rfl, rfl⟩ := hF
    show wM p l e (wR 6) s m args below meth c 0 0 (wE below args s D dA b0 ad S0 F) 2 D dA b0 ad S0 34 [some (.ref 1), some (.int x1)] [.int (wb yr22)] h
    refine w_if_eq X dX2_jointAt_34 rfl (t := 42) rfl (fun hc => ?_) (fun hc => ?_)
    · have hf := wok_f hf (wb_0 hc)
      refine w_aload_n X dX2_jointAt_42 rfl rfl rfl ?_
      refine w_ldcS X dX2_jointAt_43 rfl (i := 20) (tx := "or") (by decide +kernel) ?_
      obtain ⟨yr23, eyr23, hf⟩ := wok_b hf
      refine w_callV X dX2_jointAt_45 rfl vl_X2_64 (kX7_isWord l (by decide) eyr23) S0_1 (As := [.ref (100000 + 20)]) (st := []) rfl rfl (Nat.le_of_ble_eq_true rfl) ⟨Nat.le_of_ble_eq_true rfl, Nat.le_of_ble_eq_true rfl⟩ ⟨Nat.zero_le _, Nat.zero_le _⟩ (fun r h2 hF => ?_)
      obtain ⟨_, rfl, rfl, rfl⟩ := hF
      show wM p l e (wR 6) s m args below meth c 0 0 (wE below args s D dA b0 ad S0 F) 2 D dA b0 ad S0 48 [some (.ref 1), some (.int x1)] [.int (wb yr23)] h
      refine w_if_eq X dX2_jointAt_48 rfl (t := 56) rfl (fun hc => ?_) (fun hc => ?_)
      · have hf := wok_f hf (wb_0 hc)
        refine w_iconst X dX2_jointAt_56 rfl ci_0 ?_
        exact w_iret X dX2_jointAt_57 hr (hT _ (wok_s hf))
      · have hf := wok_t hf (wb_n0 hc)
        refine w_bipush X dX2_jointAt_51 rfl cb_m7 ?_
        refine w_goto X dX2_jointAt_53 (t := 57) rfl ?_
        exact w_iret X dX2_jointAt_57 hr (hT _ (wok_s hf))
    · have hf := wok_t hf (wb_n0 hc)
      refine w_bipush X dX2_jointAt_37 rfl cb_m6 ?_
      refine w_goto X dX2_jointAt_39 (t := 57) rfl ?_
      exact w_iret X dX2_jointAt_57 hr (hT _ (wok_s hf))
  have hf := wok_f hf yhs21
  by_cases yhs24 : x1 = 1
  · have hf := wok_t hf yhs24
    refine w_swIn X dX2_jointAt_1 (t := 58) (off := 57) rfl (by rw [yhs24]; decide) (by rw [yhs24]; decide) (by rw [yhs24]; rfl) ?_
    refine w_aload_n X dX2_jointAt_58 rfl rfl rfl ?_
    refine w_bipush X dX2_jointAt_59 rfl cb_60 ?_
    obtain ⟨yr25, eyr25, hf⟩ := wok_b hf
    refine w_callV X dX2_jointAt_61 rfl vl_X2_70 (kX7_isSign l  eyr25) S0_1 (As := [.int 60]) (st := []) rfl rfl (Nat.le_of_ble_eq_true rfl) ⟨Nat.le_of_ble_eq_true rfl, Nat.le_of_ble_eq_true rfl⟩ ⟨Nat.zero_le _, Nat.zero_le _⟩ (fun r h2 hF => ?_)
    obtain ⟨_, rfl, rfl, rfl⟩ := hF
    show wM p l e (wR 6) s m args below meth c 0 0 (wE below args s D dA b0 ad S0 F) 2 D dA b0 ad S0 64 [some (.ref 1), some (.int x1)] [.int (wb yr25)] h
    refine w_if_eq X dX2_jointAt_64 rfl (t := 72) rfl (fun hc => ?_) (fun hc => ?_)
    · have hf := wok_f hf (wb_0 hc)
      refine w_aload_n X dX2_jointAt_72 rfl rfl rfl ?_
      refine w_bipush X dX2_jointAt_73 rfl cb_61 ?_
      obtain ⟨yr26, eyr26, hf⟩ := wok_b hf
      refine w_callV X dX2_jointAt_75 rfl vl_X2_70 (kX7_isSign l  eyr26) S0_1 (As := [.int 61]) (st := []) rfl rfl (Nat.le_of_ble_eq_true rfl) ⟨Nat.le_of_ble_eq_true rfl, Nat.le_of_ble_eq_true rfl⟩ ⟨Nat.zero_le _, Nat.zero_le _⟩ (fun r h2 hF => ?_)
      obtain ⟨_, rfl, rfl, rfl⟩ := hF
      show wM p l e (wR 6) s m args below meth c 0 0 (wE below args s D dA b0 ad S0 F) 2 D dA b0 ad S0 78 [some (.ref 1), some (.int x1)] [.int (wb yr26)] h
      refine w_if_eq X dX2_jointAt_78 rfl (t := 86) rfl (fun hc => ?_) (fun hc => ?_)
      · have hf := wok_f hf (wb_0 hc)
        refine w_iconst X dX2_jointAt_86 rfl ci_0 ?_
        exact w_iret X dX2_jointAt_87 hr (hT _ (wok_s hf))
      · have hf := wok_t hf (wb_n0 hc)
        refine w_bipush X dX2_jointAt_81 rfl cb_m9 ?_
        refine w_goto X dX2_jointAt_83 (t := 87) rfl ?_
        exact w_iret X dX2_jointAt_87 hr (hT _ (wok_s hf))
    · have hf := wok_t hf (wb_n0 hc)
      refine w_bipush X dX2_jointAt_67 rfl cb_m8 ?_
      refine w_goto X dX2_jointAt_69 (t := 87) rfl ?_
      exact w_iret X dX2_jointAt_87 hr (hT _ (wok_s hf))
  have hf := wok_f hf yhs24
  by_cases yhs27 : x1 = 2
  · have hf := wok_t hf yhs27
    refine w_swIn X dX2_jointAt_1 (t := 88) (off := 87) rfl (by rw [yhs27]; decide) (by rw [yhs27]; decide) (by rw [yhs27]; rfl) ?_
    refine w_aload_n X dX2_jointAt_88 rfl rfl rfl ?_
    refine w_bipush X dX2_jointAt_89 rfl cb_43 ?_
    obtain ⟨yr28, eyr28, hf⟩ := wok_b hf
    refine w_callV X dX2_jointAt_91 rfl vl_X2_70 (kX7_isSign l  eyr28) S0_1 (As := [.int 43]) (st := []) rfl rfl (Nat.le_of_ble_eq_true rfl) ⟨Nat.le_of_ble_eq_true rfl, Nat.le_of_ble_eq_true rfl⟩ ⟨Nat.zero_le _, Nat.zero_le _⟩ (fun r h2 hF => ?_)
    obtain ⟨_, rfl, rfl, rfl⟩ := hF
    show wM p l e (wR 6) s m args below meth c 0 0 (wE below args s D dA b0 ad S0 F) 2 D dA b0 ad S0 94 [some (.ref 1), some (.int x1)] [.int (wb yr28)] h
    refine w_if_eq X dX2_jointAt_94 rfl (t := 102) rfl (fun hc => ?_) (fun hc => ?_)
    · have hf := wok_f hf (wb_0 hc)
      refine w_aload_n X dX2_jointAt_102 rfl rfl rfl ?_
      refine w_bipush X dX2_jointAt_103 rfl cb_45 ?_
      obtain ⟨yr29, eyr29, hf⟩ := wok_b hf
      refine w_callV X dX2_jointAt_105 rfl vl_X2_70 (kX7_isSign l  eyr29) S0_1 (As := [.int 45]) (st := []) rfl rfl (Nat.le_of_ble_eq_true rfl) ⟨Nat.le_of_ble_eq_true rfl, Nat.le_of_ble_eq_true rfl⟩ ⟨Nat.zero_le _, Nat.zero_le _⟩ (fun r h2 hF => ?_)
      obtain ⟨_, rfl, rfl, rfl⟩ := hF
      show wM p l e (wR 6) s m args below meth c 0 0 (wE below args s D dA b0 ad S0 F) 2 D dA b0 ad S0 108 [some (.ref 1), some (.int x1)] [.int (wb yr29)] h
      refine w_if_eq X dX2_jointAt_108 rfl (t := 116) rfl (fun hc => ?_) (fun hc => ?_)
      · have hf := wok_f hf (wb_0 hc)
        refine w_iconst X dX2_jointAt_116 rfl ci_0 ?_
        exact w_iret X dX2_jointAt_117 hr (hT _ (wok_s hf))
      · have hf := wok_t hf (wb_n0 hc)
        refine w_bipush X dX2_jointAt_111 rfl cb_m11 ?_
        refine w_goto X dX2_jointAt_113 (t := 117) rfl ?_
        exact w_iret X dX2_jointAt_117 hr (hT _ (wok_s hf))
    · have hf := wok_t hf (wb_n0 hc)
      refine w_bipush X dX2_jointAt_97 rfl cb_m10 ?_
      refine w_goto X dX2_jointAt_99 (t := 117) rfl ?_
      exact w_iret X dX2_jointAt_117 hr (hT _ (wok_s hf))
  have hf := wok_f hf yhs27
  refine w_swOut X dX2_jointAt_1 (t := 118) rfl (by have := lv_neT yhs21 (a := 0) (by decide); have := lv_neT yhs24 (a := 1) (by decide); have := lv_neT yhs27 (a := 2) (by decide); omega) ?_
  refine w_aload_n X dX2_jointAt_118 rfl rfl rfl ?_
  refine w_bipush X dX2_jointAt_119 rfl cb_42 ?_
  obtain ⟨yr30, eyr30, hf⟩ := wok_b hf
  refine w_callV X dX2_jointAt_121 rfl vl_X2_70 (kX7_isSign l  eyr30) S0_1 (As := [.int 42]) (st := []) rfl rfl (Nat.le_of_ble_eq_true rfl) ⟨Nat.le_of_ble_eq_true rfl, Nat.le_of_ble_eq_true rfl⟩ ⟨Nat.zero_le _, Nat.zero_le _⟩ (fun r h2 hF => ?_)
  obtain ⟨_, rfl, rfl, rfl⟩ := hF
  show wM p l e (wR 6) s m args below meth c 0 0 (wE below args s D dA b0 ad S0 F) 2 D dA b0 ad S0 124 [some (.ref 1), some (.int x1)] [.int (wb yr30)] h
  refine w_if_eq X dX2_jointAt_124 rfl (t := 132) rfl (fun hc => ?_) (fun hc => ?_)
  · have hf := wok_f hf (wb_0 hc)
    refine w_iconst X dX2_jointAt_132 rfl ci_0 ?_
    exact w_iret X dX2_jointAt_133 hr (hT _ (wok_s hf))
  · have hf := wok_t hf (wb_n0 hc)
    refine w_bipush X dX2_jointAt_127 rfl cb_m12 ?_
    refine w_goto X dX2_jointAt_129 (t := 133) rfl ?_
    exact w_iret X dX2_jointAt_133 hr (hT _ (wok_s hf))
set_option maxRecDepth 4000 in
theorem kX2_jointAt (l : Launch) {h : wSt} {x1 : Int32} {res : Int32} (hf : fX2_jointAt h x1 = some res) : wC l yX2_jointAt cX2_jointAt 2 (some .int) 6 S0 [.ref 1, .int x1] h (wFI (fun a b => res = a ∧ h = b)) := by
  refine w_meth2 0 (by decide) (Nat.le_of_ble_eq_true rfl) (ls := [some (.ref 1), some (.int x1)]) rfl ?_
  intro p e s m args below meth c D dA b0 ad X hr
  exact pX2_jointAt_b0 X hr  (K := fun z => res = z) (fun x hz => ⟨x, rfl, hz, rfl⟩) ⟨res, hf, rfl⟩
set_option maxRecDepth 4000 in
theorem pX2_factAt_b0 (X : wCx p s m args meth c RX2 cX2_factAt 1 D dA b0 ad) (hr : meth.sig.returnType = (some .int)) {h : wSt} {K : Int32 → Prop} (hT : ∀ (x : Int32), K x → F (some (.int x)) h) (hf : wok (fX2_factAt h ) K) : wM p l e (wR 6) s m args below meth c 0 0 (wE below args s D dA b0 ad S0 F) 1 D dA b0 ad S0 0 [some (.ref 1)] [] h := by
  unfold fX2_factAt at hf
  refine w_aload_n X dX2_factAt_0 rfl rfl rfl ?_
  refine w_ldcS X dX2_factAt_1 rfl (i := 21) (tx := "wet") (by decide +kernel) ?_
  obtain ⟨yr21, eyr21, hf⟩ := wok_b hf
  refine w_callV X dX2_factAt_3 rfl vl_X2_64 (kX7_isWord l (by decide) eyr21) S0_1 (As := [.ref (100000 + 21)]) (st := []) rfl rfl (Nat.le_of_ble_eq_true rfl) ⟨Nat.le_of_ble_eq_true rfl, Nat.le_of_ble_eq_true rfl⟩ ⟨Nat.zero_le _, Nat.zero_le _⟩ (fun r h2 hF => ?_)
  obtain ⟨_, rfl, rfl, rfl⟩ := hF
  show wM p l e (wR 6) s m args below meth c 0 0 (wE below args s D dA b0 ad S0 F) 1 D dA b0 ad S0 6 [some (.ref 1)] [.int (wb yr21)] h
  refine w_if_eq X dX2_factAt_6 rfl (t := 11) rfl (fun hc => ?_) (fun hc => ?_)
  · have hf := wok_f hf (wb_0 hc)
    refine w_aload_n X dX2_factAt_11 rfl rfl rfl ?_
    refine w_ldcS X dX2_factAt_12 rfl (i := 22) (tx := "deep") (by decide +kernel) ?_
    obtain ⟨yr22, eyr22, hf⟩ := wok_b hf
    refine w_callV X dX2_factAt_14 rfl vl_X2_64 (kX7_isWord l (by decide) eyr22) S0_1 (As := [.ref (100000 + 22)]) (st := []) rfl rfl (Nat.le_of_ble_eq_true rfl) ⟨Nat.le_of_ble_eq_true rfl, Nat.le_of_ble_eq_true rfl⟩ ⟨Nat.zero_le _, Nat.zero_le _⟩ (fun r h2 hF => ?_)
    obtain ⟨_, rfl, rfl, rfl⟩ := hF
    show wM p l e (wR 6) s m args below meth c 0 0 (wE below args s D dA b0 ad S0 F) 1 D dA b0 ad S0 17 [some (.ref 1)] [.int (wb yr22)] h
    refine w_if_eq X dX2_factAt_17 rfl (t := 23) rfl (fun hc => ?_) (fun hc => ?_)
    · have hf := wok_f hf (wb_0 hc)
      refine w_aload_n X dX2_factAt_23 rfl rfl rfl ?_
      refine w_ldcS X dX2_factAt_24 rfl (i := 23) (tx := "bite") (by decide +kernel) ?_
      obtain ⟨yr23, eyr23, hf⟩ := wok_b hf
      refine w_callV X dX2_factAt_26 rfl vl_X2_64 (kX7_isWord l (by decide) eyr23) S0_1 (As := [.ref (100000 + 23)]) (st := []) rfl rfl (Nat.le_of_ble_eq_true rfl) ⟨Nat.le_of_ble_eq_true rfl, Nat.le_of_ble_eq_true rfl⟩ ⟨Nat.zero_le _, Nat.zero_le _⟩ (fun r h2 hF => ?_)
      obtain ⟨_, rfl, rfl, rfl⟩ := hF
      show wM p l e (wR 6) s m args below meth c 0 0 (wE below args s D dA b0 ad S0 F) 1 D dA b0 ad S0 29 [some (.ref 1)] [.int (wb yr23)] h
      refine w_if_eq X dX2_factAt_29 rfl (t := 35) rfl (fun hc => ?_) (fun hc => ?_)
      · have hf := wok_f hf (wb_0 hc)
        refine w_aload_n X dX2_factAt_35 rfl rfl rfl ?_
        refine w_ldcS X dX2_factAt_36 rfl (i := 24) (tx := "thin") (by decide +kernel) ?_
        obtain ⟨yr24, eyr24, hf⟩ := wok_b hf
        refine w_callV X dX2_factAt_38 rfl vl_X2_64 (kX7_isWord l (by decide) eyr24) S0_1 (As := [.ref (100000 + 24)]) (st := []) rfl rfl (Nat.le_of_ble_eq_true rfl) ⟨Nat.le_of_ble_eq_true rfl, Nat.le_of_ble_eq_true rfl⟩ ⟨Nat.zero_le _, Nat.zero_le _⟩ (fun r h2 hF => ?_)
        obtain ⟨_, rfl, rfl, rfl⟩ := hF
        show wM p l e (wR 6) s m args below meth c 0 0 (wE below args s D dA b0 ad S0 F) 1 D dA b0 ad S0 41 [some (.ref 1)] [.int (wb yr24)] h
        refine w_if_eq X dX2_factAt_41 rfl (t := 49) rfl (fun hc => ?_) (fun hc => ?_)
        · have hf := wok_f hf (wb_0 hc)
          refine w_iconst X dX2_factAt_49 rfl ci_0 ?_
          exact w_iret X dX2_factAt_50 hr (hT _ (wok_s hf))
        · have hf := wok_t hf (wb_n0 hc)
          refine w_bipush X dX2_factAt_44 rfl cb_m4 ?_
          refine w_goto X dX2_factAt_46 (t := 50) rfl ?_
          exact w_iret X dX2_factAt_50 hr (hT _ (wok_s hf))
      · have hf := wok_t hf (wb_n0 hc)
        refine w_bipush X dX2_factAt_32 rfl cb_m3 ?_
        exact w_iret X dX2_factAt_34 hr (hT _ (wok_s hf))
    · have hf := wok_t hf (wb_n0 hc)
      refine w_bipush X dX2_factAt_20 rfl cb_m2 ?_
      exact w_iret X dX2_factAt_22 hr (hT _ (wok_s hf))
  · have hf := wok_t hf (wb_n0 hc)
    refine w_iconst X dX2_factAt_9 rfl ci_m1 ?_
    exact w_iret X dX2_factAt_10 hr (hT _ (wok_s hf))
set_option maxRecDepth 4000 in
theorem kX2_factAt (l : Launch) {h : wSt} {res : Int32} (hf : fX2_factAt h  = some res) : wC l yX2_factAt cX2_factAt 1 (some .int) 6 S0 [.ref 1] h (wFI (fun a b => res = a ∧ h = b)) := by
  refine w_meth2 0 (by decide) (Nat.le_of_ble_eq_true rfl) (ls := [some (.ref 1)]) rfl ?_
  intro p e s m args below meth c D dA b0 ad X hr
  exact pX2_factAt_b0 X hr  (K := fun z => res = z) (fun x hz => ⟨x, rfl, hz, rfl⟩) ⟨res, hf, rfl⟩
end WX
def fX2_readLevel_l38 (rec0 : wSt → Nat → Int32 → Int32 → Option (wSt)) (rec1 : wSt → Nat → Int32 → Option (wSt)) (h : wSt) (k : Nat) (v2 : Int32) (v3 : Int32) (v4 : Int32) (v5 : Int32) : Option ((Int32 × wSt) ⊕ ((wSt))) :=
if v4 ≤ v5 then
some (.inr h)
else
(fX7_isSound h ).bind (fun yr22 =>
if yr22 = true then
(fX2_jointAt h v2).bind (fun yr23 =>
if yr23 = 0 then
some (.inr h)
else
(fX7_next h ).bind (fun yr24 =>
(rec0 yr24 k (v2 + 1) v3).bind (fun yr25 =>
(fX2_add yr25 k yr23).bind (fun yr26 =>
some (.inl ((v5 + 1), yr26))))))
else
some (.inr h))
def fX2_readLevel_b33 (rec0 : wSt → Nat → Int32 → Int32 → Option (wSt)) (rec1 : wSt → Nat → Int32 → Option (wSt)) (h : wSt) (k : Nat) (v2 : Int32) (v3 : Int32) (w0 : Int32) : Option (wSt) :=
(wit (fun v : (Int32 × wSt) => fX2_readLevel_l38 rec0 rec1 v.2 k v2 v3 w0 v.1) 3000 ((0 : Int32), h)).bind (fun ye27 =>
some ye27)
def fX2_readLevel_b0 (rec0 : wSt → Nat → Int32 → Int32 → Option (wSt)) (rec1 : wSt → Nat → Int32 → Option (wSt)) (h : wSt) (k : Nat) (x1 : Int32) (x2 : Int32) : Option (wSt) :=
if x1 ≤ 3 then
(rec0 h k (x1 + 1) x2).bind (fun yr21 =>
if x1 = 1 then
fX2_readLevel_b33 rec0 rec1 yr21 k x1 x2 (1 : Int32)
else
fX2_readLevel_b33 rec0 rec1 yr21 k x1 x2 (1000 : Int32))
else
(rec1 h k x2).bind (fun yr29 =>
some yr29)
def fX2_readPart_b137 (rec0 : wSt → Nat → Int32 → Int32 → Option (wSt)) (rec1 : wSt → Nat → Int32 → Option (wSt)) (h : wSt) (k : Nat) (w1 : Int32) : Option (wSt) :=
(fX2_add h k w1).bind (fun yr25 =>
(fX7_next yr25 ).bind (fun yr26 =>
some yr26))
def fX2_readPart_b54 (rec0 : wSt → Nat → Int32 → Int32 → Option (wSt)) (rec1 : wSt → Nat → Int32 → Option (wSt)) (h : wSt) (k : Nat) (v2 : Int32) (v3 : Int32) (v4 : Int32) : Option (wSt) :=
if v2 ≤ 4 then
if v4 = 0 then
(fX7_isSign h (40 : Int32)).bind (fun yr24 =>
if yr24 = true then
(fX7_next h ).bind (fun yr27 =>
(rec0 yr27 k (0 : Int32) (v2 + 1)).bind (fun yr28 =>
(fX7_takeSign yr28 (41 : Int32)).bind (fun yr29 =>
some yr29)))
else
if v3 = 0 then
fX2_readPart_b137 rec0 rec1 h k (h.1 1 5)
else
fX2_readPart_b137 rec0 rec1 h k v3)
else
(fX7_next h ).bind (fun yr30 =>
(rec1 yr30 k (v2 + 1)).bind (fun yr31 =>
(fX2_add yr31 k (-5 : Int32)).bind (fun yr32 =>
some yr32)))
else
(fX7_fail h (5 : Int32)).bind (fun yr33 =>
some yr33)
def fX2_readPart_b0 (rec0 : wSt → Nat → Int32 → Int32 → Option (wSt)) (rec1 : wSt → Nat → Int32 → Option (wSt)) (h : wSt) (k : Nat) (x1 : Int32) : Option (wSt) :=
(fX7_isSound h ).bind (fun yr21 =>
if yr21 = true then
(fX2_factAt h ).bind (fun yr22 =>
(fX7_isWord h 18).bind (fun yr23 =>
if yr22 = 0 then
if yr23 = true then
fX2_readPart_b54 rec0 rec1 h k x1 yr22 (wb yr23)
else
(fX7_isNumber h ).bind (fun yr34 =>
if yr34 = true then
fX2_readPart_b54 rec0 rec1 h k x1 yr22 (wb yr23)
else
(fX7_isSign h (40 : Int32)).bind (fun yr35 =>
if yr35 = true then
fX2_readPart_b54 rec0 rec1 h k x1 yr22 (wb yr23)
else
(fX7_fail h (1 : Int32)).bind (fun yr36 =>
some yr36)))
else
fX2_readPart_b54 rec0 rec1 h k x1 yr22 (wb yr23)))
else
some h)
section WX
variable {p : Program} {l : Launch} {e : Env} {s : State} {m : MethodId} {args : Array Value} {below : List Frame} {meth : Method} {c : Code} {D : va_G} {dA : Nat → ClassId} {b0 : Nat} {ad : Nat → Nat} {F : Option Value → wSt → Prop}
set_option maxRecDepth 4000 in
theorem pX2_readLevel_l38b (X : wCx p s m args meth c RX2 cX2_readLevel 7 D dA b0 ad) (hr : meth.sig.returnType = none) {h : wSt} {k : Nat} {v2 : Int32} {v3 : Int32} {v4 : Int32} {v5 : Int32} (hk : wI2 k) {rec0 : wSt → Nat → Int32 → Int32 → Option (wSt)} {rec1 : wSt → Nat → Int32 → Option (wSt)} {d : Nat} (hd0 : 7 ≤ d) (hrec0 : ∀ (h : wSt) (k : Nat) (x1 : Int32) (x2 : Int32) (_ : wI2 k) (res : wSt), rec0 h k x1 x2 = some res → wC l yX2_readLevel cX2_readLevel 7 none d S0 [.ref k, .ref 1, .int x1, .int x2] h (wFV (fun b => res = b))) (hrec1 : ∀ (h : wSt) (k : Nat) (x1 : Int32) (_ : wI2 k) (res : wSt), rec1 h k x1 = some res → wC l yX2_readPart cX2_readPart 5 none d S0 [.ref k, .ref 1, .int x1] h (wFV (fun b => res = b))) {K : (Int32 × wSt) ⊕ ((wSt)) → Prop} (hN : ∀ (n5 : Int32) (nh : wSt), K (.inl (n5, nh)) → wM p l e (wR (d + 1)) s m args below meth c 0 0 (wE below args s D dA b0 ad S0 F) 7 D dA b0 ad S0 38 [some (.ref k), some (.ref 1), some (.int v2), some (.int v3), some (.int v4), some (.int n5), none] [] nh) (hX0 : ∀ (nh : wSt), K (.inr nh) → wM p l e (wR (d + 1)) s m args below meth c 0 0 (wE below args s D dA b0 ad S0 F) 7 D dA b0 ad S0 92 [none, none, none, none, none, none, none] [] nh) (hf : wok (fX2_readLevel_l38 rec0 rec1 h k v2 v3 v4 v5) K) : wM p l e (wR (d + 1)) s m args below meth c 0 0 (wE below args s D dA b0 ad S0 F) 7 D dA b0 ad S0 38 [some (.ref k), some (.ref 1), some (.int v2), some (.int v3), some (.int v4), some (.int v5), none] [] h := by
  unfold fX2_readLevel_l38 at hf
  refine w_iload X dX2_readLevel_38 rfl rfl ?_
  refine w_iload X dX2_readLevel_40 rfl rfl ?_
  refine w_icmp_ge X dX2_readLevel_42 rfl (t := 92) rfl (fun hc => ?_) (fun hc => ?_)
  · have hf := wok_t hf hc
    refine w_fg (ls2 := [none, none, none, none, none, none, none]) trivial ?_
    exact hX0 _ (wok_s hf)
  · have hf := wok_f hf hc
    refine w_aload_n X dX2_readLevel_45 rfl rfl rfl ?_
    obtain ⟨yr22, eyr22, hf⟩ := wok_b hf
    refine w_callV X dX2_readLevel_46 rfl vl_X2_54 (kX7_isSound l  eyr22) S0_1 (As := []) (st := []) rfl rfl (Nat.le_of_ble_eq_true rfl) ⟨by show 1 + 1 ≤ d + 1; omega, by show 8 + (_ + 11) + 64 * 1 ≤ 64 * (d + 1); omega⟩ ⟨Nat.zero_le _, Nat.zero_le _⟩ (fun r h2 hF => ?_)
    obtain ⟨_, rfl, rfl, rfl⟩ := hF
    show wM p l e (wR (d + 1)) s m args below meth c 0 0 (wE below args s D dA b0 ad S0 F) 7 D dA b0 ad S0 49 [some (.ref k), some (.ref 1), some (.int v2), some (.int v3), some (.int v4), some (.int v5), none] [.int (wb yr22)] h
    refine w_if_eq X dX2_readLevel_49 rfl (t := 92) rfl (fun hc => ?_) (fun hc => ?_)
    · have hf := wok_f hf (wb_0 hc)
      refine w_fg (ls2 := [none, none, none, none, none, none, none]) trivial ?_
      exact hX0 _ (wok_s hf)
    · have hf := wok_t hf (wb_n0 hc)
      refine w_aload_n X dX2_readLevel_52 rfl rfl rfl ?_
      refine w_iload_n X dX2_readLevel_53 rfl rfl rfl ?_
      obtain ⟨yr23, eyr23, hf⟩ := wok_b hf
      refine w_callS X dX2_readLevel_54 rfl sl_X2_58 (kX2_jointAt l  eyr23) (As := [.ref 1, .int v2]) (st := []) rfl rfl (Nat.le_of_ble_eq_true rfl) ⟨by show 6 + 1 ≤ d + 1; omega, by show 8 + (_ + 11) + 64 * 6 ≤ 64 * (d + 1); omega⟩ ⟨Nat.zero_le _, Nat.zero_le _⟩ (fun r h2 hF => ?_)
      obtain ⟨_, rfl, rfl, rfl⟩ := hF
      show wM p l e (wR (d + 1)) s m args below meth c 0 0 (wE below args s D dA b0 ad S0 F) 7 D dA b0 ad S0 57 [some (.ref k), some (.ref 1), some (.int v2), some (.int v3), some (.int v4), some (.int v5), none] [.int yr23] h
      refine w_istore X dX2_readLevel_57 rfl rfl (Nat.le_of_ble_eq_true rfl) (ls' := [some (.ref k), some (.ref 1), some (.int v2), some (.int v3), some (.int v4), some (.int v5), some (.int yr23)]) rfl ?_
      refine w_iload X dX2_readLevel_59 rfl rfl ?_
      refine w_if_ne X dX2_readLevel_61 rfl (t := 67) rfl (fun hc => ?_) (fun hc => ?_)
      · have hf := wok_f hf hc
        refine w_aload_n X dX2_readLevel_67 rfl rfl rfl ?_
        obtain ⟨yr24, eyr24, hf⟩ := wok_b hf
        refine w_callV X dX2_readLevel_68 rfl vl_X2_39 (kX7_next l  eyr24) S0_1 (As := []) (st := []) rfl rfl (Nat.le_of_ble_eq_true rfl) ⟨by show 5 + 1 ≤ d + 1; omega, by show 8 + (_ + 11) + 64 * 5 ≤ 64 * (d + 1); omega⟩ ⟨Nat.zero_le _, Nat.zero_le _⟩ (fun r h2 hF => ?_)
        obtain ⟨rfl, rfl⟩ := hF
        show wM p l e (wR (d + 1)) s m args below meth c 0 0 (wE below args s D dA b0 ad S0 F) 7 D dA b0 ad S0 71 [some (.ref k), some (.ref 1), some (.int v2), some (.int v3), some (.int v4), some (.int v5), some (.int yr23)] [] yr24
        refine w_aload_n X dX2_readLevel_71 rfl rfl rfl ?_
        refine w_aload_n X dX2_readLevel_72 rfl rfl rfl ?_
        refine w_iload_n X dX2_readLevel_73 rfl rfl rfl ?_
        refine w_iconst X dX2_readLevel_74 rfl ci_1 ?_
        refine w_iadd X dX2_readLevel_75 rfl ?_
        refine w_iload_n X dX2_readLevel_76 rfl rfl rfl ?_
        obtain ⟨yr25, eyr25, hf⟩ := wok_b hf
        refine w_callV X dX2_readLevel_77 rfl vl_X2_42 (hrec0 _ _ _ _ hk _ eyr25) hk.1 (As := [.ref 1, .int (v2 + 1), .int v3]) (st := []) rfl rfl (Nat.le_of_ble_eq_true rfl) ⟨Nat.le_refl _, by show 8 + (_ + 11) + 64 * d ≤ 64 * (d + 1); omega⟩ ⟨Nat.zero_le _, Nat.zero_le _⟩ (fun r h2 hF => ?_)
        obtain ⟨rfl, rfl⟩ := hF
        show wM p l e (wR (d + 1)) s m args below meth c 0 0 (wE below args s D dA b0 ad S0 F) 7 D dA b0 ad S0 80 [some (.ref k), some (.ref 1), some (.int v2), some (.int v3), some (.int v4), some (.int v5), some (.int yr23)] [] yr25
        refine w_aload_n X dX2_readLevel_80 rfl rfl rfl ?_
        refine w_iload X dX2_readLevel_81 rfl rfl ?_
        obtain ⟨yr26, eyr26, hf⟩ := wok_b hf
        refine w_callV X dX2_readLevel_83 rfl vl_X2_32 (kX2_add l hk eyr26) hk.1 (As := [.int yr23]) (st := []) rfl rfl (Nat.le_of_ble_eq_true rfl) ⟨by show 1 + 1 ≤ d + 1; omega, by show 8 + (_ + 11) + 64 * 1 ≤ 64 * (d + 1); omega⟩ ⟨Nat.zero_le _, Nat.zero_le _⟩ (fun r h2 hF => ?_)
        obtain ⟨rfl, rfl⟩ := hF
        show wM p l e (wR (d + 1)) s m args below meth c 0 0 (wE below args s D dA b0 ad S0 F) 7 D dA b0 ad S0 86 [some (.ref k), some (.ref 1), some (.int v2), some (.int v3), some (.int v4), some (.int v5), some (.int yr23)] [] yr26
        refine w_iinc X dX2_readLevel_86 rfl (v := (v5 + 1)) rfl rfl (Nat.le_of_ble_eq_true rfl) (cinc_1 _) (ls' := [some (.ref k), some (.ref 1), some (.int v2), some (.int v3), some (.int v4), some (.int (v5 + 1)), some (.int yr23)]) rfl ?_
        refine w_goto X dX2_readLevel_89 (t := 38) rfl ?_
        refine w_fg (ls2 := [some (.ref k), some (.ref 1), some (.int v2), some (.int v3), some (.int v4), some (.int (v5 + 1)), none]) ⟨rfl, rfl, rfl, rfl, rfl, rfl, trivial⟩ ?_
        exact hN _ _ (wok_s hf)
      · have hf := wok_t hf hc
        refine w_goto X dX2_readLevel_64 (t := 92) rfl ?_
        refine w_fg (ls2 := [none, none, none, none, none, none, none]) trivial ?_
        exact hX0 _ (wok_s hf)
set_option maxRecDepth 4000 in
theorem pX2_readLevel_l38 (X : wCx p s m args meth c RX2 cX2_readLevel 7 D dA b0 ad) (hr : meth.sig.returnType = none)  {k : Nat} {v2 : Int32} {v3 : Int32} {v4 : Int32} (hk : wI2 k) {rec0 : wSt → Nat → Int32 → Int32 → Option (wSt)} {rec1 : wSt → Nat → Int32 → Option (wSt)} {d : Nat} (hd0 : 7 ≤ d) (hrec0 : ∀ (h : wSt) (k : Nat) (x1 : Int32) (x2 : Int32) (_ : wI2 k) (res : wSt), rec0 h k x1 x2 = some res → wC l yX2_readLevel cX2_readLevel 7 none d S0 [.ref k, .ref 1, .int x1, .int x2] h (wFV (fun b => res = b))) (hrec1 : ∀ (h : wSt) (k : Nat) (x1 : Int32) (_ : wI2 k) (res : wSt), rec1 h k x1 = some res → wC l yX2_readPart cX2_readPart 5 none d S0 [.ref k, .ref 1, .int x1] h (wFV (fun b => res = b))) {KE : (wSt) → Prop} (hX0 : ∀ (nh : wSt), KE (nh) → wM p l e (wR (d + 1)) s m args below meth c 0 0 (wE below args s D dA b0 ad S0 F) 7 D dA b0 ad S0 92 [none, none, none, none, none, none, none] [] nh) : ∀ (n : Nat) (v5 : Int32) (h : wSt), wok (wit (fun v : (Int32 × wSt) => fX2_readLevel_l38 rec0 rec1 v.2 k v2 v3 v4 v.1) n (v5, h)) KE → wM p l e (wR (d + 1)) s m args below meth c 0 0 (wE below args s D dA b0 ad S0 F) 7 D dA b0 ad S0 38 [some (.ref k), some (.ref 1), some (.int v2), some (.int v3), some (.int v4), some (.int v5), none] [] h := by
  have key := wit_M (b := (fun v : (Int32 × wSt) => fX2_readLevel_l38 rec0 rec1 v.2 k v2 v3 v4 v.1)) (KE := KE) (G := fun v => wM p l e (wR (d + 1)) s m args below meth c 0 0 (wE below args s D dA b0 ad S0 F) 7 D dA b0 ad S0 38 [some (.ref k), some (.ref 1), some (.int v2), some (.int v3), some (.int v4), some (.int v.1), none] [] v.2) (fun v K hN hE hf => pX2_readLevel_l38b X hr hk hd0 hrec0 hrec1 (fun n5 nh hz => hN (n5, nh) hz) (fun z0 hz => hX0 z0 (hE _ hz)) hf)
  exact fun n v5 h hf => key n (v5, h) hf
set_option maxRecDepth 4000 in
theorem pX2_readLevel_b33 (X : wCx p s m args meth c RX2 cX2_readLevel 7 D dA b0 ad) (hr : meth.sig.returnType = none) {h : wSt} {k : Nat} {v2 : Int32} {v3 : Int32} {w0 : Int32} (hk : wI2 k) {rec0 : wSt → Nat → Int32 → Int32 → Option (wSt)} {rec1 : wSt → Nat → Int32 → Option (wSt)} {d : Nat} (hd0 : 7 ≤ d) (hrec0 : ∀ (h : wSt) (k : Nat) (x1 : Int32) (x2 : Int32) (_ : wI2 k) (res : wSt), rec0 h k x1 x2 = some res → wC l yX2_readLevel cX2_readLevel 7 none d S0 [.ref k, .ref 1, .int x1, .int x2] h (wFV (fun b => res = b))) (hrec1 : ∀ (h : wSt) (k : Nat) (x1 : Int32) (_ : wI2 k) (res : wSt), rec1 h k x1 = some res → wC l yX2_readPart cX2_readPart 5 none d S0 [.ref k, .ref 1, .int x1] h (wFV (fun b => res = b))) {K : wSt → Prop} (hT : ∀ (h2 : wSt), K h2 → F none h2)  (hf : wok (fX2_readLevel_b33 rec0 rec1 h k v2 v3 w0) K) : wM p l e (wR (d + 1)) s m args below meth c 0 0 (wE below args s D dA b0 ad S0 F) 7 D dA b0 ad S0 33 [some (.ref k), some (.ref 1), some (.int v2), some (.int v3), none, none, none] [.int w0] h := by
  unfold fX2_readLevel_b33 at hf
  refine w_istore X dX2_readLevel_33 rfl rfl (Nat.le_of_ble_eq_true rfl) (ls' := [some (.ref k), some (.ref 1), some (.int v2), some (.int v3), some (.int w0), none, none]) rfl ?_
  refine w_iconst X dX2_readLevel_35 rfl ci_0 ?_
  refine w_istore X dX2_readLevel_36 rfl rfl (Nat.le_of_ble_eq_true rfl) (ls' := [some (.ref k), some (.ref 1), some (.int v2), some (.int v3), some (.int w0), some (.int 0), none]) rfl ?_
  obtain ⟨ye27, hye27, hf⟩ := wok_b hf
  refine pX2_readLevel_l38 X hr hk hd0 hrec0 hrec1 (KE := fun z => ye27 = z) ?_ 3000 _ _ ⟨ye27, hye27, rfl⟩
  · intro yz28 hz
    subst hz
    exact w_vret X dX2_readLevel_92 hr (hT _ (wok_s hf))
set_option maxRecDepth 4000 in
theorem pX2_readLevel_b0 (X : wCx p s m args meth c RX2 cX2_readLevel 7 D dA b0 ad) (hr : meth.sig.returnType = none) {h : wSt} {k : Nat} {x1 : Int32} {x2 : Int32} (hk : wI2 k) {rec0 : wSt → Nat → Int32 → Int32 → Option (wSt)} {rec1 : wSt → Nat → Int32 → Option (wSt)} {d : Nat} (hd0 : 7 ≤ d) (hrec0 : ∀ (h : wSt) (k : Nat) (x1 : Int32) (x2 : Int32) (_ : wI2 k) (res : wSt), rec0 h k x1 x2 = some res → wC l yX2_readLevel cX2_readLevel 7 none d S0 [.ref k, .ref 1, .int x1, .int x2] h (wFV (fun b => res = b))) (hrec1 : ∀ (h : wSt) (k : Nat) (x1 : Int32) (_ : wI2 k) (res : wSt), rec1 h k x1 = some res → wC l yX2_readPart cX2_readPart 5 none d S0 [.ref k, .ref 1, .int x1] h (wFV (fun b => res = b))) {K : wSt → Prop} (hT : ∀ (h2 : wSt), K h2 → F none h2) (hf : wok (fX2_readLevel_b0 rec0 rec1 h k x1 x2) K) : wM p l e (wR (d + 1)) s m args below meth c 0 0 (wE below args s D dA b0 ad S0 F) 7 D dA b0 ad S0 0 [some (.ref k), some (.ref 1), some (.int x1), some (.int x2), none, none, none] [] h := by
  unfold fX2_readLevel_b0 at hf
  refine w_iload_n X dX2_readLevel_0 rfl rfl rfl ?_
  refine w_iconst X dX2_readLevel_1 rfl ci_3 ?_
  refine w_icmp_le X dX2_readLevel_2 rfl (t := 12) rfl (fun hc => ?_) (fun hc => ?_)
  · have hf := wok_t hf hc
    refine w_aload_n X dX2_readLevel_12 rfl rfl rfl ?_
    refine w_aload_n X dX2_readLevel_13 rfl rfl rfl ?_
    refine w_iload_n X dX2_readLevel_14 rfl rfl rfl ?_
    refine w_iconst X dX2_readLevel_15 rfl ci_1 ?_
    refine w_iadd X dX2_readLevel_16 rfl ?_
    refine w_iload_n X dX2_readLevel_17 rfl rfl rfl ?_
    obtain ⟨yr21, eyr21, hf⟩ := wok_b hf
    refine w_callV X dX2_readLevel_18 rfl vl_X2_42 (hrec0 _ _ _ _ hk _ eyr21) hk.1 (As := [.ref 1, .int (x1 + 1), .int x2]) (st := []) rfl rfl (Nat.le_of_ble_eq_true rfl) ⟨Nat.le_refl _, by show 8 + (_ + 11) + 64 * d ≤ 64 * (d + 1); omega⟩ ⟨Nat.zero_le _, Nat.zero_le _⟩ (fun r h2 hF => ?_)
    obtain ⟨rfl, rfl⟩ := hF
    show wM p l e (wR (d + 1)) s m args below meth c 0 0 (wE below args s D dA b0 ad S0 F) 7 D dA b0 ad S0 21 [some (.ref k), some (.ref 1), some (.int x1), some (.int x2), none, none, none] [] yr21
    refine w_iload_n X dX2_readLevel_21 rfl rfl rfl ?_
    refine w_iconst X dX2_readLevel_22 rfl ci_1 ?_
    refine w_icmp_ne X dX2_readLevel_23 rfl (t := 30) rfl (fun hc => ?_) (fun hc => ?_)
    · have hf := wok_f hf hc
      refine w_sipush X dX2_readLevel_30 rfl cs_1000 ?_
      exact pX2_readLevel_b33 X hr hk hd0 hrec0 hrec1 hT hf
    · have hf := wok_t hf hc
      refine w_iconst X dX2_readLevel_26 rfl ci_1 ?_
      refine w_goto X dX2_readLevel_27 (t := 33) rfl ?_
      exact pX2_readLevel_b33 X hr hk hd0 hrec0 hrec1 hT hf
  · have hf := wok_f hf hc
    refine w_aload_n X dX2_readLevel_5 rfl rfl rfl ?_
    refine w_aload_n X dX2_readLevel_6 rfl rfl rfl ?_
    refine w_iload_n X dX2_readLevel_7 rfl rfl rfl ?_
    obtain ⟨yr29, eyr29, hf⟩ := wok_b hf
    refine w_callV X dX2_readLevel_8 rfl vl_X2_50 (hrec1 _ _ _ hk _ eyr29) hk.1 (As := [.ref 1, .int x2]) (st := []) rfl rfl (Nat.le_of_ble_eq_true rfl) ⟨Nat.le_refl _, by show 8 + (_ + 11) + 64 * d ≤ 64 * (d + 1); omega⟩ ⟨Nat.zero_le _, Nat.zero_le _⟩ (fun r h2 hF => ?_)
    obtain ⟨rfl, rfl⟩ := hF
    show wM p l e (wR (d + 1)) s m args below meth c 0 0 (wE below args s D dA b0 ad S0 F) 7 D dA b0 ad S0 11 [some (.ref k), some (.ref 1), some (.int x1), some (.int x2), none, none, none] [] yr29
    exact w_vret X dX2_readLevel_11 hr (hT _ (wok_s hf))
set_option maxRecDepth 4000 in
theorem pX2_readPart_b137 (X : wCx p s m args meth c RX2 cX2_readPart 5 D dA b0 ad) (hr : meth.sig.returnType = none) {h : wSt} {k : Nat} {w1 : Int32} (hk : wI2 k) {rec0 : wSt → Nat → Int32 → Int32 → Option (wSt)} {rec1 : wSt → Nat → Int32 → Option (wSt)} {d : Nat} (hd0 : 7 ≤ d) (hrec0 : ∀ (h : wSt) (k : Nat) (x1 : Int32) (x2 : Int32) (_ : wI2 k) (res : wSt), rec0 h k x1 x2 = some res → wC l yX2_readLevel cX2_readLevel 7 none d S0 [.ref k, .ref 1, .int x1, .int x2] h (wFV (fun b => res = b))) (hrec1 : ∀ (h : wSt) (k : Nat) (x1 : Int32) (_ : wI2 k) (res : wSt), rec1 h k x1 = some res → wC l yX2_readPart cX2_readPart 5 none d S0 [.ref k, .ref 1, .int x1] h (wFV (fun b => res = b))) {K : wSt → Prop} (hT : ∀ (h2 : wSt), K h2 → F none h2)  (hf : wok (fX2_readPart_b137 rec0 rec1 h k w1) K) : wM p l e (wR (d + 1)) s m args below meth c 0 0 (wE below args s D dA b0 ad S0 F) 5 D dA b0 ad S0 137 [none, some (.ref 1), none, none, none] [.int w1, .ref k] h := by
  unfold fX2_readPart_b137 at hf
  obtain ⟨yr25, eyr25, hf⟩ := wok_b hf
  refine w_callV X dX2_readPart_137 rfl vl_X2_32 (kX2_add l hk eyr25) hk.1 (As := [.int w1]) (st := []) rfl rfl (Nat.le_of_ble_eq_true rfl) ⟨by show 1 + 1 ≤ d + 1; omega, by show 8 + (_ + 11) + 64 * 1 ≤ 64 * (d + 1); omega⟩ ⟨Nat.zero_le _, Nat.zero_le _⟩ (fun r h2 hF => ?_)
  obtain ⟨rfl, rfl⟩ := hF
  show wM p l e (wR (d + 1)) s m args below meth c 0 0 (wE below args s D dA b0 ad S0 F) 5 D dA b0 ad S0 140 [none, some (.ref 1), none, none, none] [] yr25
  refine w_aload_n X dX2_readPart_140 rfl rfl rfl ?_
  obtain ⟨yr26, eyr26, hf⟩ := wok_b hf
  refine w_callV X dX2_readPart_141 rfl vl_X2_39 (kX7_next l  eyr26) S0_1 (As := []) (st := []) rfl rfl (Nat.le_of_ble_eq_true rfl) ⟨by show 5 + 1 ≤ d + 1; omega, by show 8 + (_ + 11) + 64 * 5 ≤ 64 * (d + 1); omega⟩ ⟨Nat.zero_le _, Nat.zero_le _⟩ (fun r h2 hF => ?_)
  obtain ⟨rfl, rfl⟩ := hF
  show wM p l e (wR (d + 1)) s m args below meth c 0 0 (wE below args s D dA b0 ad S0 F) 5 D dA b0 ad S0 144 [none, some (.ref 1), none, none, none] [] yr26
  exact w_vret X dX2_readPart_144 hr (hT _ (wok_s hf))
set_option maxRecDepth 4000 in
theorem pX2_readPart_b54 (X : wCx p s m args meth c RX2 cX2_readPart 5 D dA b0 ad) (hr : meth.sig.returnType = none) {h : wSt} {k : Nat} {v2 : Int32} {v3 : Int32} {v4 : Int32} (hk : wI2 k) {rec0 : wSt → Nat → Int32 → Int32 → Option (wSt)} {rec1 : wSt → Nat → Int32 → Option (wSt)} {d : Nat} (hd0 : 7 ≤ d) (hrec0 : ∀ (h : wSt) (k : Nat) (x1 : Int32) (x2 : Int32) (_ : wI2 k) (res : wSt), rec0 h k x1 x2 = some res → wC l yX2_readLevel cX2_readLevel 7 none d S0 [.ref k, .ref 1, .int x1, .int x2] h (wFV (fun b => res = b))) (hrec1 : ∀ (h : wSt) (k : Nat) (x1 : Int32) (_ : wI2 k) (res : wSt), rec1 h k x1 = some res → wC l yX2_readPart cX2_readPart 5 none d S0 [.ref k, .ref 1, .int x1] h (wFV (fun b => res = b))) {K : wSt → Prop} (hT : ∀ (h2 : wSt), K h2 → F none h2)  (hf : wok (fX2_readPart_b54 rec0 rec1 h k v2 v3 v4) K) : wM p l e (wR (d + 1)) s m args below meth c 0 0 (wE below args s D dA b0 ad S0 F) 5 D dA b0 ad S0 54 [some (.ref k), some (.ref 1), some (.int v2), some (.int v3), some (.int v4)] [] h := by
  unfold fX2_readPart_b54 at hf
  refine w_iload_n X dX2_readPart_54 rfl rfl rfl ?_
  refine w_iconst X dX2_readPart_55 rfl ci_4 ?_
  refine w_icmp_le X dX2_readPart_56 rfl (t := 67) rfl (fun hc => ?_) (fun hc => ?_)
  · have hf := wok_t hf hc
    refine w_iload X dX2_readPart_67 rfl rfl ?_
    refine w_if_eq X dX2_readPart_69 rfl (t := 93) rfl (fun hc => ?_) (fun hc => ?_)
    · have hf := wok_t hf hc
      refine w_aload_n X dX2_readPart_93 rfl rfl rfl ?_
      refine w_bipush X dX2_readPart_94 rfl cb_40 ?_
      obtain ⟨yr24, eyr24, hf⟩ := wok_b hf
      refine w_callV X dX2_readPart_96 rfl vl_X2_70 (kX7_isSign l  eyr24) S0_1 (As := [.int 40]) (st := []) rfl rfl (Nat.le_of_ble_eq_true rfl) ⟨by show 1 + 1 ≤ d + 1; omega, by show 8 + (_ + 11) + 64 * 1 ≤ 64 * (d + 1); omega⟩ ⟨Nat.zero_le _, Nat.zero_le _⟩ (fun r h2 hF => ?_)
      obtain ⟨_, rfl, rfl, rfl⟩ := hF
      show wM p l e (wR (d + 1)) s m args below meth c 0 0 (wE below args s D dA b0 ad S0 F) 5 D dA b0 ad S0 99 [some (.ref k), some (.ref 1), some (.int v2), some (.int v3), some (.int v4)] [.int (wb yr24)] h
      refine w_if_eq X dX2_readPart_99 rfl (t := 124) rfl (fun hc => ?_) (fun hc => ?_)
      · have hf := wok_f hf (wb_0 hc)
        refine w_aload_n X dX2_readPart_124 rfl rfl rfl ?_
        refine w_iload_n X dX2_readPart_125 rfl rfl rfl ?_
        refine w_if_ne X dX2_readPart_126 rfl (t := 136) rfl (fun hc => ?_) (fun hc => ?_)
        · have hf := wok_f hf hc
          refine w_iload_n X dX2_readPart_136 rfl rfl rfl ?_
          refine w_fg (ls2 := [none, some (.ref 1), none, none, none]) ⟨rfl, trivial⟩ ?_
          exact pX2_readPart_b137 X hr hk hd0 hrec0 hrec1 hT hf
        · have hf := wok_t hf hc
          refine w_aload_n X dX2_readPart_129 rfl rfl rfl ?_
          refine w_getI X dX2_readPart_130 rfl fl_X2_83 S0_1 rfl ?_
          refine w_goto X dX2_readPart_133 (t := 137) rfl ?_
          refine w_fg (ls2 := [none, some (.ref 1), none, none, none]) ⟨rfl, trivial⟩ ?_
          exact pX2_readPart_b137 X hr hk hd0 hrec0 hrec1 hT hf
      · have hf := wok_t hf (wb_n0 hc)
        refine w_aload_n X dX2_readPart_102 rfl rfl rfl ?_
        obtain ⟨yr27, eyr27, hf⟩ := wok_b hf
        refine w_callV X dX2_readPart_103 rfl vl_X2_39 (kX7_next l  eyr27) S0_1 (As := []) (st := []) rfl rfl (Nat.le_of_ble_eq_true rfl) ⟨by show 5 + 1 ≤ d + 1; omega, by show 8 + (_ + 11) + 64 * 5 ≤ 64 * (d + 1); omega⟩ ⟨Nat.zero_le _, Nat.zero_le _⟩ (fun r h2 hF => ?_)
        obtain ⟨rfl, rfl⟩ := hF
        show wM p l e (wR (d + 1)) s m args below meth c 0 0 (wE below args s D dA b0 ad S0 F) 5 D dA b0 ad S0 106 [some (.ref k), some (.ref 1), some (.int v2), some (.int v3), some (.int v4)] [] yr27
        refine w_aload_n X dX2_readPart_106 rfl rfl rfl ?_
        refine w_aload_n X dX2_readPart_107 rfl rfl rfl ?_
        refine w_iconst X dX2_readPart_108 rfl ci_0 ?_
        refine w_iload_n X dX2_readPart_109 rfl rfl rfl ?_
        refine w_iconst X dX2_readPart_110 rfl ci_1 ?_
        refine w_iadd X dX2_readPart_111 rfl ?_
        obtain ⟨yr28, eyr28, hf⟩ := wok_b hf
        refine w_callV X dX2_readPart_112 rfl vl_X2_42 (hrec0 _ _ _ _ hk _ eyr28) hk.1 (As := [.ref 1, .int 0, .int (v2 + 1)]) (st := []) rfl rfl (Nat.le_of_ble_eq_true rfl) ⟨Nat.le_refl _, by show 8 + (_ + 11) + 64 * d ≤ 64 * (d + 1); omega⟩ ⟨Nat.zero_le _, Nat.zero_le _⟩ (fun r h2 hF => ?_)
        obtain ⟨rfl, rfl⟩ := hF
        show wM p l e (wR (d + 1)) s m args below meth c 0 0 (wE below args s D dA b0 ad S0 F) 5 D dA b0 ad S0 115 [some (.ref k), some (.ref 1), some (.int v2), some (.int v3), some (.int v4)] [] yr28
        refine w_aload_n X dX2_readPart_115 rfl rfl rfl ?_
        refine w_bipush X dX2_readPart_116 rfl cb_41 ?_
        obtain ⟨yr29, eyr29, hf⟩ := wok_b hf
        refine w_callV X dX2_readPart_118 rfl vl_X2_46 (kX7_takeSign l  eyr29) S0_1 (As := [.int 41]) (st := []) rfl rfl (Nat.le_of_ble_eq_true rfl) ⟨by show 6 + 1 ≤ d + 1; omega, by show 8 + (_ + 11) + 64 * 6 ≤ 64 * (d + 1); omega⟩ ⟨Nat.zero_le _, Nat.zero_le _⟩ (fun r h2 hF => ?_)
        obtain ⟨rfl, rfl⟩ := hF
        show wM p l e (wR (d + 1)) s m args below meth c 0 0 (wE below args s D dA b0 ad S0 F) 5 D dA b0 ad S0 121 [some (.ref k), some (.ref 1), some (.int v2), some (.int v3), some (.int v4)] [] yr29
        refine w_goto X dX2_readPart_121 (t := 144) rfl ?_
        exact w_vret X dX2_readPart_144 hr (hT _ (wok_s hf))
    · have hf := wok_f hf hc
      refine w_aload_n X dX2_readPart_72 rfl rfl rfl ?_
      obtain ⟨yr30, eyr30, hf⟩ := wok_b hf
      refine w_callV X dX2_readPart_73 rfl vl_X2_39 (kX7_next l  eyr30) S0_1 (As := []) (st := []) rfl rfl (Nat.le_of_ble_eq_true rfl) ⟨by show 5 + 1 ≤ d + 1; omega, by show 8 + (_ + 11) + 64 * 5 ≤ 64 * (d + 1); omega⟩ ⟨Nat.zero_le _, Nat.zero_le _⟩ (fun r h2 hF => ?_)
      obtain ⟨rfl, rfl⟩ := hF
      show wM p l e (wR (d + 1)) s m args below meth c 0 0 (wE below args s D dA b0 ad S0 F) 5 D dA b0 ad S0 76 [some (.ref k), some (.ref 1), some (.int v2), some (.int v3), some (.int v4)] [] yr30
      refine w_aload_n X dX2_readPart_76 rfl rfl rfl ?_
      refine w_aload_n X dX2_readPart_77 rfl rfl rfl ?_
      refine w_iload_n X dX2_readPart_78 rfl rfl rfl ?_
      refine w_iconst X dX2_readPart_79 rfl ci_1 ?_
      refine w_iadd X dX2_readPart_80 rfl ?_
      obtain ⟨yr31, eyr31, hf⟩ := wok_b hf
      refine w_callV X dX2_readPart_81 rfl vl_X2_50 (hrec1 _ _ _ hk _ eyr31) hk.1 (As := [.ref 1, .int (v2 + 1)]) (st := []) rfl rfl (Nat.le_of_ble_eq_true rfl) ⟨Nat.le_refl _, by show 8 + (_ + 11) + 64 * d ≤ 64 * (d + 1); omega⟩ ⟨Nat.zero_le _, Nat.zero_le _⟩ (fun r h2 hF => ?_)
      obtain ⟨rfl, rfl⟩ := hF
      show wM p l e (wR (d + 1)) s m args below meth c 0 0 (wE below args s D dA b0 ad S0 F) 5 D dA b0 ad S0 84 [some (.ref k), some (.ref 1), some (.int v2), some (.int v3), some (.int v4)] [] yr31
      refine w_aload_n X dX2_readPart_84 rfl rfl rfl ?_
      refine w_bipush X dX2_readPart_85 rfl cb_m5 ?_
      obtain ⟨yr32, eyr32, hf⟩ := wok_b hf
      refine w_callV X dX2_readPart_87 rfl vl_X2_32 (kX2_add l hk eyr32) hk.1 (As := [.int (-5)]) (st := []) rfl rfl (Nat.le_of_ble_eq_true rfl) ⟨by show 1 + 1 ≤ d + 1; omega, by show 8 + (_ + 11) + 64 * 1 ≤ 64 * (d + 1); omega⟩ ⟨Nat.zero_le _, Nat.zero_le _⟩ (fun r h2 hF => ?_)
      obtain ⟨rfl, rfl⟩ := hF
      show wM p l e (wR (d + 1)) s m args below meth c 0 0 (wE below args s D dA b0 ad S0 F) 5 D dA b0 ad S0 90 [some (.ref k), some (.ref 1), some (.int v2), some (.int v3), some (.int v4)] [] yr32
      refine w_goto X dX2_readPart_90 (t := 144) rfl ?_
      exact w_vret X dX2_readPart_144 hr (hT _ (wok_s hf))
  · have hf := wok_f hf hc
    refine w_aload_n X dX2_readPart_59 rfl rfl rfl ?_
    refine w_iconst X dX2_readPart_60 rfl ci_5 ?_
    obtain ⟨yr33, eyr33, hf⟩ := wok_b hf
    refine w_callV X dX2_readPart_61 rfl vl_X2_36 (kX7_fail l  eyr33) S0_1 (As := [.int 5]) (st := []) rfl rfl (Nat.le_of_ble_eq_true rfl) ⟨by show 1 + 1 ≤ d + 1; omega, by show 8 + (_ + 11) + 64 * 1 ≤ 64 * (d + 1); omega⟩ ⟨Nat.zero_le _, Nat.zero_le _⟩ (fun r h2 hF => ?_)
    obtain ⟨rfl, rfl⟩ := hF
    show wM p l e (wR (d + 1)) s m args below meth c 0 0 (wE below args s D dA b0 ad S0 F) 5 D dA b0 ad S0 64 [some (.ref k), some (.ref 1), some (.int v2), some (.int v3), some (.int v4)] [] yr33
    refine w_goto X dX2_readPart_64 (t := 144) rfl ?_
    exact w_vret X dX2_readPart_144 hr (hT _ (wok_s hf))
set_option maxRecDepth 4000 in
theorem pX2_readPart_b0 (X : wCx p s m args meth c RX2 cX2_readPart 5 D dA b0 ad) (hr : meth.sig.returnType = none) {h : wSt} {k : Nat} {x1 : Int32} (hk : wI2 k) {rec0 : wSt → Nat → Int32 → Int32 → Option (wSt)} {rec1 : wSt → Nat → Int32 → Option (wSt)} {d : Nat} (hd0 : 7 ≤ d) (hrec0 : ∀ (h : wSt) (k : Nat) (x1 : Int32) (x2 : Int32) (_ : wI2 k) (res : wSt), rec0 h k x1 x2 = some res → wC l yX2_readLevel cX2_readLevel 7 none d S0 [.ref k, .ref 1, .int x1, .int x2] h (wFV (fun b => res = b))) (hrec1 : ∀ (h : wSt) (k : Nat) (x1 : Int32) (_ : wI2 k) (res : wSt), rec1 h k x1 = some res → wC l yX2_readPart cX2_readPart 5 none d S0 [.ref k, .ref 1, .int x1] h (wFV (fun b => res = b))) {K : wSt → Prop} (hT : ∀ (h2 : wSt), K h2 → F none h2) (hf : wok (fX2_readPart_b0 rec0 rec1 h k x1) K) : wM p l e (wR (d + 1)) s m args below meth c 0 0 (wE below args s D dA b0 ad S0 F) 5 D dA b0 ad S0 0 [some (.ref k), some (.ref 1), some (.int x1), none, none] [] h := by
  unfold fX2_readPart_b0 at hf
  refine w_aload_n X dX2_readPart_0 rfl rfl rfl ?_
  obtain ⟨yr21, eyr21, hf⟩ := wok_b hf
  refine w_callV X dX2_readPart_1 rfl vl_X2_54 (kX7_isSound l  eyr21) S0_1 (As := []) (st := []) rfl rfl (Nat.le_of_ble_eq_true rfl) ⟨by show 1 + 1 ≤ d + 1; omega, by show 8 + (_ + 11) + 64 * 1 ≤ 64 * (d + 1); omega⟩ ⟨Nat.zero_le _, Nat.zero_le _⟩ (fun r h2 hF => ?_)
  obtain ⟨_, rfl, rfl, rfl⟩ := hF
  show wM p l e (wR (d + 1)) s m args below meth c 0 0 (wE below args s D dA b0 ad S0 F) 5 D dA b0 ad S0 4 [some (.ref k), some (.ref 1), some (.int x1), none, none] [.int (wb yr21)] h
  refine w_if_ne X dX2_readPart_4 rfl (t := 8) rfl (fun hc => ?_) (fun hc => ?_)
  · have hf := wok_t hf (wb_n0 hc)
    refine w_aload_n X dX2_readPart_8 rfl rfl rfl ?_
    obtain ⟨yr22, eyr22, hf⟩ := wok_b hf
    refine w_callS X dX2_readPart_9 rfl sl_X2_74 (kX2_factAt l  eyr22) (As := [.ref 1]) (st := []) rfl rfl (Nat.le_of_ble_eq_true rfl) ⟨by show 6 + 1 ≤ d + 1; omega, by show 8 + (_ + 11) + 64 * 6 ≤ 64 * (d + 1); omega⟩ ⟨Nat.zero_le _, Nat.zero_le _⟩ (fun r h2 hF => ?_)
    obtain ⟨_, rfl, rfl, rfl⟩ := hF
    show wM p l e (wR (d + 1)) s m args below meth c 0 0 (wE below args s D dA b0 ad S0 F) 5 D dA b0 ad S0 12 [some (.ref k), some (.ref 1), some (.int x1), none, none] [.int yr22] h
    refine w_istore_n X dX2_readPart_12 rfl rfl rfl (Nat.le_of_ble_eq_true rfl) (ls' := [some (.ref k), some (.ref 1), some (.int x1), some (.int yr22), none]) rfl ?_
    refine w_aload_n X dX2_readPart_13 rfl rfl rfl ?_
    refine w_ldcS X dX2_readPart_14 rfl (i := 18) (tx := "not") (by decide +kernel) ?_
    obtain ⟨yr23, eyr23, hf⟩ := wok_b hf
    refine w_callV X dX2_readPart_16 rfl vl_X2_64 (kX7_isWord l (by decide) eyr23) S0_1 (As := [.ref (100000 + 18)]) (st := []) rfl rfl (Nat.le_of_ble_eq_true rfl) ⟨by show 5 + 1 ≤ d + 1; omega, by show 8 + (_ + 11) + 64 * 5 ≤ 64 * (d + 1); omega⟩ ⟨Nat.zero_le _, Nat.zero_le _⟩ (fun r h2 hF => ?_)
    obtain ⟨_, rfl, rfl, rfl⟩ := hF
    show wM p l e (wR (d + 1)) s m args below meth c 0 0 (wE below args s D dA b0 ad S0 F) 5 D dA b0 ad S0 19 [some (.ref k), some (.ref 1), some (.int x1), some (.int yr22), none] [.int (wb yr23)] h
    refine w_istore X dX2_readPart_19 rfl rfl (Nat.le_of_ble_eq_true rfl) (ls' := [some (.ref k), some (.ref 1), some (.int x1), some (.int yr22), some (.int (wb yr23))]) rfl ?_
    refine w_iload_n X dX2_readPart_21 rfl rfl rfl ?_
    refine w_if_ne X dX2_readPart_22 rfl (t := 54) rfl (fun hc => ?_) (fun hc => ?_)
    · have hf := wok_f hf hc
      exact pX2_readPart_b54 X hr hk hd0 hrec0 hrec1 hT hf
    · have hf := wok_t hf hc
      refine w_iload X dX2_readPart_25 rfl rfl ?_
      refine w_if_ne X dX2_readPart_27 rfl (t := 54) rfl (fun hc => ?_) (fun hc => ?_)
      · have hf := wok_t hf (wb_n0 hc)
        exact pX2_readPart_b54 X hr hk hd0 hrec0 hrec1 hT hf
      · have hf := wok_f hf (wb_0 hc)
        refine w_aload_n X dX2_readPart_30 rfl rfl rfl ?_
        obtain ⟨yr34, eyr34, hf⟩ := wok_b hf
        refine w_callV X dX2_readPart_31 rfl vl_X2_80 (kX7_isNumber l  eyr34) S0_1 (As := []) (st := []) rfl rfl (Nat.le_of_ble_eq_true rfl) ⟨by show 1 + 1 ≤ d + 1; omega, by show 8 + (_ + 11) + 64 * 1 ≤ 64 * (d + 1); omega⟩ ⟨Nat.zero_le _, Nat.zero_le _⟩ (fun r h2 hF => ?_)
        obtain ⟨_, rfl, rfl, rfl⟩ := hF
        show wM p l e (wR (d + 1)) s m args below meth c 0 0 (wE below args s D dA b0 ad S0 F) 5 D dA b0 ad S0 34 [some (.ref k), some (.ref 1), some (.int x1), some (.int yr22), some (.int (wb yr23))] [.int (wb yr34)] h
        refine w_if_ne X dX2_readPart_34 rfl (t := 54) rfl (fun hc => ?_) (fun hc => ?_)
        · have hf := wok_t hf (wb_n0 hc)
          exact pX2_readPart_b54 X hr hk hd0 hrec0 hrec1 hT hf
        · have hf := wok_f hf (wb_0 hc)
          refine w_aload_n X dX2_readPart_37 rfl rfl rfl ?_
          refine w_bipush X dX2_readPart_38 rfl cb_40 ?_
          obtain ⟨yr35, eyr35, hf⟩ := wok_b hf
          refine w_callV X dX2_readPart_40 rfl vl_X2_70 (kX7_isSign l  eyr35) S0_1 (As := [.int 40]) (st := []) rfl rfl (Nat.le_of_ble_eq_true rfl) ⟨by show 1 + 1 ≤ d + 1; omega, by show 8 + (_ + 11) + 64 * 1 ≤ 64 * (d + 1); omega⟩ ⟨Nat.zero_le _, Nat.zero_le _⟩ (fun r h2 hF => ?_)
          obtain ⟨_, rfl, rfl, rfl⟩ := hF
          show wM p l e (wR (d + 1)) s m args below meth c 0 0 (wE below args s D dA b0 ad S0 F) 5 D dA b0 ad S0 43 [some (.ref k), some (.ref 1), some (.int x1), some (.int yr22), some (.int (wb yr23))] [.int (wb yr35)] h
          refine w_if_ne X dX2_readPart_43 rfl (t := 54) rfl (fun hc => ?_) (fun hc => ?_)
          · have hf := wok_t hf (wb_n0 hc)
            exact pX2_readPart_b54 X hr hk hd0 hrec0 hrec1 hT hf
          · have hf := wok_f hf (wb_0 hc)
            refine w_aload_n X dX2_readPart_46 rfl rfl rfl ?_
            refine w_iconst X dX2_readPart_47 rfl ci_1 ?_
            obtain ⟨yr36, eyr36, hf⟩ := wok_b hf
            refine w_callV X dX2_readPart_48 rfl vl_X2_36 (kX7_fail l  eyr36) S0_1 (As := [.int 1]) (st := []) rfl rfl (Nat.le_of_ble_eq_true rfl) ⟨by show 1 + 1 ≤ d + 1; omega, by show 8 + (_ + 11) + 64 * 1 ≤ 64 * (d + 1); omega⟩ ⟨Nat.zero_le _, Nat.zero_le _⟩ (fun r h2 hF => ?_)
            obtain ⟨rfl, rfl⟩ := hF
            show wM p l e (wR (d + 1)) s m args below meth c 0 0 (wE below args s D dA b0 ad S0 F) 5 D dA b0 ad S0 51 [some (.ref k), some (.ref 1), some (.int x1), some (.int yr22), some (.int (wb yr23))] [] yr36
            refine w_goto X dX2_readPart_51 (t := 144) rfl ?_
            exact w_vret X dX2_readPart_144 hr (hT _ (wok_s hf))
  · have hf := wok_f hf (wb_0 hc)
    exact w_vret X dX2_readPart_7 hr (hT _ (wok_s hf))
end WX
def fX2_readLevel_rr : Nat → Bool → wSt → Nat → Int32 → Int32 → Option wSt
  | 0, _, _, _, _, _ => none
  | n + 1, true, h, k, x1, x2 => fX2_readLevel_b0 (fun h k x1 x2 => fX2_readLevel_rr n true h k x1 x2) (fun h k x1 => fX2_readLevel_rr n false h k x1 0) h k x1 x2
  | n + 1, false, h, k, x1, _ => fX2_readPart_b0 (fun h k x1 x2 => fX2_readLevel_rr n true h k x1 x2) (fun h k x1 => fX2_readLevel_rr n false h k x1 0) h k x1
def fX2_readLevel (n : Nat) (h : wSt) (k : Nat) (x1 x2 : Int32) : Option wSt := fX2_readLevel_rr n true h k x1 x2
def fX2_readPart (n : Nat) (h : wSt) (k : Nat) (x1 : Int32) : Option wSt := fX2_readLevel_rr n false h k x1 0
theorem kX2_readLevel_rr (l : Launch) : ∀ (n : Nat), (∀ {h : wSt} {k : Nat} {x1 x2 : Int32} (hk : wI2 k) {res : wSt}, fX2_readLevel_rr n true h k x1 x2 = some res → wC l yX2_readLevel cX2_readLevel 7 none (7 + n) S0 [.ref k, .ref 1, .int x1, .int x2] h (wFV (fun b => res = b))) ∧ (∀ {h : wSt} {k : Nat} {x1 : Int32} (hk : wI2 k) {res : wSt}, fX2_readLevel_rr n false h k x1 0 = some res → wC l yX2_readPart cX2_readPart 5 none (7 + n) S0 [.ref k, .ref 1, .int x1] h (wFV (fun b => res = b))) := by
  intro n
  induction n with
  | zero =>
    refine ⟨?_, ?_⟩
    · intro h k x1 x2 hk res hf
      have hf : (none : Option wSt) = some res := hf
      cases hf
    · intro h k x1 hk res hf
      have hf : (none : Option wSt) = some res := hf
      cases hf
  | succ n ih =>
    refine ⟨?_, ?_⟩
    · intro h k x1 x2 hk res hf
      refine w_meth2 3 (by decide) (Nat.le_of_ble_eq_true rfl) (ls := [some (.ref k), some (.ref 1), some (.int x1), some (.int x2), none, none, none]) rfl ?_
      intro p e s m args below meth c D dA b0 ad X hr
      exact pX2_readLevel_b0 X hr hk (d := 7 + n) (by omega) (rec0 := fun h k x1 x2 => fX2_readLevel_rr n true h k x1 x2) (rec1 := fun h k x1 => fX2_readLevel_rr n false h k x1 0) (fun h k x1 x2 hk res hz => ih.1 hk hz) (fun h k x1 hk res hz => ih.2 hk hz) (K := fun z => res = z) (fun h2 hz => ⟨rfl, hz⟩) ⟨res, hf, rfl⟩
    · intro h k x1 hk res hf
      refine w_meth2 2 (by decide) (Nat.le_of_ble_eq_true rfl) (ls := [some (.ref k), some (.ref 1), some (.int x1), none, none]) rfl ?_
      intro p e s m args below meth c D dA b0 ad X hr
      exact pX2_readPart_b0 X hr hk (d := 7 + n) (by omega) (rec0 := fun h k x1 x2 => fX2_readLevel_rr n true h k x1 x2) (rec1 := fun h k x1 => fX2_readLevel_rr n false h k x1 0) (fun h k x1 x2 hk res hz => ih.1 hk hz) (fun h k x1 hk res hz => ih.2 hk hz) (K := fun z => res = z) (fun h2 hz => ⟨rfl, hz⟩) ⟨res, hf, rfl⟩
theorem kX2_readLevel (l : Launch) {h : wSt} {k : Nat} {x1 x2 : Int32} (hk : wI2 k) {res : wSt} (hf : fX2_readLevel 64 h k x1 x2 = some res) : wC l yX2_readLevel cX2_readLevel 7 none 71 S0 [.ref k, .ref 1, .int x1, .int x2] h (wFV (fun b => res = b)) := (kX2_readLevel_rr l 64).1 hk hf
theorem kX2_readPart (l : Launch) {h : wSt} {k : Nat} {x1 : Int32} (hk : wI2 k) {res : wSt} (hf : fX2_readPart 64 h k x1 = some res) : wC l yX2_readPart cX2_readPart 5 none 71 S0 [.ref k, .ref 1, .int x1] h (wFV (fun b => res = b)) := (kX2_readLevel_rr l 64).2 hk hf
def fX2_readFrom (h : wSt) (k : Nat) : Option (wSt) :=
if (h.1 k 2) = 0 then
wlet (wuI h k 2 1) (fun yh21 =>
wlet (wuI yh21 k 1 0) (fun yh22 =>
(fX7_next yh22 ).bind (fun yr23 =>
(fX2_readLevel 64 yr23 k (0 : Int32) (0 : Int32)).bind (fun yr24 =>
(fX7_takeSign yr24 (59 : Int32)).bind (fun yr25 =>
some yr25)))))
else
(fX7_fail h (3 : Int32)).bind (fun yr26 =>
some yr26)
def fX2_joined_b62 (h : wSt) : Option (Int32) :=
some (1 : Int32)
def fX2_joined (h : wSt) (x0 : Int32) (x1 : Int32) (x2 : Int32) : Option (Int32) :=
if x0 = -11 then
some (x1 - x2)
else if x0 = -10 then
some (x1 + x2)
else if x0 = -9 then
if x1 = x2 then
some (1 : Int32)
else
some (0 : Int32)
else if x0 = -8 then
if x2 ≤ x1 then
some (0 : Int32)
else
some (1 : Int32)
else if x0 = -7 then
if x1 = 0 then
if x2 = 0 then
some (0 : Int32)
else
fX2_joined_b62 h
else
fX2_joined_b62 h
else if x0 = -6 then
if x1 = 0 then
some (0 : Int32)
else
if x2 = 0 then
some (0 : Int32)
else
some (1 : Int32)
else 
some (x1 * x2)
def fX2_holds_b182_6 (h : wSt) (k : Nat) (v1 : Int32) (v2 : Int32) (v3 : Int32) (v4 : Int32) (v5 : Int32) (v6 : Int32) : Option ((Int32 × Int32 × wSt) ⊕ ((Int32 × wSt) ⊕ (Bool × wSt))) :=
some (.inl (v5, (v6 + 1), h))
def fX2_holds_b137_6 (h : wSt) (k : Nat) (v1 : Int32) (v2 : Int32) (v3 : Int32) (v4 : Int32) (v5 : Int32) (v6 : Int32) (w1 : Int32) (w2 : Int32) : Option ((Int32 × Int32 × wSt) ⊕ ((Int32 × wSt) ⊕ (Bool × wSt))) :=
if wib w1 32 then
wlet (wuI h (k + 2) w1.toNatClampNeg w2) (fun yh28 =>
fX2_holds_b182_6 yh28 k v1 v2 v3 v4 v5 v6)
else none
def fX2_holds_b90_6 (h : wSt) (k : Nat) (v1 : Int32) (v2 : Int32) (v3 : Int32) (v4 : Int32) (v5 : Int32) (v6 : Int32) (w1 : Int32) (w2 : Int32) : Option ((Int32 × Int32 × wSt) ⊕ ((Int32 × wSt) ⊕ (Bool × wSt))) :=
if wib w1 32 then
wlet (wuI h (k + 2) w1.toNatClampNeg w2) (fun yh30 =>
fX2_holds_b182_6 yh30 k v1 v2 v3 v4 (v5 + 1) v6)
else none
def fX2_holds_l6 (h : wSt) (k : Nat) (v1 : Int32) (v2 : Int32) (v3 : Int32) (v4 : Int32) (v5 : Int32) (v6 : Int32) : Option ((Int32 × Int32 × wSt) ⊕ ((Int32 × wSt) ⊕ (Bool × wSt))) :=
if (h.1 k 1) ≤ v6 then
some (.inr (.inl (v5, h)))
else
if wib v6 1000 then
if (h.1 (k + 1) v6.toNatClampNeg) < (-4) then
if (h.1 (k + 1) v6.toNatClampNeg) = (-5) then
if 1 ≤ v5 then
if wib (v5 - 1) 32 then
if (h.1 (k + 2) (v5 - 1).toNatClampNeg) = 0 then
fX2_holds_b137_6 h k v1 v2 v3 v4 v5 v6 (v5 - 1) (1 : Int32)
else
fX2_holds_b137_6 h k v1 v2 v3 v4 v5 v6 (v5 - 1) (0 : Int32)
else none
else
some (.inr (.inr (false, h)))
else
if 2 ≤ v5 then
if wib ((v5 + (-1)) - 1) 32 then
if wib (v5 + (-1)) 32 then
(fX2_joined h (h.1 (k + 1) v6.toNatClampNeg) (h.1 (k + 2) ((v5 + (-1)) - 1).toNatClampNeg) (h.1 (k + 2) (v5 + (-1)).toNatClampNeg)).bind (fun yr24 =>
wlet (wuI h (k + 2) ((v5 + (-1)) - 1).toNatClampNeg yr24) (fun yh25 =>
fX2_holds_b182_6 yh25 k v1 v2 v3 v4 (v5 + (-1)) v6))
else none
else none
else
some (.inr (.inr (false, h)))
else
if v5 < 32 then
if (h.1 (k + 1) v6.toNatClampNeg) < 0 then
if (h.1 (k + 1) v6.toNatClampNeg) = (-1) then
fX2_holds_b90_6 h k v1 v2 v3 v4 v5 v6 v5 v1
else
if (h.1 (k + 1) v6.toNatClampNeg) = (-2) then
fX2_holds_b90_6 h k v1 v2 v3 v4 v5 v6 v5 v2
else
if (h.1 (k + 1) v6.toNatClampNeg) = (-3) then
fX2_holds_b90_6 h k v1 v2 v3 v4 v5 v6 v5 v3
else
fX2_holds_b90_6 h k v1 v2 v3 v4 v5 v6 v5 v4
else
fX2_holds_b90_6 h k v1 v2 v3 v4 v5 v6 v5 (h.1 (k + 1) v6.toNatClampNeg)
else
some (.inr (.inr (false, h)))
else none
def fX2_holds (h : wSt) (k : Nat) (x0 : Int32) (x1 : Int32) (x2 : Int32) (x3 : Int32) : Option (Bool × wSt) :=
(wit (fun v : (Int32 × Int32 × wSt) => fX2_holds_l6 v.2.2 k x0 x1 x2 x3 v.1 v.2.1) 3000 ((0 : Int32), (0 : Int32), h)).bind (fun ye31 => match ye31 with
| .inl ye31v =>
if ye31v.1 = 1 then
if (ye31v.2.1 (k + 2) 0) = 0 then
some (false, ye31v.2)
else
some (true, ye31v.2)
else
some (false, ye31v.2)
| .inr ye31r =>
some ye31r)
def fX4_copyFrom (h : wSt) (k : Nat) (k0 : Nat) : Option (wSt) :=
wlet (wuI h k 0 (h.1 k0 0)) (fun yh21 =>
wlet (wsJ yh21 (k + 1) (va_cpy (yh21.2 (k0 + 1)) (yh21.2 (k + 1)) 0 0 3)) (fun yh22 =>
wlet (wsI yh22 (k + 2) (va_cpy (yh22.1 (k0 + 2)) (yh22.1 (k + 2)) 0 0 3)) (fun yh23 =>
wlet (wsI yh23 (k + 3) (va_cpy (yh23.1 (k0 + 3)) (yh23.1 (k + 3)) 0 0 3)) (fun yh24 =>
wlet (wsI yh24 (k + 4) (va_cpy (yh24.1 (k0 + 4)) (yh24.1 (k + 4)) 0 0 3)) (fun yh25 =>
wlet (wuI yh25 k 5 (yh25.1 k0 5)) (fun yh26 =>
wlet (wsJ yh26 (k + 5) (va_cpy (yh26.2 (k0 + 5)) (yh26.2 (k + 5)) 0 0 6)) (fun yh27 =>
wlet (wsI yh27 (k + 6) (va_cpy (yh27.1 (k0 + 6)) (yh27.1 (k + 6)) 0 0 6)) (fun yh28 =>
wlet (wsI yh28 (k + 7) (va_cpy (yh28.1 (k0 + 7)) (yh28.1 (k + 7)) 0 0 6)) (fun yh29 =>
wlet (wsI yh29 (k + 8) (va_cpy (yh29.1 (k0 + 8)) (yh29.1 (k + 8)) 0 0 6)) (fun yh30 =>
wlet (wuI yh30 k 10 (yh30.1 k0 10)) (fun yh31 =>
wlet (wsI yh31 (k + 9) (va_cpy (yh31.1 (k0 + 9)) (yh31.1 (k + 9)) 0 0 12)) (fun yh32 =>
(fX2_copyFrom yh32 (k + 10) (k0 + 10)).bind (fun yr33 =>
some yr33)))))))))))))
def fX4_indexOf_l3 (h : wSt) (a1 : Nat) (g1 : Nat) (v0 : Int64) (v3 : Int32) (v4 : Int32) : Option ((Int32) ⊕ ((Unit) ⊕ (Int32))) :=
if v3 ≤ v4 then
some (.inr (.inl ()))
else
if (Int32.ofNat g1) ≤ v4 then
some (.inr (.inl ()))
else
if wib v4 g1 then
if (h.2 a1 v4.toNatClampNeg) = v0 then
some (.inr (.inr v4))
else
some (.inl (v4 + 1))
else none
def fX4_indexOf (h : wSt) (x0 : Int64) (a1 : Nat) (g1 : Nat) (x2 : Int32) : Option (Int32) :=
(wit (fun v : (Int32) => fX4_indexOf_l3 h a1 g1 x0 x2 v) 3000 (0 : Int32)).bind (fun ye22 => match ye22 with
| .inl ye22v =>
some (-1 : Int32)
| .inr ye22r =>
some ye22r)
def fX4_takeNewName_b57 (h : wSt) (k : Nat) (v2 : Int64) : Option (Int64 × wSt) :=
(fX7_next h ).bind (fun yr24 =>
some (v2, yr24))
def fX4_takeNewName_b52 (h : wSt) (k : Nat) (v2 : Int64) : Option (Int64 × wSt) :=
(fX7_fail h (3 : Int32)).bind (fun yr23 =>
fX4_takeNewName_b57 yr23 k v2)
def fX4_takeNewName (h : wSt) (k : Nat) : Option (Int64 × wSt) :=
(fX7_isName h ).bind (fun yr21 =>
if yr21 = true then
(fX4_indexOf h (h.2 1 6) (k + 1) 3 (h.1 k 0)).bind (fun yr22 =>
if yr22 = (-1) then
(fX4_indexOf h (h.2 1 6) (k + 5) 6 (h.1 k 5)).bind (fun yr25 =>
if yr25 = (-1) then
fX4_takeNewName_b57 h k (h.2 1 6)
else
fX4_takeNewName_b52 h k (h.2 1 6))
else
fX4_takeNewName_b52 h k (h.2 1 6))
else
(fX7_fail h (1 : Int32)).bind (fun yr26 =>
fX4_takeNewName_b57 yr26 k (h.2 1 6)))
def fX4_readSkin (h : wSt) (k : Nat) : Option (wSt) :=
if (h.1 k 0) < 3 then
(fX7_next h ).bind (fun yr21 =>
(fX4_takeNewName yr21 k).bind (fun yr22 =>
if wib (yr21.1 k 0) 3 then
wlet (wuJ yr22.2 (k + 1) (yr21.1 k 0).toNatClampNeg yr22.1) (fun yh24 =>
(fX7_takeWord yh24 2).bind (fun yr25 =>
(fX7_takeNumber yr25 (1 : Int32) (6 : Int32)).bind (fun yr26 =>
if wib (yr25.1 k 0) 3 then
wlet (wuI yr26.2 (k + 2) (yr25.1 k 0).toNatClampNeg yr26.1) (fun yh28 =>
(fX7_takeWord yh28 3).bind (fun yr29 =>
(fX7_takeNumber yr29 (1 : Int32) (30 : Int32)).bind (fun yr30 =>
if wib (yr29.1 k 0) 3 then
wlet (wuI yr30.2 (k + 3) (yr29.1 k 0).toNatClampNeg yr30.1) (fun yh32 =>
if wib (yh32.1 k 0) 3 then
wlet (wuI yh32 (k + 4) (yh32.1 k 0).toNatClampNeg 0) (fun yh34 =>
(fX7_takeSign yh34 (59 : Int32)).bind (fun yr35 =>
wlet (wuI yr35 k 0 ((yr35.1 k 0) + 1)) (fun yh36 =>
some yh36)))
else none)
else none)))
else none)))
else none))
else
(fX7_fail h (5 : Int32)).bind (fun yr37 =>
some yr37)
def fX4_takeTold_b37 (h : wSt) (a1 : Nat) (g1 : Nat) (v3 : Int32) : Option (Int32 × wSt) :=
(fX7_next h ).bind (fun yr23 =>
(fX7_isSound yr23 ).bind (fun yr24 =>
if yr24 = true then
some (v3, yr23)
else
some ((-1 : Int32), yr23)))
def fX4_takeTold (h : wSt) (a1 : Nat) (g1 : Nat) (x2 : Int32) : Option (Int32 × wSt) :=
(fX7_isName h ).bind (fun yr21 =>
if yr21 = true then
(fX4_indexOf h (h.2 1 6) a1 g1 x2).bind (fun yr22 =>
if yr22 = (-1) then
(fX7_fail h (2 : Int32)).bind (fun yr25 =>
fX4_takeTold_b37 yr25 a1 g1 yr22)
else
fX4_takeTold_b37 h a1 g1 yr22)
else
(fX7_fail h (1 : Int32)).bind (fun yr26 =>
fX4_takeTold_b37 yr26 a1 g1 (-1 : Int32)))
def fX4_takeSkin (h : wSt) (k : Nat) : Option (Int32 × wSt) :=
(fX4_takeTold h (k + 1) 3 (h.1 k 0)).bind (fun yr21 =>
some (yr21.1, yr21.2))
def fX4_readHole (h : wSt) (k : Nat) : Option (wSt) :=
(fX7_next h ).bind (fun yr21 =>
(fX4_takeSkin yr21 k).bind (fun yr22 =>
if yr22.1 = (-1) then
some yr22.2
else
if wib yr22.1 3 then
(fX7_isNumberWithin yr22.2 (0 : Int32) ((yr22.2.1 (k + 2) yr22.1.toNatClampNeg) - 1)).bind (fun yr24 =>
if yr24.1 = true then
if ((yr24.2.1 (k + 4) yr22.1.toNatClampNeg) &&& (1 <<< ((yr24.2.1 1 5) &&& 31))) = 0 then
wlet (wuI yr24.2 (k + 4) yr22.1.toNatClampNeg ((yr24.2.1 (k + 4) yr22.1.toNatClampNeg) ||| (1 <<< ((yr24.2.1 1 5) &&& 31)))) (fun yh25 =>
(fX7_next yh25 ).bind (fun yr26 =>
(fX7_takeSign yr26 (59 : Int32)).bind (fun yr27 =>
some yr27)))
else
(fX7_fail yr24.2 (3 : Int32)).bind (fun yr28 =>
some yr28)
else
some yr24.2)
else none))
def fX4_takeKind_b58 (h : wSt) (v1 : Int32) : Option (Int32 × wSt) :=
(fX7_next h ).bind (fun yr25 =>
some (v1, yr25))
def fX4_takeKind (h : wSt) : Option (Int32 × wSt) :=
(fX7_isWord h 15).bind (fun yr21 =>
if yr21 = true then
fX4_takeKind_b58 h (1 : Int32)
else
(fX7_isWord h 16).bind (fun yr22 =>
if yr22 = true then
fX4_takeKind_b58 h (2 : Int32)
else
(fX7_isWord h 17).bind (fun yr23 =>
if yr23 = true then
fX4_takeKind_b58 h (3 : Int32)
else
(fX7_isWord h 14).bind (fun yr24 =>
if yr24 = true then
fX4_takeKind_b58 h (0 : Int32)
else
(fX7_fail h (1 : Int32)).bind (fun yr26 =>
fX4_takeKind_b58 yr26 (0 : Int32))))))
def fX4_takeInk_b25 (h : wSt) (v1 : Int32) : Option (Int32 × wSt) :=
(fX7_next h ).bind (fun yr22 =>
if v1 = 0 then
some ((0 : Int32), yr22)
else
some ((1 : Int32), yr22))
def fX4_takeInk (h : wSt) : Option (Int32 × wSt) :=
(fX7_isWord h 12).bind (fun yr21 =>
if yr21 = true then
fX4_takeInk_b25 h (wb yr21)
else
(fX7_isWord h 13).bind (fun yr23 =>
if yr23 = true then
fX4_takeInk_b25 h (wb yr21)
else
(fX7_fail h (1 : Int32)).bind (fun yr24 =>
fX4_takeInk_b25 yr24 (wb yr21))))
def fX4_readText (h : wSt) (k : Nat) : Option (wSt) :=
if (h.1 k 5) < 6 then
(fX7_next h ).bind (fun yr21 =>
(fX4_takeNewName yr21 k).bind (fun yr22 =>
if wib (yr21.1 k 5) 6 then
wlet (wuJ yr22.2 (k + 5) (yr21.1 k 5).toNatClampNeg yr22.1) (fun yh24 =>
(fX4_takeKind yh24 ).bind (fun yr25 =>
if wib (yh24.1 k 5) 6 then
wlet (wuI yr25.2 (k + 6) (yh24.1 k 5).toNatClampNeg yr25.1) (fun yh27 =>
(fX4_takeInk yh27 ).bind (fun yr28 =>
if wib (yh27.1 k 5) 6 then
wlet (wuI yr28.2 (k + 7) (yh27.1 k 5).toNatClampNeg yr28.1) (fun yh30 =>
(fX7_takeWord yh30 2).bind (fun yr31 =>
(fX7_takeNumber yr31 (1 : Int32) (6 : Int32)).bind (fun yr32 =>
if wib (yr31.1 k 5) 6 then
wlet (wuI yr32.2 (k + 8) (yr31.1 k 5).toNatClampNeg yr32.1) (fun yh34 =>
(fX7_takeSign yh34 (59 : Int32)).bind (fun yr35 =>
wlet (wuI yr35 k 5 ((yr35.1 k 5) + 1)) (fun yh36 =>
some yh36)))
else none)))
else none))
else none))
else none))
else
(fX7_fail h (5 : Int32)).bind (fun yr37 =>
some yr37)
def fX4_readDamp_b43_19 (h : wSt) (k : Nat) (v2 : Int32) : Option ((Int32 × wSt) ⊕ ((wSt))) :=
(fX7_takeNumber h (0 : Int32) (9 : Int32)).bind (fun yr23 =>
if wib v2 12 then
wlet (wuI yr23.2 (k + 9) v2.toNatClampNeg yr23.1) (fun yh25 =>
wlet (wuI yh25 k 10 (v2 + 1)) (fun yh26 =>
some (.inl ((v2 + 1), yh26))))
else none)
def fX4_readDamp_l19 (h : wSt) (k : Nat) (v2 : Int32) : Option ((Int32 × wSt) ⊕ ((wSt))) :=
if 12 ≤ v2 then
some (.inr h)
else
(fX7_isSound h ).bind (fun yr22 =>
if yr22 = true then
if v2 = 0 then
fX4_readDamp_b43_19 h k v2
else
(fX7_isNumber h ).bind (fun yr27 =>
if yr27 = true then
fX4_readDamp_b43_19 h k v2
else
some (.inr h))
else
some (.inr h))
def fX4_readDamp_b91 (h : wSt) (k : Nat) : Option (wSt) :=
(fX7_takeSign h (59 : Int32)).bind (fun yr31 =>
some yr31)
def fX4_readDamp (h : wSt) (k : Nat) : Option (wSt) :=
if (h.1 k 10) ≤ 0 then
(fX7_next h ).bind (fun yr21 =>
(wit (fun v : (Int32 × wSt) => fX4_readDamp_l19 v.2 k v.1) 3000 ((0 : Int32), yr21)).bind (fun ye28 =>
(fX7_isNumber ye28 ).bind (fun yr30 =>
if yr30 = true then
(fX7_isNumberWithin ye28 (0 : Int32) (9 : Int32)).bind (fun yr32 =>
if yr32.1 = true then
(fX7_fail yr32.2 (5 : Int32)).bind (fun yr33 =>
fX4_readDamp_b91 yr33 k)
else
fX4_readDamp_b91 yr32.2 k)
else
fX4_readDamp_b91 ye28 k)))
else
(fX7_fail h (3 : Int32)).bind (fun yr34 =>
some yr34)
def fX4_readFrom_b142_28 (h : wSt) (k : Nat) (v2 : Int32) : Option ((Int32 × wSt) ⊕ ((wSt))) :=
some (.inl ((v2 + 1), h))
def fX4_readFrom_l28 (h : wSt) (k : Nat) (v2 : Int32) : Option ((Int32 × wSt) ⊕ ((wSt))) :=
if 1000 ≤ v2 then
some (.inr h)
else
(fX7_isSound h ).bind (fun yr26 =>
if yr26 = true then
(fX7_isAtEnd h ).bind (fun yr27 =>
if yr27 = true then
some (.inr h)
else
(fX7_isWord h 1).bind (fun yr28 =>
if yr28 = true then
(fX4_readSkin h k).bind (fun yr38 =>
fX4_readFrom_b142_28 yr38 k v2)
else
(fX7_isWord h 4).bind (fun yr29 =>
if yr29 = true then
(fX4_readHole h k).bind (fun yr37 =>
fX4_readFrom_b142_28 yr37 k v2)
else
(fX7_isWord h 5).bind (fun yr30 =>
if yr30 = true then
(fX4_readText h k).bind (fun yr36 =>
fX4_readFrom_b142_28 yr36 k v2)
else
(fX7_isWord h 6).bind (fun yr31 =>
if yr31 = true then
(fX4_readDamp h k).bind (fun yr35 =>
fX4_readFrom_b142_28 yr35 k v2)
else
(fX7_isWord h 7).bind (fun yr32 =>
if yr32 = true then
(fX2_readFrom h (k + 10)).bind (fun yr34 =>
fX4_readFrom_b142_28 yr34 k v2)
else
(fX7_fail h (1 : Int32)).bind (fun yr33 =>
fX4_readFrom_b142_28 yr33 k v2)))))))
else
some (.inr h))
def fX4_readFrom (h : wSt) (k : Nat) : Option (Int32 × wSt) :=
wlet (wuI h k 0 0) (fun yh21 =>
wlet (wuI yh21 k 5 0) (fun yh22 =>
wlet (wuI yh22 k 10 0) (fun yh23 =>
(fX2_setUntold yh23 (k + 10)).bind (fun yr24 =>
(fX7_rewind yr24 ).bind (fun yr25 =>
(wit (fun v : (Int32 × wSt) => fX4_readFrom_l28 v.2 k v.1) 3000 ((0 : Int32), yr25)).bind (fun ye39 =>
some ((ye39.1 1 7), ye39)))))))
def fX4_takeText (h : wSt) (k : Nat) : Option (Int32 × wSt) :=
(fX4_takeTold h (k + 5) 6 (h.1 k 5)).bind (fun yr21 =>
some (yr21.1, yr21.2))
def fX4_hasSkin (h : wSt) (k : Nat) (x0 : Int32) : Option (Bool) :=
if x0 < 0 then
some false
else
if (h.1 k 0) ≤ x0 then
some false
else
some true
def fX4_hasLine (h : wSt) (k : Nat) (x0 : Int32) (x1 : Int32) : Option (Bool) :=
(fX4_hasSkin h k x0).bind (fun yr21 =>
if yr21 = true then
if x1 < 0 then
some false
else
if wib x0 3 then
if (h.1 (k + 2) x0.toNatClampNeg) ≤ x1 then
some false
else
some true
else none
else
some false)
def fX4_hasText (h : wSt) (k : Nat) (x0 : Int32) : Option (Bool) :=
if x0 < 0 then
some false
else
if (h.1 k 5) ≤ x0 then
some false
else
some true
def fX4_dampOf (h : wSt) (k : Nat) (x0 : Int32) : Option (Int32) :=
if (h.1 k 10) ≤ 0 then
some (0 : Int32)
else
if x0 < 0 then
some (0 : Int32)
else
if ¬ (h.1 k 10) = 0 then
if wib (x0 - x0 / (h.1 k 10) * (h.1 k 10)) 12 then
some (h.1 (k + 9) (x0 - x0 / (h.1 k 10) * (h.1 k 10)).toNatClampNeg)
else none
else none
def fX4_showsText_b42 (h : wSt) (k : Nat) (v1 : Int32) (v4 : Int32) (w1 : Int32) (w2 : Int32) : Option (Bool × wSt) :=
if wib v1 6 then
(fX2_holds h (k + 10) w1 w2 (h.1 (k + 7) v1.toNatClampNeg) v4).bind (fun yr23 =>
some (yr23.1, yr23.2))
else none
def fX4_showsText_b21 (h : wSt) (k : Nat) (v1 : Int32) (v2 : Int32) (v4 : Int32) (v5 : Int32) (w0 : Int32) : Option (Bool × wSt) :=
if v5 = 2 then
fX4_showsText_b42 h k v1 v4 w0 (v2 - 1)
else
fX4_showsText_b42 h k v1 v4 w0 v2
def fX4_showsText (h : wSt) (k : Nat) (x0 : Int32) (x1 : Int32) (x2 : Int32) (x3 : Int32) : Option (Bool × wSt) :=
if wib x0 6 then
if (h.1 (k + 6) x0.toNatClampNeg) = 1 then
fX4_showsText_b21 h k x0 x1 x3 (h.1 (k + 6) x0.toNatClampNeg) (x2 + 1)
else
fX4_showsText_b21 h k x0 x1 x3 (h.1 (k + 6) x0.toNatClampNeg) x2
else none
def fX4_howManyShow_b40_6 (h : wSt) (k : Nat) (v1 : Int32) (v2 : Int32) (v3 : Int32) (v4 : Int32) (v5 : Int32) (v6 : Int32) : Option ((Int32 × Int32 × wSt) ⊕ ((Int32 × wSt))) :=
some (.inl (v5, (v6 + 1), h))
def fX4_howManyShow_l6 (h : wSt) (k : Nat) (v1 : Int32) (v2 : Int32) (v3 : Int32) (v4 : Int32) (v5 : Int32) (v6 : Int32) : Option ((Int32 × Int32 × wSt) ⊕ ((Int32 × wSt))) :=
if (h.1 k 5) ≤ v6 then
some (.inr (v5, h))
else
if ((v1 >>> (v6 &&& 31)) &&& 1) = 0 then
fX4_howManyShow_b40_6 h k v1 v2 v3 v4 v5 v6
else
(fX4_showsText h k v6 v2 v3 v4).bind (fun yr21 =>
if yr21.1 = true then
fX4_howManyShow_b40_6 yr21.2 k v1 v2 v3 v4 (v5 + 1) v6
else
fX4_howManyShow_b40_6 yr21.2 k v1 v2 v3 v4 v5 v6)
def fX4_howManyShow (h : wSt) (k : Nat) (x0 : Int32) (x1 : Int32) (x2 : Int32) (x3 : Int32) : Option (Int32 × wSt) :=
(wit (fun v : (Int32 × Int32 × wSt) => fX4_howManyShow_l6 v.2.2 k x0 x1 x2 x3 v.1 v.2.1) 3000 ((0 : Int32), (0 : Int32), h)).bind (fun ye22 =>
some (ye22.1, ye22.2))
section WX
variable {p : Program} {l : Launch} {e : Env} {s : State} {m : MethodId} {args : Array Value} {below : List Frame} {meth : Method} {c : Code} {D : va_G} {dA : Nat → ClassId} {b0 : Nat} {ad : Nat → Nat} {F : Option Value → wSt → Prop}
set_option maxRecDepth 4000 in
theorem pX2_readFrom_b0 (X : wCx p s m args meth c RX2 cX2_readFrom 2 D dA b0 ad) (hr : meth.sig.returnType = none) {h : wSt} {k : Nat} (hk : wI2 k) {K : wSt → Prop} (hT : ∀ (h2 : wSt), K h2 → F none h2) (hf : wok (fX2_readFrom h k) K) : wM p l e (wR 72) s m args below meth c 0 0 (wE below args s D dA b0 ad S0 F) 2 D dA b0 ad S0 0 [some (.ref k), some (.ref 1)] [] h := by
  unfold fX2_readFrom at hf
  refine w_aload_n X dX2_readFrom_0 rfl rfl rfl ?_
  refine w_getI X dX2_readFrom_1 rfl fl_X2_28 hk.1 rfl ?_
  refine w_if_eq X dX2_readFrom_4 rfl (t := 13) rfl (fun hc => ?_) (fun hc => ?_)
  · have hf := wok_t hf hc
    refine w_aload_n X dX2_readFrom_13 rfl rfl rfl ?_
    refine w_iconst X dX2_readFrom_14 rfl ci_1 ?_
    refine w_putZ X dX2_readFrom_15 rfl (hx := rfl) fp_X2_28 hk.1 rfl ?_
    refine w_nmh (fun yh21 eyh21 => ?_)
    have hf := wok_l hf eyh21
    refine w_aload_n X dX2_readFrom_18 rfl rfl rfl ?_
    refine w_iconst X dX2_readFrom_19 rfl ci_0 ?_
    refine w_putI X dX2_readFrom_20 rfl fp_X2_18 hk.1 rfl ?_
    refine w_nmh (fun yh22 eyh22 => ?_)
    have hf := wok_l hf eyh22
    refine w_aload_n X dX2_readFrom_23 rfl rfl rfl ?_
    obtain ⟨yr23, eyr23, hf⟩ := wok_b hf
    refine w_callV X dX2_readFrom_24 rfl vl_X2_39 (kX7_next l  eyr23) S0_1 (As := []) (st := []) rfl rfl (Nat.le_of_ble_eq_true rfl) ⟨Nat.le_of_ble_eq_true rfl, Nat.le_of_ble_eq_true rfl⟩ ⟨Nat.zero_le _, Nat.zero_le _⟩ (fun r h2 hF => ?_)
    obtain ⟨rfl, rfl⟩ := hF
    show wM p l e (wR 72) s m args below meth c 0 0 (wE below args s D dA b0 ad S0 F) 2 D dA b0 ad S0 27 [some (.ref k), some (.ref 1)] [] yr23
    refine w_aload_n X dX2_readFrom_27 rfl rfl rfl ?_
    refine w_aload_n X dX2_readFrom_28 rfl rfl rfl ?_
    refine w_iconst X dX2_readFrom_29 rfl ci_0 ?_
    refine w_iconst X dX2_readFrom_30 rfl ci_0 ?_
    obtain ⟨yr24, eyr24, hf⟩ := wok_b hf
    refine w_callV X dX2_readFrom_31 rfl vl_X2_42 (kX2_readLevel l hk eyr24) hk.1 (As := [.ref 1, .int 0, .int 0]) (st := []) rfl rfl (Nat.le_of_ble_eq_true rfl) ⟨Nat.le_of_ble_eq_true rfl, Nat.le_of_ble_eq_true rfl⟩ ⟨Nat.zero_le _, Nat.zero_le _⟩ (fun r h2 hF => ?_)
    obtain ⟨rfl, rfl⟩ := hF
    show wM p l e (wR 72) s m args below meth c 0 0 (wE below args s D dA b0 ad S0 F) 2 D dA b0 ad S0 34 [some (.ref k), some (.ref 1)] [] yr24
    refine w_aload_n X dX2_readFrom_34 rfl rfl rfl ?_
    refine w_bipush X dX2_readFrom_35 rfl cb_59 ?_
    obtain ⟨yr25, eyr25, hf⟩ := wok_b hf
    refine w_callV X dX2_readFrom_37 rfl vl_X2_46 (kX7_takeSign l  eyr25) S0_1 (As := [.int 59]) (st := []) rfl rfl (Nat.le_of_ble_eq_true rfl) ⟨Nat.le_of_ble_eq_true rfl, Nat.le_of_ble_eq_true rfl⟩ ⟨Nat.zero_le _, Nat.zero_le _⟩ (fun r h2 hF => ?_)
    obtain ⟨rfl, rfl⟩ := hF
    show wM p l e (wR 72) s m args below meth c 0 0 (wE below args s D dA b0 ad S0 F) 2 D dA b0 ad S0 40 [some (.ref k), some (.ref 1)] [] yr25
    exact w_vret X dX2_readFrom_40 hr (hT _ (wok_s hf))
  · have hf := wok_f hf hc
    refine w_aload_n X dX2_readFrom_7 rfl rfl rfl ?_
    refine w_iconst X dX2_readFrom_8 rfl ci_3 ?_
    obtain ⟨yr26, eyr26, hf⟩ := wok_b hf
    refine w_callV X dX2_readFrom_9 rfl vl_X2_36 (kX7_fail l  eyr26) S0_1 (As := [.int 3]) (st := []) rfl rfl (Nat.le_of_ble_eq_true rfl) ⟨Nat.le_of_ble_eq_true rfl, Nat.le_of_ble_eq_true rfl⟩ ⟨Nat.zero_le _, Nat.zero_le _⟩ (fun r h2 hF => ?_)
    obtain ⟨rfl, rfl⟩ := hF
    show wM p l e (wR 72) s m args below meth c 0 0 (wE below args s D dA b0 ad S0 F) 2 D dA b0 ad S0 12 [some (.ref k), some (.ref 1)] [] yr26
    exact w_vret X dX2_readFrom_12 hr (hT _ (wok_s hf))
set_option maxRecDepth 4000 in
theorem kX2_readFrom (l : Launch) {h : wSt} {k : Nat} (hk : wI2 k) {res : wSt} (hf : fX2_readFrom h k = some res) : wC l yX2_readFrom cX2_readFrom 2 none 72 S0 [.ref k, .ref 1] h (wFV (fun b => res = b)) := by
  refine w_meth2 0 (by decide) (Nat.le_of_ble_eq_true rfl) (ls := [some (.ref k), some (.ref 1)]) rfl ?_
  intro p e s m args below meth c D dA b0 ad X hr
  exact pX2_readFrom_b0 X hr hk (K := fun z => res = z) (fun h2 hz => ⟨rfl, hz⟩) ⟨res, hf, rfl⟩
set_option maxRecDepth 4000 in
theorem pX2_joined_b62 (X : wCx p s m args meth c RX2 cX2_joined 3 D dA b0 ad) (hr : meth.sig.returnType = (some .int)) {h : wSt} {K : Int32 → Prop} (hT : ∀ (x : Int32), K x → F (some (.int x)) h)  (hf : wok (fX2_joined_b62 h ) K) : wM p l e (wR 1) s m args below meth c 0 0 (wE below args s D dA b0 ad S0 F) 3 D dA b0 ad S0 62 [none, none, none] [] h := by
  unfold fX2_joined_b62 at hf
  refine w_iconst X dX2_joined_62 rfl ci_1 ?_
  refine w_goto X dX2_joined_63 (t := 67) rfl ?_
  exact w_iret X dX2_joined_67 hr (hT _ (wok_s hf))
set_option maxRecDepth 4000 in
theorem pX2_joined_b0 (X : wCx p s m args meth c RX2 cX2_joined 3 D dA b0 ad) (hr : meth.sig.returnType = (some .int)) {h : wSt} {x0 : Int32} {x1 : Int32} {x2 : Int32} {K : Int32 → Prop} (hT : ∀ (x : Int32), K x → F (some (.int x)) h) (hf : wok (fX2_joined h x0 x1 x2) K) : wM p l e (wR 1) s m args below meth c 0 0 (wE below args s D dA b0 ad S0 F) 3 D dA b0 ad S0 0 [some (.int x0), some (.int x1), some (.int x2)] [] h := by
  unfold fX2_joined at hf
  refine w_iload_n X dX2_joined_0 rfl rfl rfl ?_
  by_cases yhs21 : x0 = -11
  · have hf := wok_t hf yhs21
    refine w_swIn X dX2_joined_1 (t := 94) (off := 93) rfl (by rw [yhs21]; decide) (by rw [yhs21]; decide) (by rw [yhs21]; rfl) ?_
    refine w_iload_n X dX2_joined_94 rfl rfl rfl ?_
    refine w_iload_n X dX2_joined_95 rfl rfl rfl ?_
    refine w_isub X dX2_joined_96 rfl ?_
    exact w_iret X dX2_joined_97 hr (hT _ (wok_s hf))
  have hf := wok_f hf yhs21
  by_cases yhs22 : x0 = -10
  · have hf := wok_t hf yhs22
    refine w_swIn X dX2_joined_1 (t := 90) (off := 89) rfl (by rw [yhs22]; decide) (by rw [yhs22]; decide) (by rw [yhs22]; rfl) ?_
    refine w_iload_n X dX2_joined_90 rfl rfl rfl ?_
    refine w_iload_n X dX2_joined_91 rfl rfl rfl ?_
    refine w_iadd X dX2_joined_92 rfl ?_
    exact w_iret X dX2_joined_93 hr (hT _ (wok_s hf))
  have hf := wok_f hf yhs22
  by_cases yhs23 : x0 = -9
  · have hf := wok_t hf yhs23
    refine w_swIn X dX2_joined_1 (t := 79) (off := 78) rfl (by rw [yhs23]; decide) (by rw [yhs23]; decide) (by rw [yhs23]; rfl) ?_
    refine w_iload_n X dX2_joined_79 rfl rfl rfl ?_
    refine w_iload_n X dX2_joined_80 rfl rfl rfl ?_
    refine w_icmp_ne X dX2_joined_81 rfl (t := 88) rfl (fun hc => ?_) (fun hc => ?_)
    · have hf := wok_f hf hc
      refine w_iconst X dX2_joined_88 rfl ci_0 ?_
      exact w_iret X dX2_joined_89 hr (hT _ (wok_s hf))
    · have hf := wok_t hf hc
      refine w_iconst X dX2_joined_84 rfl ci_1 ?_
      refine w_goto X dX2_joined_85 (t := 89) rfl ?_
      exact w_iret X dX2_joined_89 hr (hT _ (wok_s hf))
  have hf := wok_f hf yhs23
  by_cases yhs24 : x0 = -8
  · have hf := wok_t hf yhs24
    refine w_swIn X dX2_joined_1 (t := 68) (off := 67) rfl (by rw [yhs24]; decide) (by rw [yhs24]; decide) (by rw [yhs24]; rfl) ?_
    refine w_iload_n X dX2_joined_68 rfl rfl rfl ?_
    refine w_iload_n X dX2_joined_69 rfl rfl rfl ?_
    refine w_icmp_ge X dX2_joined_70 rfl (t := 77) rfl (fun hc => ?_) (fun hc => ?_)
    · have hf := wok_t hf hc
      refine w_iconst X dX2_joined_77 rfl ci_0 ?_
      exact w_iret X dX2_joined_78 hr (hT _ (wok_s hf))
    · have hf := wok_f hf hc
      refine w_iconst X dX2_joined_73 rfl ci_1 ?_
      refine w_goto X dX2_joined_74 (t := 78) rfl ?_
      exact w_iret X dX2_joined_78 hr (hT _ (wok_s hf))
  have hf := wok_f hf yhs24
  by_cases yhs25 : x0 = -7
  · have hf := wok_t hf yhs25
    refine w_swIn X dX2_joined_1 (t := 54) (off := 53) rfl (by rw [yhs25]; decide) (by rw [yhs25]; decide) (by rw [yhs25]; rfl) ?_
    refine w_iload_n X dX2_joined_54 rfl rfl rfl ?_
    refine w_if_ne X dX2_joined_55 rfl (t := 62) rfl (fun hc => ?_) (fun hc => ?_)
    · have hf := wok_f hf hc
      refine w_fg (ls2 := [none, none, none]) trivial ?_
      exact pX2_joined_b62 X hr  hT hf
    · have hf := wok_t hf hc
      refine w_iload_n X dX2_joined_58 rfl rfl rfl ?_
      refine w_if_eq X dX2_joined_59 rfl (t := 66) rfl (fun hc => ?_) (fun hc => ?_)
      · have hf := wok_t hf hc
        refine w_iconst X dX2_joined_66 rfl ci_0 ?_
        exact w_iret X dX2_joined_67 hr (hT _ (wok_s hf))
      · have hf := wok_f hf hc
        refine w_fg (ls2 := [none, none, none]) trivial ?_
        exact pX2_joined_b62 X hr  hT hf
  have hf := wok_f hf yhs25
  by_cases yhs26 : x0 = -6
  · have hf := wok_t hf yhs26
    refine w_swIn X dX2_joined_1 (t := 40) (off := 39) rfl (by rw [yhs26]; decide) (by rw [yhs26]; decide) (by rw [yhs26]; rfl) ?_
    refine w_iload_n X dX2_joined_40 rfl rfl rfl ?_
    refine w_if_eq X dX2_joined_41 rfl (t := 52) rfl (fun hc => ?_) (fun hc => ?_)
    · have hf := wok_t hf hc
      refine w_iconst X dX2_joined_52 rfl ci_0 ?_
      exact w_iret X dX2_joined_53 hr (hT _ (wok_s hf))
    · have hf := wok_f hf hc
      refine w_iload_n X dX2_joined_44 rfl rfl rfl ?_
      refine w_if_eq X dX2_joined_45 rfl (t := 52) rfl (fun hc => ?_) (fun hc => ?_)
      · have hf := wok_t hf hc
        refine w_iconst X dX2_joined_52 rfl ci_0 ?_
        exact w_iret X dX2_joined_53 hr (hT _ (wok_s hf))
      · have hf := wok_f hf hc
        refine w_iconst X dX2_joined_48 rfl ci_1 ?_
        refine w_goto X dX2_joined_49 (t := 53) rfl ?_
        exact w_iret X dX2_joined_53 hr (hT _ (wok_s hf))
  have hf := wok_f hf yhs26
  refine w_swOut X dX2_joined_1 (t := 98) rfl (by have := lv_neT yhs21 (a := -11) (by decide); have := lv_neT yhs22 (a := -10) (by decide); have := lv_neT yhs23 (a := -9) (by decide); have := lv_neT yhs24 (a := -8) (by decide); have := lv_neT yhs25 (a := -7) (by decide); have := lv_neT yhs26 (a := -6) (by decide); omega) ?_
  refine w_iload_n X dX2_joined_98 rfl rfl rfl ?_
  refine w_iload_n X dX2_joined_99 rfl rfl rfl ?_
  refine w_imul X dX2_joined_100 rfl ?_
  exact w_iret X dX2_joined_101 hr (hT _ (wok_s hf))
set_option maxRecDepth 4000 in
theorem kX2_joined (l : Launch) {h : wSt} {x0 : Int32} {x1 : Int32} {x2 : Int32} {res : Int32} (hf : fX2_joined h x0 x1 x2 = some res) : wC l yX2_joined cX2_joined 3 (some .int) 1 S0 [.int x0, .int x1, .int x2] h (wFI (fun a b => res = a ∧ h = b)) := by
  refine w_meth2 0 (by decide) (Nat.le_of_ble_eq_true rfl) (ls := [some (.int x0), some (.int x1), some (.int x2)]) rfl ?_
  intro p e s m args below meth c D dA b0 ad X hr
  exact pX2_joined_b0 X hr  (K := fun z => res = z) (fun x hz => ⟨x, rfl, hz, rfl⟩) ⟨res, hf, rfl⟩
set_option maxRecDepth 4000 in
theorem pX2_holds_b182_6 (X : wCx p s m args meth c RX2 cX2_holds 8 D dA b0 ad) (hr : meth.sig.returnType = (some .boolean)) {h : wSt} {k : Nat} {v1 : Int32} {v2 : Int32} {v3 : Int32} {v4 : Int32} {v5 : Int32} {v6 : Int32} (hk : wI2 k) {K : (Int32 × Int32 × wSt) ⊕ ((Int32 × wSt) ⊕ (Bool × wSt)) → Prop} (hN : ∀ (n5 : Int32) (n6 : Int32) (nh : wSt), K (.inl (n5, n6, nh)) → wM p l e (wR 2) s m args below meth c 0 0 (wE below args s D dA b0 ad S0 F) 8 D dA b0 ad S0 6 [some (.ref k), some (.int v1), some (.int v2), some (.int v3), some (.int v4), some (.int n5), some (.int n6), none] [] nh) (hX0 : ∀ (n5 : Int32) (nh : wSt), K (.inr (.inl (n5, nh))) → wM p l e (wR 2) s m args below meth c 0 0 (wE below args s D dA b0 ad S0 F) 8 D dA b0 ad S0 188 [some (.ref k), none, none, none, none, some (.int n5), none, none] [] nh) (hT : ∀ (x : Bool) (h2 : wSt), K (.inr (.inr (x, h2))) → F (some (.int (wb x))) h2) (hf : wok (fX2_holds_b182_6 h k v1 v2 v3 v4 v5 v6) K) : wM p l e (wR 2) s m args below meth c 0 0 (wE below args s D dA b0 ad S0 F) 8 D dA b0 ad S0 182 [some (.ref k), some (.int v1), some (.int v2), some (.int v3), some (.int v4), some (.int v5), some (.int v6), none] [] h := by
  unfold fX2_holds_b182_6 at hf
  refine w_iinc X dX2_holds_182 rfl (v := (v6 + 1)) rfl rfl (Nat.le_of_ble_eq_true rfl) (cinc_1 _) (ls' := [some (.ref k), some (.int v1), some (.int v2), some (.int v3), some (.int v4), some (.int v5), some (.int (v6 + 1)), none]) rfl ?_
  refine w_goto X dX2_holds_185 (t := 6) rfl ?_
  exact hN _ _ _ (wok_s hf)
set_option maxRecDepth 4000 in
theorem pX2_holds_b137_6 (X : wCx p s m args meth c RX2 cX2_holds 8 D dA b0 ad) (hr : meth.sig.returnType = (some .boolean)) {h : wSt} {k : Nat} {v1 : Int32} {v2 : Int32} {v3 : Int32} {v4 : Int32} {v5 : Int32} {v6 : Int32} {w1 : Int32} {w2 : Int32} (hk : wI2 k) {K : (Int32 × Int32 × wSt) ⊕ ((Int32 × wSt) ⊕ (Bool × wSt)) → Prop} (hN : ∀ (n5 : Int32) (n6 : Int32) (nh : wSt), K (.inl (n5, n6, nh)) → wM p l e (wR 2) s m args below meth c 0 0 (wE below args s D dA b0 ad S0 F) 8 D dA b0 ad S0 6 [some (.ref k), some (.int v1), some (.int v2), some (.int v3), some (.int v4), some (.int n5), some (.int n6), none] [] nh) (hX0 : ∀ (n5 : Int32) (nh : wSt), K (.inr (.inl (n5, nh))) → wM p l e (wR 2) s m args below meth c 0 0 (wE below args s D dA b0 ad S0 F) 8 D dA b0 ad S0 188 [some (.ref k), none, none, none, none, some (.int n5), none, none] [] nh) (hT : ∀ (x : Bool) (h2 : wSt), K (.inr (.inr (x, h2))) → F (some (.int (wb x))) h2) (hf : wok (fX2_holds_b137_6 h k v1 v2 v3 v4 v5 v6 w1 w2) K) : wM p l e (wR 2) s m args below meth c 0 0 (wE below args s D dA b0 ad S0 F) 8 D dA b0 ad S0 137 [some (.ref k), some (.int v1), some (.int v2), some (.int v3), some (.int v4), some (.int v5), some (.int v6), none] [.int w2, .int w1, .ref (k + 2)] h := by
  unfold fX2_holds_b137_6 at hf
  obtain ⟨yhg27, hf⟩ := wok_g hf
  refine w_iast X dX2_holds_137 rfl (j := w1.toNatClampNeg) rfl hk.2.2 yhg27 ?_
  refine w_nmh (fun yh28 eyh28 => ?_)
  have hf := wok_l hf eyh28
  refine w_goto X dX2_holds_138 (t := 182) rfl ?_
  exact pX2_holds_b182_6 X hr hk hN hX0 hT hf
set_option maxRecDepth 4000 in
theorem pX2_holds_b90_6 (X : wCx p s m args meth c RX2 cX2_holds 8 D dA b0 ad) (hr : meth.sig.returnType = (some .boolean)) {h : wSt} {k : Nat} {v1 : Int32} {v2 : Int32} {v3 : Int32} {v4 : Int32} {v5 : Int32} {v6 : Int32} {w1 : Int32} {w2 : Int32} (hk : wI2 k) {K : (Int32 × Int32 × wSt) ⊕ ((Int32 × wSt) ⊕ (Bool × wSt)) → Prop} (hN : ∀ (n5 : Int32) (n6 : Int32) (nh : wSt), K (.inl (n5, n6, nh)) → wM p l e (wR 2) s m args below meth c 0 0 (wE below args s D dA b0 ad S0 F) 8 D dA b0 ad S0 6 [some (.ref k), some (.int v1), some (.int v2), some (.int v3), some (.int v4), some (.int n5), some (.int n6), none] [] nh) (hX0 : ∀ (n5 : Int32) (nh : wSt), K (.inr (.inl (n5, nh))) → wM p l e (wR 2) s m args below meth c 0 0 (wE below args s D dA b0 ad S0 F) 8 D dA b0 ad S0 188 [some (.ref k), none, none, none, none, some (.int n5), none, none] [] nh) (hT : ∀ (x : Bool) (h2 : wSt), K (.inr (.inr (x, h2))) → F (some (.int (wb x))) h2) (hf : wok (fX2_holds_b90_6 h k v1 v2 v3 v4 v5 v6 w1 w2) K) : wM p l e (wR 2) s m args below meth c 0 0 (wE below args s D dA b0 ad S0 F) 8 D dA b0 ad S0 90 [some (.ref k), some (.int v1), some (.int v2), some (.int v3), some (.int v4), some (.int v5), some (.int v6), none] [.int w2, .int w1, .ref (k + 2)] h := by
  unfold fX2_holds_b90_6 at hf
  obtain ⟨yhg29, hf⟩ := wok_g hf
  refine w_iast X dX2_holds_90 rfl (j := w1.toNatClampNeg) rfl hk.2.2 yhg29 ?_
  refine w_nmh (fun yh30 eyh30 => ?_)
  have hf := wok_l hf eyh30
  refine w_iinc X dX2_holds_91 rfl (v := (v5 + 1)) rfl rfl (Nat.le_of_ble_eq_true rfl) (cinc_1 _) (ls' := [some (.ref k), some (.int v1), some (.int v2), some (.int v3), some (.int v4), some (.int (v5 + 1)), some (.int v6), none]) rfl ?_
  refine w_goto X dX2_holds_94 (t := 182) rfl ?_
  exact pX2_holds_b182_6 X hr hk hN hX0 hT hf
set_option maxRecDepth 4000 in
theorem pX2_holds_l6b (X : wCx p s m args meth c RX2 cX2_holds 8 D dA b0 ad) (hr : meth.sig.returnType = (some .boolean)) {h : wSt} {k : Nat} {v1 : Int32} {v2 : Int32} {v3 : Int32} {v4 : Int32} {v5 : Int32} {v6 : Int32} (hk : wI2 k) {K : (Int32 × Int32 × wSt) ⊕ ((Int32 × wSt) ⊕ (Bool × wSt)) → Prop} (hN : ∀ (n5 : Int32) (n6 : Int32) (nh : wSt), K (.inl (n5, n6, nh)) → wM p l e (wR 2) s m args below meth c 0 0 (wE below args s D dA b0 ad S0 F) 8 D dA b0 ad S0 6 [some (.ref k), some (.int v1), some (.int v2), some (.int v3), some (.int v4), some (.int n5), some (.int n6), none] [] nh) (hX0 : ∀ (n5 : Int32) (nh : wSt), K (.inr (.inl (n5, nh))) → wM p l e (wR 2) s m args below meth c 0 0 (wE below args s D dA b0 ad S0 F) 8 D dA b0 ad S0 188 [some (.ref k), none, none, none, none, some (.int n5), none, none] [] nh) (hT : ∀ (x : Bool) (h2 : wSt), K (.inr (.inr (x, h2))) → F (some (.int (wb x))) h2) (hf : wok (fX2_holds_l6 h k v1 v2 v3 v4 v5 v6) K) : wM p l e (wR 2) s m args below meth c 0 0 (wE below args s D dA b0 ad S0 F) 8 D dA b0 ad S0 6 [some (.ref k), some (.int v1), some (.int v2), some (.int v3), some (.int v4), some (.int v5), some (.int v6), none] [] h := by
  unfold fX2_holds_l6 at hf
  refine w_iload X dX2_holds_6 rfl rfl ?_
  refine w_aload_n X dX2_holds_8 rfl rfl rfl ?_
  refine w_getI X dX2_holds_9 rfl fl_X2_18 hk.1 rfl ?_
  refine w_icmp_ge X dX2_holds_12 rfl (t := 188) rfl (fun hc => ?_) (fun hc => ?_)
  · have hf := wok_t hf hc
    refine w_fg (ls2 := [some (.ref k), none, none, none, none, some (.int v5), none, none]) ⟨rfl, rfl, trivial⟩ ?_
    exact hX0 _ _ (wok_s hf)
  · have hf := wok_f hf hc
    refine w_aload_n X dX2_holds_15 rfl rfl rfl ?_
    refine w_getR X dX2_holds_16 rfl fl_X2_9 hk.1 rfl ?_
    refine w_iload X dX2_holds_19 rfl rfl ?_
    obtain ⟨yhg21, hf⟩ := wok_g hf
    refine w_iald X dX2_holds_21 rfl (j := v6.toNatClampNeg) rfl hk.2.1 yhg21 ?_
    refine w_istore X dX2_holds_22 rfl rfl (Nat.le_of_ble_eq_true rfl) (ls' := [some (.ref k), some (.int v1), some (.int v2), some (.int v3), some (.int v4), some (.int v5), some (.int v6), some (.int (h.1 (k + 1) v6.toNatClampNeg))]) rfl ?_
    refine w_iload X dX2_holds_24 rfl rfl ?_
    refine w_bipush X dX2_holds_26 rfl cb_m4 ?_
    refine w_icmp_lt X dX2_holds_28 rfl (t := 97) rfl (fun hc => ?_) (fun hc => ?_)
    · have hf := wok_t hf hc
      refine w_iload X dX2_holds_97 rfl rfl ?_
      refine w_bipush X dX2_holds_99 rfl cb_m5 ?_
      refine w_icmp_ne X dX2_holds_101 rfl (t := 141) rfl (fun hc => ?_) (fun hc => ?_)
      · have hf := wok_f hf hc
        refine w_iload X dX2_holds_141 rfl rfl ?_
        refine w_iconst X dX2_holds_143 rfl ci_2 ?_
        refine w_icmp_ge X dX2_holds_144 rfl (t := 149) rfl (fun hc => ?_) (fun hc => ?_)
        · have hf := wok_t hf hc
          refine w_iinc X dX2_holds_149 rfl (v := (v5 + (-1))) rfl rfl (Nat.le_of_ble_eq_true rfl) (cinc_m1 _) (ls' := [some (.ref k), some (.int v1), some (.int v2), some (.int v3), some (.int v4), some (.int (v5 + (-1))), some (.int v6), some (.int (h.1 (k + 1) v6.toNatClampNeg))]) rfl ?_
          refine w_aload_n X dX2_holds_152 rfl rfl rfl ?_
          refine w_getR X dX2_holds_153 rfl fl_X2_15 hk.1 rfl ?_
          refine w_iload X dX2_holds_156 rfl rfl ?_
          refine w_iconst X dX2_holds_158 rfl ci_1 ?_
          refine w_isub X dX2_holds_159 rfl ?_
          refine w_iload X dX2_holds_160 rfl rfl ?_
          refine w_aload_n X dX2_holds_162 rfl rfl rfl ?_
          refine w_getR X dX2_holds_163 rfl fl_X2_15 hk.1 rfl ?_
          refine w_iload X dX2_holds_166 rfl rfl ?_
          refine w_iconst X dX2_holds_168 rfl ci_1 ?_
          refine w_isub X dX2_holds_169 rfl ?_
          obtain ⟨yhg22, hf⟩ := wok_g hf
          refine w_iald X dX2_holds_170 rfl (j := ((v5 + (-1)) - 1).toNatClampNeg) rfl hk.2.2 yhg22 ?_
          refine w_aload_n X dX2_holds_171 rfl rfl rfl ?_
          refine w_getR X dX2_holds_172 rfl fl_X2_15 hk.1 rfl ?_
          refine w_iload X dX2_holds_175 rfl rfl ?_
          obtain ⟨yhg23, hf⟩ := wok_g hf
          refine w_iald X dX2_holds_177 rfl (j := (v5 + (-1)).toNatClampNeg) rfl hk.2.2 yhg23 ?_
          obtain ⟨yr24, eyr24, hf⟩ := wok_b hf
          refine w_callS X dX2_holds_178 rfl sl_X2_94 (kX2_joined l  eyr24) (As := [.int (h.1 (k + 1) v6.toNatClampNeg), .int (h.1 (k + 2) ((v5 + (-1)) - 1).toNatClampNeg), .int (h.1 (k + 2) (v5 + (-1)).toNatClampNeg)]) (st := [.int ((v5 + (-1)) - 1), .ref (k + 2)]) rfl rfl (Nat.le_of_ble_eq_true rfl) ⟨Nat.le_of_ble_eq_true rfl, Nat.le_of_ble_eq_true rfl⟩ ⟨Nat.zero_le _, Nat.zero_le _⟩ (fun r h2 hF => ?_)
          obtain ⟨_, rfl, rfl, rfl⟩ := hF
          show wM p l e (wR 2) s m args below meth c 0 0 (wE below args s D dA b0 ad S0 F) 8 D dA b0 ad S0 181 [some (.ref k), some (.int v1), some (.int v2), some (.int v3), some (.int v4), some (.int (v5 + (-1))), some (.int v6), some (.int (h.1 (k + 1) v6.toNatClampNeg))] [.int yr24, .int ((v5 + (-1)) - 1), .ref (k + 2)] h
          refine w_iast X dX2_holds_181 rfl (j := ((v5 + (-1)) - 1).toNatClampNeg) rfl hk.2.2 yhg22 ?_
          refine w_nmh (fun yh25 eyh25 => ?_)
          have hf := wok_l hf eyh25
          refine w_fg (ls2 := [some (.ref k), some (.int v1), some (.int v2), some (.int v3), some (.int v4), some (.int (v5 + (-1))), some (.int v6), none]) ⟨rfl, rfl, rfl, rfl, rfl, rfl, rfl, trivial⟩ ?_
          exact pX2_holds_b182_6 X hr hk hN hX0 hT hf
        · have hf := wok_f hf hc
          refine w_iconst X dX2_holds_147 rfl ci_0 ?_
          exact w_zret X dX2_holds_148 hr rfl (hT false _ (wok_s hf))
      · have hf := wok_t hf hc
        refine w_iload X dX2_holds_104 rfl rfl ?_
        refine w_iconst X dX2_holds_106 rfl ci_1 ?_
        refine w_icmp_ge X dX2_holds_107 rfl (t := 112) rfl (fun hc => ?_) (fun hc => ?_)
        · have hf := wok_t hf hc
          refine w_aload_n X dX2_holds_112 rfl rfl rfl ?_
          refine w_getR X dX2_holds_113 rfl fl_X2_15 hk.1 rfl ?_
          refine w_iload X dX2_holds_116 rfl rfl ?_
          refine w_iconst X dX2_holds_118 rfl ci_1 ?_
          refine w_isub X dX2_holds_119 rfl ?_
          refine w_aload_n X dX2_holds_120 rfl rfl rfl ?_
          refine w_getR X dX2_holds_121 rfl fl_X2_15 hk.1 rfl ?_
          refine w_iload X dX2_holds_124 rfl rfl ?_
          refine w_iconst X dX2_holds_126 rfl ci_1 ?_
          refine w_isub X dX2_holds_127 rfl ?_
          obtain ⟨yhg26, hf⟩ := wok_g hf
          refine w_iald X dX2_holds_128 rfl (j := (v5 - 1).toNatClampNeg) rfl hk.2.2 yhg26 ?_
          refine w_if_ne X dX2_holds_129 rfl (t := 136) rfl (fun hc => ?_) (fun hc => ?_)
          · have hf := wok_f hf hc
            refine w_iconst X dX2_holds_136 rfl ci_0 ?_
            refine w_fg (ls2 := [some (.ref k), some (.int v1), some (.int v2), some (.int v3), some (.int v4), some (.int v5), some (.int v6), none]) ⟨rfl, rfl, rfl, rfl, rfl, rfl, rfl, trivial⟩ ?_
            exact pX2_holds_b137_6 X hr hk hN hX0 hT hf
          · have hf := wok_t hf hc
            refine w_iconst X dX2_holds_132 rfl ci_1 ?_
            refine w_goto X dX2_holds_133 (t := 137) rfl ?_
            refine w_fg (ls2 := [some (.ref k), some (.int v1), some (.int v2), some (.int v3), some (.int v4), some (.int v5), some (.int v6), none]) ⟨rfl, rfl, rfl, rfl, rfl, rfl, rfl, trivial⟩ ?_
            exact pX2_holds_b137_6 X hr hk hN hX0 hT hf
        · have hf := wok_f hf hc
          refine w_iconst X dX2_holds_110 rfl ci_0 ?_
          exact w_zret X dX2_holds_111 hr rfl (hT false _ (wok_s hf))
    · have hf := wok_f hf hc
      refine w_iload X dX2_holds_31 rfl rfl ?_
      refine w_bipush X dX2_holds_33 rfl cb_32 ?_
      refine w_icmp_lt X dX2_holds_35 rfl (t := 40) rfl (fun hc => ?_) (fun hc => ?_)
      · have hf := wok_t hf hc
        refine w_aload_n X dX2_holds_40 rfl rfl rfl ?_
        refine w_getR X dX2_holds_41 rfl fl_X2_15 hk.1 rfl ?_
        refine w_iload X dX2_holds_44 rfl rfl ?_
        refine w_iload X dX2_holds_46 rfl rfl ?_
        refine w_if_lt X dX2_holds_48 rfl (t := 56) rfl (fun hc => ?_) (fun hc => ?_)
        · have hf := wok_t hf hc
          refine w_iload X dX2_holds_56 rfl rfl ?_
          refine w_iconst X dX2_holds_58 rfl ci_m1 ?_
          refine w_icmp_ne X dX2_holds_59 rfl (t := 66) rfl (fun hc => ?_) (fun hc => ?_)
          · have hf := wok_f hf hc
            refine w_iload X dX2_holds_66 rfl rfl ?_
            refine w_bipush X dX2_holds_68 rfl cb_m2 ?_
            refine w_icmp_ne X dX2_holds_70 rfl (t := 77) rfl (fun hc => ?_) (fun hc => ?_)
            · have hf := wok_f hf hc
              refine w_iload X dX2_holds_77 rfl rfl ?_
              refine w_bipush X dX2_holds_79 rfl cb_m3 ?_
              refine w_icmp_ne X dX2_holds_81 rfl (t := 88) rfl (fun hc => ?_) (fun hc => ?_)
              · have hf := wok_f hf hc
                refine w_iload X dX2_holds_88 rfl rfl ?_
                refine w_fg (ls2 := [some (.ref k), some (.int v1), some (.int v2), some (.int v3), some (.int v4), some (.int v5), some (.int v6), none]) ⟨rfl, rfl, rfl, rfl, rfl, rfl, rfl, trivial⟩ ?_
                exact pX2_holds_b90_6 X hr hk hN hX0 hT hf
              · have hf := wok_t hf hc
                refine w_iload_n X dX2_holds_84 rfl rfl rfl ?_
                refine w_goto X dX2_holds_85 (t := 90) rfl ?_
                refine w_fg (ls2 := [some (.ref k), some (.int v1), some (.int v2), some (.int v3), some (.int v4), some (.int v5), some (.int v6), none]) ⟨rfl, rfl, rfl, rfl, rfl, rfl, rfl, trivial⟩ ?_
                exact pX2_holds_b90_6 X hr hk hN hX0 hT hf
            · have hf := wok_t hf hc
              refine w_iload_n X dX2_holds_73 rfl rfl rfl ?_
              refine w_goto X dX2_holds_74 (t := 90) rfl ?_
              refine w_fg (ls2 := [some (.ref k), some (.int v1), some (.int v2), some (.int v3), some (.int v4), some (.int v5), some (.int v6), none]) ⟨rfl, rfl, rfl, rfl, rfl, rfl, rfl, trivial⟩ ?_
              exact pX2_holds_b90_6 X hr hk hN hX0 hT hf
          · have hf := wok_t hf hc
            refine w_iload_n X dX2_holds_62 rfl rfl rfl ?_
            refine w_goto X dX2_holds_63 (t := 90) rfl ?_
            refine w_fg (ls2 := [some (.ref k), some (.int v1), some (.int v2), some (.int v3), some (.int v4), some (.int v5), some (.int v6), none]) ⟨rfl, rfl, rfl, rfl, rfl, rfl, rfl, trivial⟩ ?_
            exact pX2_holds_b90_6 X hr hk hN hX0 hT hf
        · have hf := wok_f hf hc
          refine w_iload X dX2_holds_51 rfl rfl ?_
          refine w_goto X dX2_holds_53 (t := 90) rfl ?_
          refine w_fg (ls2 := [some (.ref k), some (.int v1), some (.int v2), some (.int v3), some (.int v4), some (.int v5), some (.int v6), none]) ⟨rfl, rfl, rfl, rfl, rfl, rfl, rfl, trivial⟩ ?_
          exact pX2_holds_b90_6 X hr hk hN hX0 hT hf
      · have hf := wok_f hf hc
        refine w_iconst X dX2_holds_38 rfl ci_0 ?_
        exact w_zret X dX2_holds_39 hr rfl (hT false _ (wok_s hf))
set_option maxRecDepth 4000 in
theorem pX2_holds_l6 (X : wCx p s m args meth c RX2 cX2_holds 8 D dA b0 ad) (hr : meth.sig.returnType = (some .boolean))  {k : Nat} {v1 : Int32} {v2 : Int32} {v3 : Int32} {v4 : Int32} (hk : wI2 k) {KE : (Int32 × wSt) ⊕ (Bool × wSt) → Prop} (hX0 : ∀ (n5 : Int32) (nh : wSt), KE ((.inl (n5, nh))) → wM p l e (wR 2) s m args below meth c 0 0 (wE below args s D dA b0 ad S0 F) 8 D dA b0 ad S0 188 [some (.ref k), none, none, none, none, some (.int n5), none, none] [] nh) (hT : ∀ (x : Bool) (h2 : wSt), KE ((.inr (x, h2))) → F (some (.int (wb x))) h2) : ∀ (n : Nat) (v5 : Int32) (v6 : Int32) (h : wSt), wok (wit (fun v : (Int32 × Int32 × wSt) => fX2_holds_l6 v.2.2 k v1 v2 v3 v4 v.1 v.2.1) n (v5, v6, h)) KE → wM p l e (wR 2) s m args below meth c 0 0 (wE below args s D dA b0 ad S0 F) 8 D dA b0 ad S0 6 [some (.ref k), some (.int v1), some (.int v2), some (.int v3), some (.int v4), some (.int v5), some (.int v6), none] [] h := by
  have key := wit_M (b := (fun v : (Int32 × Int32 × wSt) => fX2_holds_l6 v.2.2 k v1 v2 v3 v4 v.1 v.2.1)) (KE := KE) (G := fun v => wM p l e (wR 2) s m args below meth c 0 0 (wE below args s D dA b0 ad S0 F) 8 D dA b0 ad S0 6 [some (.ref k), some (.int v1), some (.int v2), some (.int v3), some (.int v4), some (.int v.1), some (.int v.2.1), none] [] v.2.2) (fun v K hN hE hf => pX2_holds_l6b X hr hk (fun n5 n6 nh hz => hN (n5, n6, nh) hz) (fun z0 z1 hz => hX0 z0 z1 (hE _ hz)) (fun z0 z1 hz => hT z0 z1 (hE _ hz)) hf)
  exact fun n v5 v6 h hf => key n (v5, v6, h) hf
set_option maxRecDepth 4000 in
theorem pX2_holds_b0 (X : wCx p s m args meth c RX2 cX2_holds 8 D dA b0 ad) (hr : meth.sig.returnType = (some .boolean)) {h : wSt} {k : Nat} {x0 : Int32} {x1 : Int32} {x2 : Int32} {x3 : Int32} (hk : wI2 k) {K : Bool × wSt → Prop} (hT : ∀ (x : Bool) (h2 : wSt), K (x, h2) → F (some (.int (wb x))) h2) (hf : wok (fX2_holds h k x0 x1 x2 x3) K) : wM p l e (wR 2) s m args below meth c 0 0 (wE below args s D dA b0 ad S0 F) 8 D dA b0 ad S0 0 [some (.ref k), some (.int x0), some (.int x1), some (.int x2), some (.int x3), none, none, none] [] h := by
  unfold fX2_holds at hf
  refine w_iconst X dX2_holds_0 rfl ci_0 ?_
  refine w_istore X dX2_holds_1 rfl rfl (Nat.le_of_ble_eq_true rfl) (ls' := [some (.ref k), some (.int x0), some (.int x1), some (.int x2), some (.int x3), some (.int 0), none, none]) rfl ?_
  refine w_iconst X dX2_holds_3 rfl ci_0 ?_
  refine w_istore X dX2_holds_4 rfl rfl (Nat.le_of_ble_eq_true rfl) (ls' := [some (.ref k), some (.int x0), some (.int x1), some (.int x2), some (.int x3), some (.int 0), some (.int 0), none]) rfl ?_
  obtain ⟨ye31, hye31, hf⟩ := wok_b hf
  refine pX2_holds_l6 X hr hk (KE := fun z => ye31 = z) ?_ ?_ 3000 _ _ _ ⟨ye31, hye31, rfl⟩
  · intro yz32 yz33 hz
    subst hz
    refine w_iload X dX2_holds_188 rfl rfl ?_
    refine w_iconst X dX2_holds_190 rfl ci_1 ?_
    refine w_icmp_ne X dX2_holds_191 rfl (t := 207) rfl (fun hc => ?_) (fun hc => ?_)
    · have hf := wok_f hf hc
      refine w_iconst X dX2_holds_207 rfl ci_0 ?_
      exact w_zret X dX2_holds_208 hr rfl (hT false _ (wok_s hf))
    · have hf := wok_t hf hc
      refine w_aload_n X dX2_holds_194 rfl rfl rfl ?_
      refine w_getR X dX2_holds_195 rfl fl_X2_15 hk.1 rfl ?_
      refine w_iconst X dX2_holds_198 rfl ci_0 ?_
      refine w_iald X dX2_holds_199 rfl (j := 0) cn_0 hk.2.2 (show wib 0 32 by decide) ?_
      refine w_if_eq X dX2_holds_200 rfl (t := 207) rfl (fun hc => ?_) (fun hc => ?_)
      · have hf := wok_t hf hc
        refine w_iconst X dX2_holds_207 rfl ci_0 ?_
        exact w_zret X dX2_holds_208 hr rfl (hT false _ (wok_s hf))
      · have hf := wok_f hf hc
        refine w_iconst X dX2_holds_203 rfl ci_1 ?_
        refine w_goto X dX2_holds_204 (t := 208) rfl ?_
        exact w_zret X dX2_holds_208 hr rfl (hT true _ (wok_s hf))
  · intro z zh hz
    subst hz
    exact hT _ _ (wok_s hf)
set_option maxRecDepth 4000 in
theorem kX2_holds (l : Launch) {h : wSt} {k : Nat} {x0 : Int32} {x1 : Int32} {x2 : Int32} {x3 : Int32} (hk : wI2 k) {res : Bool × wSt} (hf : fX2_holds h k x0 x1 x2 x3 = some res) : wC l yX2_holds cX2_holds 8 (some .boolean) 2 S0 [.ref k, .int x0, .int x1, .int x2, .int x3] h (wFZ (fun a b => res.1 = a ∧ res.2 = b)) := by
  refine w_meth2 3 (by decide) (Nat.le_of_ble_eq_true rfl) (ls := [some (.ref k), some (.int x0), some (.int x1), some (.int x2), some (.int x3), none, none, none]) rfl ?_
  intro p e s m args below meth c D dA b0 ad X hr
  exact pX2_holds_b0 X hr hk (K := fun z => res = z) (fun x h2 hz => ⟨x, rfl, by rw [hz], by rw [hz]⟩) ⟨res, hf, rfl⟩
set_option maxRecDepth 4000 in
theorem pX4_copyFrom_b0 (X : wCx p s m args meth c RX4 cX4_copyFrom 2 D dA b0 ad) (hr : meth.sig.returnType = none) {h : wSt} {k : Nat} {k0 : Nat} (hk : wI4 k) (hk0 : wI4 k0) {K : wSt → Prop} (hT : ∀ (h2 : wSt), K h2 → F none h2) (hf : wok (fX4_copyFrom h k k0) K) : wM p l e (wR 2) s m args below meth c 0 0 (wE below args s D dA b0 ad S0 F) 2 D dA b0 ad S0 0 [some (.ref k), some (.ref k0)] [] h := by
  unfold fX4_copyFrom at hf
  refine w_aload_n X dX4_copyFrom_0 rfl rfl rfl ?_
  refine w_aload_n X dX4_copyFrom_1 rfl rfl rfl ?_
  refine w_getI X dX4_copyFrom_2 rfl fl_X4_47 hk0.1 rfl ?_
  refine w_putI X dX4_copyFrom_5 rfl fp_X4_47 hk.1 rfl ?_
  refine w_nmh (fun yh21 eyh21 => ?_)
  have hf := wok_l hf eyh21
  refine w_aload_n X dX4_copyFrom_8 rfl rfl rfl ?_
  refine w_getR X dX4_copyFrom_9 rfl fl_X4_9 hk0.1 rfl ?_
  refine w_iconst X dX4_copyFrom_12 rfl ci_0 ?_
  refine w_aload_n X dX4_copyFrom_13 rfl rfl rfl ?_
  refine w_getR X dX4_copyFrom_14 rfl fl_X4_9 hk.1 rfl ?_
  refine w_iconst X dX4_copyFrom_17 rfl ci_0 ?_
  refine w_iconst X dX4_copyFrom_18 rfl ci_3 ?_
  refine w_copyJ X dX4_copyFrom_19 rfl cn_0 cn_0 (n2 := 3) cn_3 wd_657 wd_659 wd_658 wd_19 hk0.2.1 hk.2.1 (by decide) (by decide) (by decide) (Nat.le_of_ble_eq_true rfl) (Nat.le_of_ble_eq_true rfl) (Nat.le_of_ble_eq_true rfl) (Nat.le_of_ble_eq_true rfl) ?_
  refine w_nmh (fun yh22 eyh22 => ?_)
  have hf := wok_l hf eyh22
  refine w_aload_n X dX4_copyFrom_22 rfl rfl rfl ?_
  refine w_getR X dX4_copyFrom_23 rfl fl_X4_15 hk0.1 rfl ?_
  refine w_iconst X dX4_copyFrom_26 rfl ci_0 ?_
  refine w_aload_n X dX4_copyFrom_27 rfl rfl rfl ?_
  refine w_getR X dX4_copyFrom_28 rfl fl_X4_15 hk.1 rfl ?_
  refine w_iconst X dX4_copyFrom_31 rfl ci_0 ?_
  refine w_iconst X dX4_copyFrom_32 rfl ci_3 ?_
  refine w_copyI X dX4_copyFrom_33 rfl cn_0 cn_0 (n2 := 3) cn_3 wd_657 wd_659 wd_658 wd_19 hk0.2.2.1 hk.2.2.1 (by decide) (by decide) (by decide) (Nat.le_of_ble_eq_true rfl) (Nat.le_of_ble_eq_true rfl) (Nat.le_of_ble_eq_true rfl) (Nat.le_of_ble_eq_true rfl) ?_
  refine w_nmh (fun yh23 eyh23 => ?_)
  have hf := wok_l hf eyh23
  refine w_aload_n X dX4_copyFrom_36 rfl rfl rfl ?_
  refine w_getR X dX4_copyFrom_37 rfl fl_X4_19 hk0.1 rfl ?_
  refine w_iconst X dX4_copyFrom_40 rfl ci_0 ?_
  refine w_aload_n X dX4_copyFrom_41 rfl rfl rfl ?_
  refine w_getR X dX4_copyFrom_42 rfl fl_X4_19 hk.1 rfl ?_
  refine w_iconst X dX4_copyFrom_45 rfl ci_0 ?_
  refine w_iconst X dX4_copyFrom_46 rfl ci_3 ?_
  refine w_copyI X dX4_copyFrom_47 rfl cn_0 cn_0 (n2 := 3) cn_3 wd_657 wd_659 wd_658 wd_19 hk0.2.2.2.1 hk.2.2.2.1 (by decide) (by decide) (by decide) (Nat.le_of_ble_eq_true rfl) (Nat.le_of_ble_eq_true rfl) (Nat.le_of_ble_eq_true rfl) (Nat.le_of_ble_eq_true rfl) ?_
  refine w_nmh (fun yh24 eyh24 => ?_)
  have hf := wok_l hf eyh24
  refine w_aload_n X dX4_copyFrom_50 rfl rfl rfl ?_
  refine w_getR X dX4_copyFrom_51 rfl fl_X4_22 hk0.1 rfl ?_
  refine w_iconst X dX4_copyFrom_54 rfl ci_0 ?_
  refine w_aload_n X dX4_copyFrom_55 rfl rfl rfl ?_
  refine w_getR X dX4_copyFrom_56 rfl fl_X4_22 hk.1 rfl ?_
  refine w_iconst X dX4_copyFrom_59 rfl ci_0 ?_
  refine w_iconst X dX4_copyFrom_60 rfl ci_3 ?_
  refine w_copyI X dX4_copyFrom_61 rfl cn_0 cn_0 (n2 := 3) cn_3 wd_657 wd_659 wd_658 wd_19 hk0.2.2.2.2.1 hk.2.2.2.2.1 (by decide) (by decide) (by decide) (Nat.le_of_ble_eq_true rfl) (Nat.le_of_ble_eq_true rfl) (Nat.le_of_ble_eq_true rfl) (Nat.le_of_ble_eq_true rfl) ?_
  refine w_nmh (fun yh25 eyh25 => ?_)
  have hf := wok_l hf eyh25
  refine w_aload_n X dX4_copyFrom_64 rfl rfl rfl ?_
  refine w_aload_n X dX4_copyFrom_65 rfl rfl rfl ?_
  refine w_getI X dX4_copyFrom_66 rfl fl_X4_57 hk0.1 rfl ?_
  refine w_putI X dX4_copyFrom_69 rfl fp_X4_57 hk.1 rfl ?_
  refine w_nmh (fun yh26 eyh26 => ?_)
  have hf := wok_l hf eyh26
  refine w_aload_n X dX4_copyFrom_72 rfl rfl rfl ?_
  refine w_getR X dX4_copyFrom_73 rfl fl_X4_25 hk0.1 rfl ?_
  refine w_iconst X dX4_copyFrom_76 rfl ci_0 ?_
  refine w_aload_n X dX4_copyFrom_77 rfl rfl rfl ?_
  refine w_getR X dX4_copyFrom_78 rfl fl_X4_25 hk.1 rfl ?_
  refine w_iconst X dX4_copyFrom_81 rfl ci_0 ?_
  refine w_bipush X dX4_copyFrom_82 rfl cb_6 ?_
  refine w_copyJ X dX4_copyFrom_84 rfl cn_0 cn_0 (n2 := 6) cn_6 wd_657 wd_659 wd_658 wd_19 hk0.2.2.2.2.2.1 hk.2.2.2.2.2.1 (by decide) (by decide) (by decide) (Nat.le_of_ble_eq_true rfl) (Nat.le_of_ble_eq_true rfl) (Nat.le_of_ble_eq_true rfl) (Nat.le_of_ble_eq_true rfl) ?_
  refine w_nmh (fun yh27 eyh27 => ?_)
  have hf := wok_l hf eyh27
  refine w_aload_n X dX4_copyFrom_87 rfl rfl rfl ?_
  refine w_getR X dX4_copyFrom_88 rfl fl_X4_28 hk0.1 rfl ?_
  refine w_iconst X dX4_copyFrom_91 rfl ci_0 ?_
  refine w_aload_n X dX4_copyFrom_92 rfl rfl rfl ?_
  refine w_getR X dX4_copyFrom_93 rfl fl_X4_28 hk.1 rfl ?_
  refine w_iconst X dX4_copyFrom_96 rfl ci_0 ?_
  refine w_bipush X dX4_copyFrom_97 rfl cb_6 ?_
  refine w_copyI X dX4_copyFrom_99 rfl cn_0 cn_0 (n2 := 6) cn_6 wd_657 wd_659 wd_658 wd_19 hk0.2.2.2.2.2.2.1 hk.2.2.2.2.2.2.1 (by decide) (by decide) (by decide) (Nat.le_of_ble_eq_true rfl) (Nat.le_of_ble_eq_true rfl) (Nat.le_of_ble_eq_true rfl) (Nat.le_of_ble_eq_true rfl) ?_
  refine w_nmh (fun yh28 eyh28 => ?_)
  have hf := wok_l hf eyh28
  refine w_aload_n X dX4_copyFrom_102 rfl rfl rfl ?_
  refine w_getR X dX4_copyFrom_103 rfl fl_X4_31 hk0.1 rfl ?_
  refine w_iconst X dX4_copyFrom_106 rfl ci_0 ?_
  refine w_aload_n X dX4_copyFrom_107 rfl rfl rfl ?_
  refine w_getR X dX4_copyFrom_108 rfl fl_X4_31 hk.1 rfl ?_
  refine w_iconst X dX4_copyFrom_111 rfl ci_0 ?_
  refine w_bipush X dX4_copyFrom_112 rfl cb_6 ?_
  refine w_copyI X dX4_copyFrom_114 rfl cn_0 cn_0 (n2 := 6) cn_6 wd_657 wd_659 wd_658 wd_19 hk0.2.2.2.2.2.2.2.1 hk.2.2.2.2.2.2.2.1 (by decide) (by decide) (by decide) (Nat.le_of_ble_eq_true rfl) (Nat.le_of_ble_eq_true rfl) (Nat.le_of_ble_eq_true rfl) (Nat.le_of_ble_eq_true rfl) ?_
  refine w_nmh (fun yh29 eyh29 => ?_)
  have hf := wok_l hf eyh29
  refine w_aload_n X dX4_copyFrom_117 rfl rfl rfl ?_
  refine w_getR X dX4_copyFrom_118 rfl fl_X4_34 hk0.1 rfl ?_
  refine w_iconst X dX4_copyFrom_121 rfl ci_0 ?_
  refine w_aload_n X dX4_copyFrom_122 rfl rfl rfl ?_
  refine w_getR X dX4_copyFrom_123 rfl fl_X4_34 hk.1 rfl ?_
  refine w_iconst X dX4_copyFrom_126 rfl ci_0 ?_
  refine w_bipush X dX4_copyFrom_127 rfl cb_6 ?_
  refine w_copyI X dX4_copyFrom_129 rfl cn_0 cn_0 (n2 := 6) cn_6 wd_657 wd_659 wd_658 wd_19 hk0.2.2.2.2.2.2.2.2.1 hk.2.2.2.2.2.2.2.2.1 (by decide) (by decide) (by decide) (Nat.le_of_ble_eq_true rfl) (Nat.le_of_ble_eq_true rfl) (Nat.le_of_ble_eq_true rfl) (Nat.le_of_ble_eq_true rfl) ?_
  refine w_nmh (fun yh30 eyh30 => ?_)
  have hf := wok_l hf eyh30
  refine w_aload_n X dX4_copyFrom_132 rfl rfl rfl ?_
  refine w_aload_n X dX4_copyFrom_133 rfl rfl rfl ?_
  refine w_getI X dX4_copyFrom_134 rfl fl_X4_60 hk0.1 rfl ?_
  refine w_putI X dX4_copyFrom_137 rfl fp_X4_60 hk.1 rfl ?_
  refine w_nmh (fun yh31 eyh31 => ?_)
  have hf := wok_l hf eyh31
  refine w_aload_n X dX4_copyFrom_140 rfl rfl rfl ?_
  refine w_getR X dX4_copyFrom_141 rfl fl_X4_37 hk0.1 rfl ?_
  refine w_iconst X dX4_copyFrom_144 rfl ci_0 ?_
  refine w_aload_n X dX4_copyFrom_145 rfl rfl rfl ?_
  refine w_getR X dX4_copyFrom_146 rfl fl_X4_37 hk.1 rfl ?_
  refine w_iconst X dX4_copyFrom_149 rfl ci_0 ?_
  refine w_bipush X dX4_copyFrom_150 rfl cb_12 ?_
  refine w_copyI X dX4_copyFrom_152 rfl cn_0 cn_0 (n2 := 12) cn_12 wd_657 wd_659 wd_658 wd_19 hk0.2.2.2.2.2.2.2.2.2.1 hk.2.2.2.2.2.2.2.2.2.1 (by decide) (by decide) (by decide) (Nat.le_of_ble_eq_true rfl) (Nat.le_of_ble_eq_true rfl) (Nat.le_of_ble_eq_true rfl) (Nat.le_of_ble_eq_true rfl) ?_
  refine w_nmh (fun yh32 eyh32 => ?_)
  have hf := wok_l hf eyh32
  refine w_aload_n X dX4_copyFrom_155 rfl rfl rfl ?_
  refine w_getR X dX4_copyFrom_156 rfl fl_X4_43 hk.1 rfl ?_
  refine w_aload_n X dX4_copyFrom_159 rfl rfl rfl ?_
  refine w_getR X dX4_copyFrom_160 rfl fl_X4_43 hk0.1 rfl ?_
  obtain ⟨yr33, eyr33, hf⟩ := wok_b hf
  refine w_callV X dX4_copyFrom_163 rfl vl_X4_63 (kX2_copyFrom l hk.2.2.2.2.2.2.2.2.2.2 hk0.2.2.2.2.2.2.2.2.2.2 eyr33) hk.2.2.2.2.2.2.2.2.2.2.1 (As := [.ref (k0 + 10)]) (st := []) rfl rfl (Nat.le_of_ble_eq_true rfl) ⟨Nat.le_of_ble_eq_true rfl, Nat.le_of_ble_eq_true rfl⟩ ⟨Nat.zero_le _, Nat.zero_le _⟩ (fun r h2 hF => ?_)
  obtain ⟨rfl, rfl⟩ := hF
  show wM p l e (wR 2) s m args below meth c 0 0 (wE below args s D dA b0 ad S0 F) 2 D dA b0 ad S0 166 [some (.ref k), some (.ref k0)] [] yr33
  exact w_vret X dX4_copyFrom_166 hr (hT _ (wok_s hf))
set_option maxRecDepth 4000 in
theorem kX4_copyFrom (l : Launch) {h : wSt} {k : Nat} {k0 : Nat} (hk : wI4 k) (hk0 : wI4 k0) {res : wSt} (hf : fX4_copyFrom h k k0 = some res) : wC l yX4_copyFrom cX4_copyFrom 2 none 2 S0 [.ref k, .ref k0] h (wFV (fun b => res = b)) := by
  refine w_meth2 0 (by decide) (Nat.le_of_ble_eq_true rfl) (ls := [some (.ref k), some (.ref k0)]) rfl ?_
  intro p e s m args below meth c D dA b0 ad X hr
  exact pX4_copyFrom_b0 X hr hk hk0 (K := fun z => res = z) (fun h2 hz => ⟨rfl, hz⟩) ⟨res, hf, rfl⟩
set_option maxRecDepth 4000 in
theorem pX4_indexOf_l3b (X : wCx p s m args meth c RX4 cX4_indexOf 5 D dA b0 ad) (hr : meth.sig.returnType = (some .int)) {h : wSt} {a1 : Nat} {g1 : Nat} {v0 : Int64} {v3 : Int32} {v4 : Int32} (ha1 : S0[a1]? = some (3, g1, [])) {K : (Int32) ⊕ ((Unit) ⊕ (Int32)) → Prop} (hN : ∀ (n4 : Int32), K (.inl n4) → wM p l e (wR 1) s m args below meth c 0 0 (wE below args s D dA b0 ad S0 F) 5 D dA b0 ad S0 3 [some (.long v0), none, some (.ref a1), some (.int v3), some (.int n4)] [] h) (hX0 : K (.inr (.inl ())) → wM p l e (wR 1) s m args below meth c 0 0 (wE below args s D dA b0 ad S0 F) 5 D dA b0 ad S0 34 [none, none, none, none, none] [] h) (hT : ∀ (x : Int32), K (.inr (.inr x)) → F (some (.int x)) h) (hf : wok (fX4_indexOf_l3 h a1 g1 v0 v3 v4) K) : wM p l e (wR 1) s m args below meth c 0 0 (wE below args s D dA b0 ad S0 F) 5 D dA b0 ad S0 3 [some (.long v0), none, some (.ref a1), some (.int v3), some (.int v4)] [] h := by
  unfold fX4_indexOf_l3 at hf
  refine w_iload X dX4_indexOf_3 rfl rfl ?_
  refine w_iload_n X dX4_indexOf_5 rfl rfl rfl ?_
  refine w_icmp_ge X dX4_indexOf_6 rfl (t := 34) rfl (fun hc => ?_) (fun hc => ?_)
  · have hf := wok_t hf hc
    refine w_fg (ls2 := [none, none, none, none, none]) trivial ?_
    exact hX0 (wok_s hf)
  · have hf := wok_f hf hc
    refine w_iload X dX4_indexOf_9 rfl rfl ?_
    refine w_aload_n X dX4_indexOf_11 rfl rfl rfl ?_
    refine w_alenJ X dX4_indexOf_12 rfl ha1 rfl ?_
    refine w_icmp_ge X dX4_indexOf_13 rfl (t := 34) rfl (fun hc => ?_) (fun hc => ?_)
    · have hf := wok_t hf hc
      refine w_fg (ls2 := [none, none, none, none, none]) trivial ?_
      exact hX0 (wok_s hf)
    · have hf := wok_f hf hc
      refine w_aload_n X dX4_indexOf_16 rfl rfl rfl ?_
      refine w_iload X dX4_indexOf_17 rfl rfl ?_
      obtain ⟨yhg21, hf⟩ := wok_g hf
      refine w_lald X dX4_indexOf_19 rfl (j := v4.toNatClampNeg) rfl ha1 yhg21 ?_
      refine w_lload_n X dX4_indexOf_20 rfl rfl rfl ?_
      refine w_lcmp_ne X dX4_indexOf_21 dX4_indexOf_22 rfl (t := 28) rfl (fun hc => ?_) (fun hc => ?_)
      · have hf := wok_f hf hc
        refine w_iinc X dX4_indexOf_28 rfl (v := (v4 + 1)) rfl rfl (Nat.le_of_ble_eq_true rfl) (cinc_1 _) (ls' := [some (.long v0), none, some (.ref a1), some (.int v3), some (.int (v4 + 1))]) rfl ?_
        refine w_goto X dX4_indexOf_31 (t := 3) rfl ?_
        exact hN _ (wok_s hf)
      · have hf := wok_t hf hc
        refine w_iload X dX4_indexOf_25 rfl rfl ?_
        exact w_iret X dX4_indexOf_27 hr (hT _ (wok_s hf))
set_option maxRecDepth 4000 in
theorem pX4_indexOf_l3 (X : wCx p s m args meth c RX4 cX4_indexOf 5 D dA b0 ad) (hr : meth.sig.returnType = (some .int)) {h : wSt} {a1 : Nat} {g1 : Nat} {v0 : Int64} {v3 : Int32} (ha1 : S0[a1]? = some (3, g1, [])) {KE : (Unit) ⊕ (Int32) → Prop} (hX0 : KE ((.inl ())) → wM p l e (wR 1) s m args below meth c 0 0 (wE below args s D dA b0 ad S0 F) 5 D dA b0 ad S0 34 [none, none, none, none, none] [] h) (hT : ∀ (x : Int32), KE ((.inr x)) → F (some (.int x)) h) : ∀ (n : Nat) (v4 : Int32), wok (wit (fun v : (Int32) => fX4_indexOf_l3 h a1 g1 v0 v3 v) n v4) KE → wM p l e (wR 1) s m args below meth c 0 0 (wE below args s D dA b0 ad S0 F) 5 D dA b0 ad S0 3 [some (.long v0), none, some (.ref a1), some (.int v3), some (.int v4)] [] h := by
  have key := wit_M (b := (fun v : (Int32) => fX4_indexOf_l3 h a1 g1 v0 v3 v)) (KE := KE) (G := fun v => wM p l e (wR 1) s m args below meth c 0 0 (wE below args s D dA b0 ad S0 F) 5 D dA b0 ad S0 3 [some (.long v0), none, some (.ref a1), some (.int v3), some (.int v)] [] h) (fun v K hN hE hf => pX4_indexOf_l3b X hr ha1 (fun n4 hz => hN n4 hz) (fun  hz => hX0  (hE _ hz)) (fun z0 hz => hT z0 (hE _ hz)) hf)
  exact fun n v4 hf => key n v4 hf
set_option maxRecDepth 4000 in
theorem pX4_indexOf_b0 (X : wCx p s m args meth c RX4 cX4_indexOf 5 D dA b0 ad) (hr : meth.sig.returnType = (some .int)) {h : wSt} {x0 : Int64} {a1 : Nat} {g1 : Nat} {x2 : Int32} (ha1 : S0[a1]? = some (3, g1, [])) {K : Int32 → Prop} (hT : ∀ (x : Int32), K x → F (some (.int x)) h) (hf : wok (fX4_indexOf h x0 a1 g1 x2) K) : wM p l e (wR 1) s m args below meth c 0 0 (wE below args s D dA b0 ad S0 F) 5 D dA b0 ad S0 0 [some (.long x0), none, some (.ref a1), some (.int x2), none] [] h := by
  unfold fX4_indexOf at hf
  refine w_iconst X dX4_indexOf_0 rfl ci_0 ?_
  refine w_istore X dX4_indexOf_1 rfl rfl (Nat.le_of_ble_eq_true rfl) (ls' := [some (.long x0), none, some (.ref a1), some (.int x2), some (.int 0)]) rfl ?_
  obtain ⟨ye22, hye22, hf⟩ := wok_b hf
  refine pX4_indexOf_l3 X hr ha1 (KE := fun z => ye22 = z) ?_ ?_ 3000 _ ⟨ye22, hye22, rfl⟩
  · intro hz
    subst hz
    refine w_iconst X dX4_indexOf_34 rfl ci_m1 ?_
    exact w_iret X dX4_indexOf_35 hr (hT _ (wok_s hf))
  · intro z hz
    subst hz
    exact hT _ (wok_s hf)
set_option maxRecDepth 4000 in
theorem kX4_indexOf (l : Launch) {h : wSt} {x0 : Int64} {a1 : Nat} {g1 : Nat} {x2 : Int32} (ha1 : S0[a1]? = some (3, g1, [])) {res : Int32} (hf : fX4_indexOf h x0 a1 g1 x2 = some res) : wC l yX4_indexOf cX4_indexOf 5 (some .int) 1 S0 [.long x0, .ref a1, .int x2] h (wFI (fun a b => res = a ∧ h = b)) := by
  refine w_meth2 1 (by decide) (Nat.le_of_ble_eq_true rfl) (ls := [some (.long x0), none, some (.ref a1), some (.int x2), none]) rfl ?_
  intro p e s m args below meth c D dA b0 ad X hr
  exact pX4_indexOf_b0 X hr ha1 (K := fun z => res = z) (fun x hz => ⟨x, rfl, hz, rfl⟩) ⟨res, hf, rfl⟩
set_option maxRecDepth 4000 in
theorem pX4_takeNewName_b57 (X : wCx p s m args meth c RX4 cX4_takeNewName 4 D dA b0 ad) (hr : meth.sig.returnType = (some .long)) {h : wSt} {k : Nat} {v2 : Int64} (hk : wI4 k) {K : Int64 × wSt → Prop} (hT : ∀ (x : Int64) (h2 : wSt), K (x, h2) → F (some (.long x)) h2)  (hf : wok (fX4_takeNewName_b57 h k v2) K) : wM p l e (wR 7) s m args below meth c 0 0 (wE below args s D dA b0 ad S0 F) 4 D dA b0 ad S0 57 [none, some (.ref 1), some (.long v2), none] [] h := by
  unfold fX4_takeNewName_b57 at hf
  refine w_aload_n X dX4_takeNewName_57 rfl rfl rfl ?_
  obtain ⟨yr24, eyr24, hf⟩ := wok_b hf
  refine w_callV X dX4_takeNewName_58 rfl vl_X4_118 (kX7_next l  eyr24) S0_1 (As := []) (st := []) rfl rfl (Nat.le_of_ble_eq_true rfl) ⟨Nat.le_of_ble_eq_true rfl, Nat.le_of_ble_eq_true rfl⟩ ⟨Nat.zero_le _, Nat.zero_le _⟩ (fun r h2 hF => ?_)
  obtain ⟨rfl, rfl⟩ := hF
  show wM p l e (wR 7) s m args below meth c 0 0 (wE below args s D dA b0 ad S0 F) 4 D dA b0 ad S0 61 [none, some (.ref 1), some (.long v2), none] [] yr24
  refine w_lload_n X dX4_takeNewName_61 rfl rfl rfl ?_
  exact w_lret X dX4_takeNewName_62 hr (hT _ _ (wok_s hf))
set_option maxRecDepth 4000 in
theorem pX4_takeNewName_b52 (X : wCx p s m args meth c RX4 cX4_takeNewName 4 D dA b0 ad) (hr : meth.sig.returnType = (some .long)) {h : wSt} {k : Nat} {v2 : Int64} (hk : wI4 k) {K : Int64 × wSt → Prop} (hT : ∀ (x : Int64) (h2 : wSt), K (x, h2) → F (some (.long x)) h2)  (hf : wok (fX4_takeNewName_b52 h k v2) K) : wM p l e (wR 7) s m args below meth c 0 0 (wE below args s D dA b0 ad S0 F) 4 D dA b0 ad S0 52 [none, some (.ref 1), some (.long v2), none] [] h := by
  unfold fX4_takeNewName_b52 at hf
  refine w_aload_n X dX4_takeNewName_52 rfl rfl rfl ?_
  refine w_iconst X dX4_takeNewName_53 rfl ci_3 ?_
  obtain ⟨yr23, eyr23, hf⟩ := wok_b hf
  refine w_callV X dX4_takeNewName_54 rfl vl_X4_111 (kX7_fail l  eyr23) S0_1 (As := [.int 3]) (st := []) rfl rfl (Nat.le_of_ble_eq_true rfl) ⟨Nat.le_of_ble_eq_true rfl, Nat.le_of_ble_eq_true rfl⟩ ⟨Nat.zero_le _, Nat.zero_le _⟩ (fun r h2 hF => ?_)
  obtain ⟨rfl, rfl⟩ := hF
  show wM p l e (wR 7) s m args below meth c 0 0 (wE below args s D dA b0 ad S0 F) 4 D dA b0 ad S0 57 [none, some (.ref 1), some (.long v2), none] [] yr23
  exact pX4_takeNewName_b57 X hr hk hT hf
set_option maxRecDepth 4000 in
theorem pX4_takeNewName_b0 (X : wCx p s m args meth c RX4 cX4_takeNewName 4 D dA b0 ad) (hr : meth.sig.returnType = (some .long)) {h : wSt} {k : Nat} (hk : wI4 k) {K : Int64 × wSt → Prop} (hT : ∀ (x : Int64) (h2 : wSt), K (x, h2) → F (some (.long x)) h2) (hf : wok (fX4_takeNewName h k) K) : wM p l e (wR 7) s m args below meth c 0 0 (wE below args s D dA b0 ad S0 F) 4 D dA b0 ad S0 0 [some (.ref k), some (.ref 1), none, none] [] h := by
  unfold fX4_takeNewName at hf
  refine w_aload_n X dX4_takeNewName_0 rfl rfl rfl ?_
  refine w_getJ X dX4_takeNewName_1 rfl fl_X4_171 S0_1 rfl ?_
  refine w_lstore_n X dX4_takeNewName_4 rfl rfl rfl (Nat.le_of_ble_eq_true rfl) (ls' := [some (.ref k), some (.ref 1), some (.long (h.2 1 6)), none]) rfl ?_
  refine w_aload_n X dX4_takeNewName_5 rfl rfl rfl ?_
  obtain ⟨yr21, eyr21, hf⟩ := wok_b hf
  refine w_callV X dX4_takeNewName_6 rfl vl_X4_175 (kX7_isName l  eyr21) S0_1 (As := []) (st := []) rfl rfl (Nat.le_of_ble_eq_true rfl) ⟨Nat.le_of_ble_eq_true rfl, Nat.le_of_ble_eq_true rfl⟩ ⟨Nat.zero_le _, Nat.zero_le _⟩ (fun r h2 hF => ?_)
  obtain ⟨_, rfl, rfl, rfl⟩ := hF
  show wM p l e (wR 7) s m args below meth c 0 0 (wE below args s D dA b0 ad S0 F) 4 D dA b0 ad S0 9 [some (.ref k), some (.ref 1), some (.long (h.2 1 6)), none] [.int (wb yr21)] h
  refine w_if_ne X dX4_takeNewName_9 rfl (t := 20) rfl (fun hc => ?_) (fun hc => ?_)
  · have hf := wok_t hf (wb_n0 hc)
    refine w_lload_n X dX4_takeNewName_20 rfl rfl rfl ?_
    refine w_aload_n X dX4_takeNewName_21 rfl rfl rfl ?_
    refine w_getR X dX4_takeNewName_22 rfl fl_X4_9 hk.1 rfl ?_
    refine w_aload_n X dX4_takeNewName_25 rfl rfl rfl ?_
    refine w_getI X dX4_takeNewName_26 rfl fl_X4_47 hk.1 rfl ?_
    obtain ⟨yr22, eyr22, hf⟩ := wok_b hf
    refine w_callS X dX4_takeNewName_29 rfl sl_X4_178 (kX4_indexOf l hk.2.1 eyr22) (As := [.long (h.2 1 6), .ref (k + 1), .int (h.1 k 0)]) (st := []) rfl rfl (Nat.le_of_ble_eq_true rfl) ⟨Nat.le_of_ble_eq_true rfl, Nat.le_of_ble_eq_true rfl⟩ ⟨Nat.zero_le _, Nat.zero_le _⟩ (fun r h2 hF => ?_)
    obtain ⟨_, rfl, rfl, rfl⟩ := hF
    show wM p l e (wR 7) s m args below meth c 0 0 (wE below args s D dA b0 ad S0 F) 4 D dA b0 ad S0 32 [some (.ref k), some (.ref 1), some (.long (h.2 1 6)), none] [.int yr22] h
    refine w_iconst X dX4_takeNewName_32 rfl ci_m1 ?_
    refine w_icmp_ne X dX4_takeNewName_33 rfl (t := 52) rfl (fun hc => ?_) (fun hc => ?_)
    · have hf := wok_f hf hc
      refine w_fg (ls2 := [none, some (.ref 1), some (.long (h.2 1 6)), none]) ⟨rfl, rfl, trivial⟩ ?_
      exact pX4_takeNewName_b52 X hr hk hT hf
    · have hf := wok_t hf hc
      refine w_lload_n X dX4_takeNewName_36 rfl rfl rfl ?_
      refine w_aload_n X dX4_takeNewName_37 rfl rfl rfl ?_
      refine w_getR X dX4_takeNewName_38 rfl fl_X4_25 hk.1 rfl ?_
      refine w_aload_n X dX4_takeNewName_41 rfl rfl rfl ?_
      refine w_getI X dX4_takeNewName_42 rfl fl_X4_57 hk.1 rfl ?_
      obtain ⟨yr25, eyr25, hf⟩ := wok_b hf
      refine w_callS X dX4_takeNewName_45 rfl sl_X4_178 (kX4_indexOf l hk.2.2.2.2.2.1 eyr25) (As := [.long (h.2 1 6), .ref (k + 5), .int (h.1 k 5)]) (st := []) rfl rfl (Nat.le_of_ble_eq_true rfl) ⟨Nat.le_of_ble_eq_true rfl, Nat.le_of_ble_eq_true rfl⟩ ⟨Nat.zero_le _, Nat.zero_le _⟩ (fun r h2 hF => ?_)
      obtain ⟨_, rfl, rfl, rfl⟩ := hF
      show wM p l e (wR 7) s m args below meth c 0 0 (wE below args s D dA b0 ad S0 F) 4 D dA b0 ad S0 48 [some (.ref k), some (.ref 1), some (.long (h.2 1 6)), none] [.int yr25] h
      refine w_iconst X dX4_takeNewName_48 rfl ci_m1 ?_
      refine w_icmp_eq X dX4_takeNewName_49 rfl (t := 57) rfl (fun hc => ?_) (fun hc => ?_)
      · have hf := wok_t hf hc
        refine w_fg (ls2 := [none, some (.ref 1), some (.long (h.2 1 6)), none]) ⟨rfl, rfl, trivial⟩ ?_
        exact pX4_takeNewName_b57 X hr hk hT hf
      · have hf := wok_f hf hc
        refine w_fg (ls2 := [none, some (.ref 1), some (.long (h.2 1 6)), none]) ⟨rfl, rfl, trivial⟩ ?_
        exact pX4_takeNewName_b52 X hr hk hT hf
  · have hf := wok_f hf (wb_0 hc)
    refine w_aload_n X dX4_takeNewName_12 rfl rfl rfl ?_
    refine w_iconst X dX4_takeNewName_13 rfl ci_1 ?_
    obtain ⟨yr26, eyr26, hf⟩ := wok_b hf
    refine w_callV X dX4_takeNewName_14 rfl vl_X4_111 (kX7_fail l  eyr26) S0_1 (As := [.int 1]) (st := []) rfl rfl (Nat.le_of_ble_eq_true rfl) ⟨Nat.le_of_ble_eq_true rfl, Nat.le_of_ble_eq_true rfl⟩ ⟨Nat.zero_le _, Nat.zero_le _⟩ (fun r h2 hF => ?_)
    obtain ⟨rfl, rfl⟩ := hF
    show wM p l e (wR 7) s m args below meth c 0 0 (wE below args s D dA b0 ad S0 F) 4 D dA b0 ad S0 17 [some (.ref k), some (.ref 1), some (.long (h.2 1 6)), none] [] yr26
    refine w_goto X dX4_takeNewName_17 (t := 57) rfl ?_
    refine w_fg (ls2 := [none, some (.ref 1), some (.long (h.2 1 6)), none]) ⟨rfl, rfl, trivial⟩ ?_
    exact pX4_takeNewName_b57 X hr hk hT hf
set_option maxRecDepth 4000 in
theorem kX4_takeNewName (l : Launch) {h : wSt} {k : Nat} (hk : wI4 k) {res : Int64 × wSt} (hf : fX4_takeNewName h k = some res) : wC l yX4_takeNewName cX4_takeNewName 4 (some .long) 7 S0 [.ref k, .ref 1] h (wFJ (fun a b => res.1 = a ∧ res.2 = b)) := by
  refine w_meth2 2 (by decide) (Nat.le_of_ble_eq_true rfl) (ls := [some (.ref k), some (.ref 1), none, none]) rfl ?_
  intro p e s m args below meth c D dA b0 ad X hr
  exact pX4_takeNewName_b0 X hr hk (K := fun z => res = z) (fun x h2 hz => ⟨x, rfl, by rw [hz], by rw [hz]⟩) ⟨res, hf, rfl⟩
set_option maxRecDepth 4000 in
theorem pX4_readSkin_b0 (X : wCx p s m args meth c RX4 cX4_readSkin 2 D dA b0 ad) (hr : meth.sig.returnType = none) {h : wSt} {k : Nat} (hk : wI4 k) {K : wSt → Prop} (hT : ∀ (h2 : wSt), K h2 → F none h2) (hf : wok (fX4_readSkin h k) K) : wM p l e (wR 8) s m args below meth c 0 0 (wE below args s D dA b0 ad S0 F) 2 D dA b0 ad S0 0 [some (.ref k), some (.ref 1)] [] h := by
  unfold fX4_readSkin at hf
  refine w_aload_n X dX4_readSkin_0 rfl rfl rfl ?_
  refine w_getI X dX4_readSkin_1 rfl fl_X4_47 hk.1 rfl ?_
  refine w_iconst X dX4_readSkin_4 rfl ci_3 ?_
  refine w_icmp_lt X dX4_readSkin_5 rfl (t := 14) rfl (fun hc => ?_) (fun hc => ?_)
  · have hf := wok_t hf hc
    refine w_aload_n X dX4_readSkin_14 rfl rfl rfl ?_
    obtain ⟨yr21, eyr21, hf⟩ := wok_b hf
    refine w_callV X dX4_readSkin_15 rfl vl_X4_118 (kX7_next l  eyr21) S0_1 (As := []) (st := []) rfl rfl (Nat.le_of_ble_eq_true rfl) ⟨Nat.le_of_ble_eq_true rfl, Nat.le_of_ble_eq_true rfl⟩ ⟨Nat.zero_le _, Nat.zero_le _⟩ (fun r h2 hF => ?_)
    obtain ⟨rfl, rfl⟩ := hF
    show wM p l e (wR 8) s m args below meth c 0 0 (wE below args s D dA b0 ad S0 F) 2 D dA b0 ad S0 18 [some (.ref k), some (.ref 1)] [] yr21
    refine w_aload_n X dX4_readSkin_18 rfl rfl rfl ?_
    refine w_getR X dX4_readSkin_19 rfl fl_X4_9 hk.1 rfl ?_
    refine w_aload_n X dX4_readSkin_22 rfl rfl rfl ?_
    refine w_getI X dX4_readSkin_23 rfl fl_X4_47 hk.1 rfl ?_
    refine w_aload_n X dX4_readSkin_26 rfl rfl rfl ?_
    refine w_aload_n X dX4_readSkin_27 rfl rfl rfl ?_
    obtain ⟨yr22, eyr22, hf⟩ := wok_b hf
    refine w_callV X dX4_readSkin_28 rfl vl_X4_121 (kX4_takeNewName l hk eyr22) hk.1 (As := [.ref 1]) (st := [.int (yr21.1 k 0), .ref (k + 1)]) rfl rfl (Nat.le_of_ble_eq_true rfl) ⟨Nat.le_of_ble_eq_true rfl, Nat.le_of_ble_eq_true rfl⟩ ⟨Nat.zero_le _, Nat.zero_le _⟩ (fun r h2 hF => ?_)
    obtain ⟨_, rfl, rfl, rfl⟩ := hF
    show wM p l e (wR 8) s m args below meth c 0 0 (wE below args s D dA b0 ad S0 F) 2 D dA b0 ad S0 31 [some (.ref k), some (.ref 1)] [.long yr22.1, .int (yr21.1 k 0), .ref (k + 1)] yr22.2
    obtain ⟨yhg23, hf⟩ := wok_g hf
    refine w_last X dX4_readSkin_31 rfl (j := (yr21.1 k 0).toNatClampNeg) rfl hk.2.1 yhg23 ?_
    refine w_nmh (fun yh24 eyh24 => ?_)
    have hf := wok_l hf eyh24
    refine w_aload_n X dX4_readSkin_32 rfl rfl rfl ?_
    refine w_ldcS X dX4_readSkin_33 rfl (i := 2) (tx := "lines") (by decide +kernel) ?_
    obtain ⟨yr25, eyr25, hf⟩ := wok_b hf
    refine w_callV X dX4_readSkin_35 rfl vl_X4_126 (kX7_takeWord l (by decide) eyr25) S0_1 (As := [.ref (100000 + 2)]) (st := []) rfl rfl (Nat.le_of_ble_eq_true rfl) ⟨Nat.le_of_ble_eq_true rfl, Nat.le_of_ble_eq_true rfl⟩ ⟨Nat.zero_le _, Nat.zero_le _⟩ (fun r h2 hF => ?_)
    obtain ⟨rfl, rfl⟩ := hF
    show wM p l e (wR 8) s m args below meth c 0 0 (wE below args s D dA b0 ad S0 F) 2 D dA b0 ad S0 38 [some (.ref k), some (.ref 1)] [] yr25
    refine w_aload_n X dX4_readSkin_38 rfl rfl rfl ?_
    refine w_getR X dX4_readSkin_39 rfl fl_X4_15 hk.1 rfl ?_
    refine w_aload_n X dX4_readSkin_42 rfl rfl rfl ?_
    refine w_getI X dX4_readSkin_43 rfl fl_X4_47 hk.1 rfl ?_
    refine w_aload_n X dX4_readSkin_46 rfl rfl rfl ?_
    refine w_iconst X dX4_readSkin_47 rfl ci_1 ?_
    refine w_bipush X dX4_readSkin_48 rfl cb_6 ?_
    obtain ⟨yr26, eyr26, hf⟩ := wok_b hf
    refine w_callV X dX4_readSkin_50 rfl vl_X4_130 (kX7_takeNumber l  eyr26) S0_1 (As := [.int 1, .int 6]) (st := [.int (yr25.1 k 0), .ref (k + 2)]) rfl rfl (Nat.le_of_ble_eq_true rfl) ⟨Nat.le_of_ble_eq_true rfl, Nat.le_of_ble_eq_true rfl⟩ ⟨Nat.zero_le _, Nat.zero_le _⟩ (fun r h2 hF => ?_)
    obtain ⟨_, rfl, rfl, rfl⟩ := hF
    show wM p l e (wR 8) s m args below meth c 0 0 (wE below args s D dA b0 ad S0 F) 2 D dA b0 ad S0 53 [some (.ref k), some (.ref 1)] [.int yr26.1, .int (yr25.1 k 0), .ref (k + 2)] yr26.2
    obtain ⟨yhg27, hf⟩ := wok_g hf
    refine w_iast X dX4_readSkin_53 rfl (j := (yr25.1 k 0).toNatClampNeg) rfl hk.2.2.1 yhg27 ?_
    refine w_nmh (fun yh28 eyh28 => ?_)
    have hf := wok_l hf eyh28
    refine w_aload_n X dX4_readSkin_54 rfl rfl rfl ?_
    refine w_ldcS X dX4_readSkin_55 rfl (i := 3) (tx := "thick") (by decide +kernel) ?_
    obtain ⟨yr29, eyr29, hf⟩ := wok_b hf
    refine w_callV X dX4_readSkin_57 rfl vl_X4_126 (kX7_takeWord l (by decide) eyr29) S0_1 (As := [.ref (100000 + 3)]) (st := []) rfl rfl (Nat.le_of_ble_eq_true rfl) ⟨Nat.le_of_ble_eq_true rfl, Nat.le_of_ble_eq_true rfl⟩ ⟨Nat.zero_le _, Nat.zero_le _⟩ (fun r h2 hF => ?_)
    obtain ⟨rfl, rfl⟩ := hF
    show wM p l e (wR 8) s m args below meth c 0 0 (wE below args s D dA b0 ad S0 F) 2 D dA b0 ad S0 60 [some (.ref k), some (.ref 1)] [] yr29
    refine w_aload_n X dX4_readSkin_60 rfl rfl rfl ?_
    refine w_getR X dX4_readSkin_61 rfl fl_X4_19 hk.1 rfl ?_
    refine w_aload_n X dX4_readSkin_64 rfl rfl rfl ?_
    refine w_getI X dX4_readSkin_65 rfl fl_X4_47 hk.1 rfl ?_
    refine w_aload_n X dX4_readSkin_68 rfl rfl rfl ?_
    refine w_iconst X dX4_readSkin_69 rfl ci_1 ?_
    refine w_bipush X dX4_readSkin_70 rfl cb_30 ?_
    obtain ⟨yr30, eyr30, hf⟩ := wok_b hf
    refine w_callV X dX4_readSkin_72 rfl vl_X4_130 (kX7_takeNumber l  eyr30) S0_1 (As := [.int 1, .int 30]) (st := [.int (yr29.1 k 0), .ref (k + 3)]) rfl rfl (Nat.le_of_ble_eq_true rfl) ⟨Nat.le_of_ble_eq_true rfl, Nat.le_of_ble_eq_true rfl⟩ ⟨Nat.zero_le _, Nat.zero_le _⟩ (fun r h2 hF => ?_)
    obtain ⟨_, rfl, rfl, rfl⟩ := hF
    show wM p l e (wR 8) s m args below meth c 0 0 (wE below args s D dA b0 ad S0 F) 2 D dA b0 ad S0 75 [some (.ref k), some (.ref 1)] [.int yr30.1, .int (yr29.1 k 0), .ref (k + 3)] yr30.2
    obtain ⟨yhg31, hf⟩ := wok_g hf
    refine w_iast X dX4_readSkin_75 rfl (j := (yr29.1 k 0).toNatClampNeg) rfl hk.2.2.2.1 yhg31 ?_
    refine w_nmh (fun yh32 eyh32 => ?_)
    have hf := wok_l hf eyh32
    refine w_aload_n X dX4_readSkin_76 rfl rfl rfl ?_
    refine w_getR X dX4_readSkin_77 rfl fl_X4_22 hk.1 rfl ?_
    refine w_aload_n X dX4_readSkin_80 rfl rfl rfl ?_
    refine w_getI X dX4_readSkin_81 rfl fl_X4_47 hk.1 rfl ?_
    refine w_iconst X dX4_readSkin_84 rfl ci_0 ?_
    obtain ⟨yhg33, hf⟩ := wok_g hf
    refine w_iast X dX4_readSkin_85 rfl (j := (yh32.1 k 0).toNatClampNeg) rfl hk.2.2.2.2.1 yhg33 ?_
    refine w_nmh (fun yh34 eyh34 => ?_)
    have hf := wok_l hf eyh34
    refine w_aload_n X dX4_readSkin_86 rfl rfl rfl ?_
    refine w_bipush X dX4_readSkin_87 rfl cb_59 ?_
    obtain ⟨yr35, eyr35, hf⟩ := wok_b hf
    refine w_callV X dX4_readSkin_89 rfl vl_X4_135 (kX7_takeSign l  eyr35) S0_1 (As := [.int 59]) (st := []) rfl rfl (Nat.le_of_ble_eq_true rfl) ⟨Nat.le_of_ble_eq_true rfl, Nat.le_of_ble_eq_true rfl⟩ ⟨Nat.zero_le _, Nat.zero_le _⟩ (fun r h2 hF => ?_)
    obtain ⟨rfl, rfl⟩ := hF
    show wM p l e (wR 8) s m args below meth c 0 0 (wE below args s D dA b0 ad S0 F) 2 D dA b0 ad S0 92 [some (.ref k), some (.ref 1)] [] yr35
    refine w_aload_n X dX4_readSkin_92 rfl rfl rfl ?_
    refine w_dup X dX4_readSkin_93 rfl rfl ?_
    refine w_getI X dX4_readSkin_94 rfl fl_X4_47 hk.1 rfl ?_
    refine w_iconst X dX4_readSkin_97 rfl ci_1 ?_
    refine w_iadd X dX4_readSkin_98 rfl ?_
    refine w_putI X dX4_readSkin_99 rfl fp_X4_47 hk.1 rfl ?_
    refine w_nmh (fun yh36 eyh36 => ?_)
    have hf := wok_l hf eyh36
    exact w_vret X dX4_readSkin_102 hr (hT _ (wok_s hf))
  · have hf := wok_f hf hc
    refine w_aload_n X dX4_readSkin_8 rfl rfl rfl ?_
    refine w_iconst X dX4_readSkin_9 rfl ci_5 ?_
    obtain ⟨yr37, eyr37, hf⟩ := wok_b hf
    refine w_callV X dX4_readSkin_10 rfl vl_X4_111 (kX7_fail l  eyr37) S0_1 (As := [.int 5]) (st := []) rfl rfl (Nat.le_of_ble_eq_true rfl) ⟨Nat.le_of_ble_eq_true rfl, Nat.le_of_ble_eq_true rfl⟩ ⟨Nat.zero_le _, Nat.zero_le _⟩ (fun r h2 hF => ?_)
    obtain ⟨rfl, rfl⟩ := hF
    show wM p l e (wR 8) s m args below meth c 0 0 (wE below args s D dA b0 ad S0 F) 2 D dA b0 ad S0 13 [some (.ref k), some (.ref 1)] [] yr37
    exact w_vret X dX4_readSkin_13 hr (hT _ (wok_s hf))
set_option maxRecDepth 4000 in
theorem kX4_readSkin (l : Launch) {h : wSt} {k : Nat} (hk : wI4 k) {res : wSt} (hf : fX4_readSkin h k = some res) : wC l yX4_readSkin cX4_readSkin 2 none 8 S0 [.ref k, .ref 1] h (wFV (fun b => res = b)) := by
  refine w_meth2 0 (by decide) (Nat.le_of_ble_eq_true rfl) (ls := [some (.ref k), some (.ref 1)]) rfl ?_
  intro p e s m args below meth c D dA b0 ad X hr
  exact pX4_readSkin_b0 X hr hk (K := fun z => res = z) (fun h2 hz => ⟨rfl, hz⟩) ⟨res, hf, rfl⟩
set_option maxRecDepth 4000 in
theorem pX4_takeTold_b37 (X : wCx p s m args meth c RX4 cX4_takeTold 4 D dA b0 ad) (hr : meth.sig.returnType = (some .int)) {h : wSt} {a1 : Nat} {g1 : Nat} {v3 : Int32} (ha1 : S0[a1]? = some (3, g1, [])) {K : Int32 × wSt → Prop} (hT : ∀ (x : Int32) (h2 : wSt), K (x, h2) → F (some (.int x)) h2)  (hf : wok (fX4_takeTold_b37 h a1 g1 v3) K) : wM p l e (wR 7) s m args below meth c 0 0 (wE below args s D dA b0 ad S0 F) 4 D dA b0 ad S0 37 [some (.ref 1), none, none, some (.int v3)] [] h := by
  unfold fX4_takeTold_b37 at hf
  refine w_aload_n X dX4_takeTold_37 rfl rfl rfl ?_
  obtain ⟨yr23, eyr23, hf⟩ := wok_b hf
  refine w_callV X dX4_takeTold_38 rfl vl_X4_118 (kX7_next l  eyr23) S0_1 (As := []) (st := []) rfl rfl (Nat.le_of_ble_eq_true rfl) ⟨Nat.le_of_ble_eq_true rfl, Nat.le_of_ble_eq_true rfl⟩ ⟨Nat.zero_le _, Nat.zero_le _⟩ (fun r h2 hF => ?_)
  obtain ⟨rfl, rfl⟩ := hF
  show wM p l e (wR 7) s m args below meth c 0 0 (wE below args s D dA b0 ad S0 F) 4 D dA b0 ad S0 41 [some (.ref 1), none, none, some (.int v3)] [] yr23
  refine w_aload_n X dX4_takeTold_41 rfl rfl rfl ?_
  obtain ⟨yr24, eyr24, hf⟩ := wok_b hf
  refine w_callV X dX4_takeTold_42 rfl vl_X4_75 (kX7_isSound l  eyr24) S0_1 (As := []) (st := []) rfl rfl (Nat.le_of_ble_eq_true rfl) ⟨Nat.le_of_ble_eq_true rfl, Nat.le_of_ble_eq_true rfl⟩ ⟨Nat.zero_le _, Nat.zero_le _⟩ (fun r h2 hF => ?_)
  obtain ⟨_, rfl, rfl, rfl⟩ := hF
  show wM p l e (wR 7) s m args below meth c 0 0 (wE below args s D dA b0 ad S0 F) 4 D dA b0 ad S0 45 [some (.ref 1), none, none, some (.int v3)] [.int (wb yr24)] yr23
  refine w_if_eq X dX4_takeTold_45 rfl (t := 52) rfl (fun hc => ?_) (fun hc => ?_)
  · have hf := wok_f hf (wb_0 hc)
    refine w_iconst X dX4_takeTold_52 rfl ci_m1 ?_
    exact w_iret X dX4_takeTold_53 hr (hT _ _ (wok_s hf))
  · have hf := wok_t hf (wb_n0 hc)
    refine w_iload_n X dX4_takeTold_48 rfl rfl rfl ?_
    refine w_goto X dX4_takeTold_49 (t := 53) rfl ?_
    exact w_iret X dX4_takeTold_53 hr (hT _ _ (wok_s hf))
set_option maxRecDepth 4000 in
theorem pX4_takeTold_b0 (X : wCx p s m args meth c RX4 cX4_takeTold 4 D dA b0 ad) (hr : meth.sig.returnType = (some .int)) {h : wSt} {a1 : Nat} {g1 : Nat} {x2 : Int32} (ha1 : S0[a1]? = some (3, g1, [])) {K : Int32 × wSt → Prop} (hT : ∀ (x : Int32) (h2 : wSt), K (x, h2) → F (some (.int x)) h2) (hf : wok (fX4_takeTold h a1 g1 x2) K) : wM p l e (wR 7) s m args below meth c 0 0 (wE below args s D dA b0 ad S0 F) 4 D dA b0 ad S0 0 [some (.ref 1), some (.ref a1), some (.int x2), none] [] h := by
  unfold fX4_takeTold at hf
  refine w_iconst X dX4_takeTold_0 rfl ci_m1 ?_
  refine w_istore_n X dX4_takeTold_1 rfl rfl rfl (Nat.le_of_ble_eq_true rfl) (ls' := [some (.ref 1), some (.ref a1), some (.int x2), some (.int (-1))]) rfl ?_
  refine w_aload_n X dX4_takeTold_2 rfl rfl rfl ?_
  obtain ⟨yr21, eyr21, hf⟩ := wok_b hf
  refine w_callV X dX4_takeTold_3 rfl vl_X4_175 (kX7_isName l  eyr21) S0_1 (As := []) (st := []) rfl rfl (Nat.le_of_ble_eq_true rfl) ⟨Nat.le_of_ble_eq_true rfl, Nat.le_of_ble_eq_true rfl⟩ ⟨Nat.zero_le _, Nat.zero_le _⟩ (fun r h2 hF => ?_)
  obtain ⟨_, rfl, rfl, rfl⟩ := hF
  show wM p l e (wR 7) s m args below meth c 0 0 (wE below args s D dA b0 ad S0 F) 4 D dA b0 ad S0 6 [some (.ref 1), some (.ref a1), some (.int x2), some (.int (-1))] [.int (wb yr21)] h
  refine w_if_ne X dX4_takeTold_6 rfl (t := 17) rfl (fun hc => ?_) (fun hc => ?_)
  · have hf := wok_t hf (wb_n0 hc)
    refine w_aload_n X dX4_takeTold_17 rfl rfl rfl ?_
    refine w_getJ X dX4_takeTold_18 rfl fl_X4_171 S0_1 rfl ?_
    refine w_aload_n X dX4_takeTold_21 rfl rfl rfl ?_
    refine w_iload_n X dX4_takeTold_22 rfl rfl rfl ?_
    obtain ⟨yr22, eyr22, hf⟩ := wok_b hf
    refine w_callS X dX4_takeTold_23 rfl sl_X4_178 (kX4_indexOf l ha1 eyr22) (As := [.long (h.2 1 6), .ref a1, .int x2]) (st := []) rfl rfl (Nat.le_of_ble_eq_true rfl) ⟨Nat.le_of_ble_eq_true rfl, Nat.le_of_ble_eq_true rfl⟩ ⟨Nat.zero_le _, Nat.zero_le _⟩ (fun r h2 hF => ?_)
    obtain ⟨_, rfl, rfl, rfl⟩ := hF
    show wM p l e (wR 7) s m args below meth c 0 0 (wE below args s D dA b0 ad S0 F) 4 D dA b0 ad S0 26 [some (.ref 1), some (.ref a1), some (.int x2), some (.int (-1))] [.int yr22] h
    refine w_istore_n X dX4_takeTold_26 rfl rfl rfl (Nat.le_of_ble_eq_true rfl) (ls' := [some (.ref 1), some (.ref a1), some (.int x2), some (.int yr22)]) rfl ?_
    refine w_iload_n X dX4_takeTold_27 rfl rfl rfl ?_
    refine w_iconst X dX4_takeTold_28 rfl ci_m1 ?_
    refine w_icmp_ne X dX4_takeTold_29 rfl (t := 37) rfl (fun hc => ?_) (fun hc => ?_)
    · have hf := wok_f hf hc
      refine w_fg (ls2 := [some (.ref 1), none, none, some (.int yr22)]) ⟨rfl, rfl, trivial⟩ ?_
      exact pX4_takeTold_b37 X hr ha1 hT hf
    · have hf := wok_t hf hc
      refine w_aload_n X dX4_takeTold_32 rfl rfl rfl ?_
      refine w_iconst X dX4_takeTold_33 rfl ci_2 ?_
      obtain ⟨yr25, eyr25, hf⟩ := wok_b hf
      refine w_callV X dX4_takeTold_34 rfl vl_X4_111 (kX7_fail l  eyr25) S0_1 (As := [.int 2]) (st := []) rfl rfl (Nat.le_of_ble_eq_true rfl) ⟨Nat.le_of_ble_eq_true rfl, Nat.le_of_ble_eq_true rfl⟩ ⟨Nat.zero_le _, Nat.zero_le _⟩ (fun r h2 hF => ?_)
      obtain ⟨rfl, rfl⟩ := hF
      show wM p l e (wR 7) s m args below meth c 0 0 (wE below args s D dA b0 ad S0 F) 4 D dA b0 ad S0 37 [some (.ref 1), some (.ref a1), some (.int x2), some (.int yr22)] [] yr25
      refine w_fg (ls2 := [some (.ref 1), none, none, some (.int yr22)]) ⟨rfl, rfl, trivial⟩ ?_
      exact pX4_takeTold_b37 X hr ha1 hT hf
  · have hf := wok_f hf (wb_0 hc)
    refine w_aload_n X dX4_takeTold_9 rfl rfl rfl ?_
    refine w_iconst X dX4_takeTold_10 rfl ci_1 ?_
    obtain ⟨yr26, eyr26, hf⟩ := wok_b hf
    refine w_callV X dX4_takeTold_11 rfl vl_X4_111 (kX7_fail l  eyr26) S0_1 (As := [.int 1]) (st := []) rfl rfl (Nat.le_of_ble_eq_true rfl) ⟨Nat.le_of_ble_eq_true rfl, Nat.le_of_ble_eq_true rfl⟩ ⟨Nat.zero_le _, Nat.zero_le _⟩ (fun r h2 hF => ?_)
    obtain ⟨rfl, rfl⟩ := hF
    show wM p l e (wR 7) s m args below meth c 0 0 (wE below args s D dA b0 ad S0 F) 4 D dA b0 ad S0 14 [some (.ref 1), some (.ref a1), some (.int x2), some (.int (-1))] [] yr26
    refine w_goto X dX4_takeTold_14 (t := 37) rfl ?_
    refine w_fg (ls2 := [some (.ref 1), none, none, some (.int (-1))]) ⟨rfl, rfl, trivial⟩ ?_
    exact pX4_takeTold_b37 X hr ha1 hT hf
set_option maxRecDepth 4000 in
theorem kX4_takeTold (l : Launch) {h : wSt} {a1 : Nat} {g1 : Nat} {x2 : Int32} (ha1 : S0[a1]? = some (3, g1, [])) {res : Int32 × wSt} (hf : fX4_takeTold h a1 g1 x2 = some res) : wC l yX4_takeTold cX4_takeTold 4 (some .int) 7 S0 [.ref 1, .ref a1, .int x2] h (wFI (fun a b => res.1 = a ∧ res.2 = b)) := by
  refine w_meth2 1 (by decide) (Nat.le_of_ble_eq_true rfl) (ls := [some (.ref 1), some (.ref a1), some (.int x2), none]) rfl ?_
  intro p e s m args below meth c D dA b0 ad X hr
  exact pX4_takeTold_b0 X hr ha1 (K := fun z => res = z) (fun x h2 hz => ⟨x, rfl, by rw [hz], by rw [hz]⟩) ⟨res, hf, rfl⟩
set_option maxRecDepth 4000 in
theorem pX4_takeSkin_b0 (X : wCx p s m args meth c RX4 cX4_takeSkin 2 D dA b0 ad) (hr : meth.sig.returnType = (some .int)) {h : wSt} {k : Nat} (hk : wI4 k) {K : Int32 × wSt → Prop} (hT : ∀ (x : Int32) (h2 : wSt), K (x, h2) → F (some (.int x)) h2) (hf : wok (fX4_takeSkin h k) K) : wM p l e (wR 8) s m args below meth c 0 0 (wE below args s D dA b0 ad S0 F) 2 D dA b0 ad S0 0 [some (.ref k), some (.ref 1)] [] h := by
  unfold fX4_takeSkin at hf
  refine w_aload_n X dX4_takeSkin_0 rfl rfl rfl ?_
  refine w_aload_n X dX4_takeSkin_1 rfl rfl rfl ?_
  refine w_getR X dX4_takeSkin_2 rfl fl_X4_9 hk.1 rfl ?_
  refine w_aload_n X dX4_takeSkin_5 rfl rfl rfl ?_
  refine w_getI X dX4_takeSkin_6 rfl fl_X4_47 hk.1 rfl ?_
  obtain ⟨yr21, eyr21, hf⟩ := wok_b hf
  refine w_callS X dX4_takeSkin_9 rfl sl_X4_182 (kX4_takeTold l hk.2.1 eyr21) (As := [.ref 1, .ref (k + 1), .int (h.1 k 0)]) (st := []) rfl rfl (Nat.le_of_ble_eq_true rfl) ⟨Nat.le_of_ble_eq_true rfl, Nat.le_of_ble_eq_true rfl⟩ ⟨Nat.zero_le _, Nat.zero_le _⟩ (fun r h2 hF => ?_)
  obtain ⟨_, rfl, rfl, rfl⟩ := hF
  show wM p l e (wR 8) s m args below meth c 0 0 (wE below args s D dA b0 ad S0 F) 2 D dA b0 ad S0 12 [some (.ref k), some (.ref 1)] [.int yr21.1] yr21.2
  exact w_iret X dX4_takeSkin_12 hr (hT _ _ (wok_s hf))
set_option maxRecDepth 4000 in
theorem kX4_takeSkin (l : Launch) {h : wSt} {k : Nat} (hk : wI4 k) {res : Int32 × wSt} (hf : fX4_takeSkin h k = some res) : wC l yX4_takeSkin cX4_takeSkin 2 (some .int) 8 S0 [.ref k, .ref 1] h (wFI (fun a b => res.1 = a ∧ res.2 = b)) := by
  refine w_meth2 0 (by decide) (Nat.le_of_ble_eq_true rfl) (ls := [some (.ref k), some (.ref 1)]) rfl ?_
  intro p e s m args below meth c D dA b0 ad X hr
  exact pX4_takeSkin_b0 X hr hk (K := fun z => res = z) (fun x h2 hz => ⟨x, rfl, by rw [hz], by rw [hz]⟩) ⟨res, hf, rfl⟩
set_option maxRecDepth 4000 in
theorem pX4_readHole_b0 (X : wCx p s m args meth c RX4 cX4_readHole 4 D dA b0 ad) (hr : meth.sig.returnType = none) {h : wSt} {k : Nat} (hk : wI4 k) {K : wSt → Prop} (hT : ∀ (h2 : wSt), K h2 → F none h2) (hf : wok (fX4_readHole h k) K) : wM p l e (wR 9) s m args below meth c 0 0 (wE below args s D dA b0 ad S0 F) 4 D dA b0 ad S0 0 [some (.ref k), some (.ref 1), none, none] [] h := by
  unfold fX4_readHole at hf
  refine w_aload_n X dX4_readHole_0 rfl rfl rfl ?_
  obtain ⟨yr21, eyr21, hf⟩ := wok_b hf
  refine w_callV X dX4_readHole_1 rfl vl_X4_118 (kX7_next l  eyr21) S0_1 (As := []) (st := []) rfl rfl (Nat.le_of_ble_eq_true rfl) ⟨Nat.le_of_ble_eq_true rfl, Nat.le_of_ble_eq_true rfl⟩ ⟨Nat.zero_le _, Nat.zero_le _⟩ (fun r h2 hF => ?_)
  obtain ⟨rfl, rfl⟩ := hF
  show wM p l e (wR 9) s m args below meth c 0 0 (wE below args s D dA b0 ad S0 F) 4 D dA b0 ad S0 4 [some (.ref k), some (.ref 1), none, none] [] yr21
  refine w_aload_n X dX4_readHole_4 rfl rfl rfl ?_
  refine w_aload_n X dX4_readHole_5 rfl rfl rfl ?_
  obtain ⟨yr22, eyr22, hf⟩ := wok_b hf
  refine w_callV X dX4_readHole_6 rfl vl_X4_139 (kX4_takeSkin l hk eyr22) hk.1 (As := [.ref 1]) (st := []) rfl rfl (Nat.le_of_ble_eq_true rfl) ⟨Nat.le_of_ble_eq_true rfl, Nat.le_of_ble_eq_true rfl⟩ ⟨Nat.zero_le _, Nat.zero_le _⟩ (fun r h2 hF => ?_)
  obtain ⟨_, rfl, rfl, rfl⟩ := hF
  show wM p l e (wR 9) s m args below meth c 0 0 (wE below args s D dA b0 ad S0 F) 4 D dA b0 ad S0 9 [some (.ref k), some (.ref 1), none, none] [.int yr22.1] yr22.2
  refine w_istore_n X dX4_readHole_9 rfl rfl rfl (Nat.le_of_ble_eq_true rfl) (ls' := [some (.ref k), some (.ref 1), some (.int yr22.1), none]) rfl ?_
  refine w_iload_n X dX4_readHole_10 rfl rfl rfl ?_
  refine w_iconst X dX4_readHole_11 rfl ci_m1 ?_
  refine w_icmp_eq X dX4_readHole_12 rfl (t := 31) rfl (fun hc => ?_) (fun hc => ?_)
  · have hf := wok_t hf hc
    exact w_vret X dX4_readHole_31 hr (hT _ (wok_s hf))
  · have hf := wok_f hf hc
    refine w_aload_n X dX4_readHole_15 rfl rfl rfl ?_
    refine w_iconst X dX4_readHole_16 rfl ci_0 ?_
    refine w_aload_n X dX4_readHole_17 rfl rfl rfl ?_
    refine w_getR X dX4_readHole_18 rfl fl_X4_15 hk.1 rfl ?_
    refine w_iload_n X dX4_readHole_21 rfl rfl rfl ?_
    obtain ⟨yhg23, hf⟩ := wok_g hf
    refine w_iald X dX4_readHole_22 rfl (j := yr22.1.toNatClampNeg) rfl hk.2.2.1 yhg23 ?_
    refine w_iconst X dX4_readHole_23 rfl ci_1 ?_
    refine w_isub X dX4_readHole_24 rfl ?_
    obtain ⟨yr24, eyr24, hf⟩ := wok_b hf
    refine w_callV X dX4_readHole_25 rfl vl_X4_143 (kX7_isNumberWithin l  eyr24) S0_1 (As := [.int 0, .int ((yr22.2.1 (k + 2) yr22.1.toNatClampNeg) - 1)]) (st := []) rfl rfl (Nat.le_of_ble_eq_true rfl) ⟨Nat.le_of_ble_eq_true rfl, Nat.le_of_ble_eq_true rfl⟩ ⟨Nat.zero_le _, Nat.zero_le _⟩ (fun r h2 hF => ?_)
    obtain ⟨_, rfl, rfl, rfl⟩ := hF
    show wM p l e (wR 9) s m args below meth c 0 0 (wE below args s D dA b0 ad S0 F) 4 D dA b0 ad S0 28 [some (.ref k), some (.ref 1), some (.int yr22.1), none] [.int (wb yr24.1)] yr24.2
    refine w_if_ne X dX4_readHole_28 rfl (t := 32) rfl (fun hc => ?_) (fun hc => ?_)
    · have hf := wok_t hf (wb_n0 hc)
      refine w_iconst X dX4_readHole_32 rfl ci_1 ?_
      refine w_aload_n X dX4_readHole_33 rfl rfl rfl ?_
      refine w_getI X dX4_readHole_34 rfl fl_X4_147 S0_1 rfl ?_
      refine w_ishl X dX4_readHole_37 rfl ?_
      refine w_istore_n X dX4_readHole_38 rfl rfl rfl (Nat.le_of_ble_eq_true rfl) (ls' := [some (.ref k), some (.ref 1), some (.int yr22.1), some (.int (1 <<< ((yr24.2.1 1 5) &&& 31)))]) rfl ?_
      refine w_aload_n X dX4_readHole_39 rfl rfl rfl ?_
      refine w_getR X dX4_readHole_40 rfl fl_X4_22 hk.1 rfl ?_
      refine w_iload_n X dX4_readHole_43 rfl rfl rfl ?_
      refine w_iald X dX4_readHole_44 rfl (j := yr22.1.toNatClampNeg) rfl hk.2.2.2.2.1 yhg23 ?_
      refine w_iload_n X dX4_readHole_45 rfl rfl rfl ?_
      refine w_iand X dX4_readHole_46 rfl ?_
      refine w_if_eq X dX4_readHole_47 rfl (t := 56) rfl (fun hc => ?_) (fun hc => ?_)
      · have hf := wok_t hf hc
        refine w_aload_n X dX4_readHole_56 rfl rfl rfl ?_
        refine w_getR X dX4_readHole_57 rfl fl_X4_22 hk.1 rfl ?_
        refine w_iload_n X dX4_readHole_60 rfl rfl rfl ?_
        refine w_dup2 X dX4_readHole_61 rfl rfl rfl ?_
        refine w_iald X dX4_readHole_62 rfl (j := yr22.1.toNatClampNeg) rfl hk.2.2.2.2.1 yhg23 ?_
        refine w_iload_n X dX4_readHole_63 rfl rfl rfl ?_
        refine w_ior X dX4_readHole_64 rfl ?_
        refine w_iast X dX4_readHole_65 rfl (j := yr22.1.toNatClampNeg) rfl hk.2.2.2.2.1 yhg23 ?_
        refine w_nmh (fun yh25 eyh25 => ?_)
        have hf := wok_l hf eyh25
        refine w_aload_n X dX4_readHole_66 rfl rfl rfl ?_
        obtain ⟨yr26, eyr26, hf⟩ := wok_b hf
        refine w_callV X dX4_readHole_67 rfl vl_X4_118 (kX7_next l  eyr26) S0_1 (As := []) (st := []) rfl rfl (Nat.le_of_ble_eq_true rfl) ⟨Nat.le_of_ble_eq_true rfl, Nat.le_of_ble_eq_true rfl⟩ ⟨Nat.zero_le _, Nat.zero_le _⟩ (fun r h2 hF => ?_)
        obtain ⟨rfl, rfl⟩ := hF
        show wM p l e (wR 9) s m args below meth c 0 0 (wE below args s D dA b0 ad S0 F) 4 D dA b0 ad S0 70 [some (.ref k), some (.ref 1), some (.int yr22.1), some (.int (1 <<< ((yr24.2.1 1 5) &&& 31)))] [] yr26
        refine w_aload_n X dX4_readHole_70 rfl rfl rfl ?_
        refine w_bipush X dX4_readHole_71 rfl cb_59 ?_
        obtain ⟨yr27, eyr27, hf⟩ := wok_b hf
        refine w_callV X dX4_readHole_73 rfl vl_X4_135 (kX7_takeSign l  eyr27) S0_1 (As := [.int 59]) (st := []) rfl rfl (Nat.le_of_ble_eq_true rfl) ⟨Nat.le_of_ble_eq_true rfl, Nat.le_of_ble_eq_true rfl⟩ ⟨Nat.zero_le _, Nat.zero_le _⟩ (fun r h2 hF => ?_)
        obtain ⟨rfl, rfl⟩ := hF
        show wM p l e (wR 9) s m args below meth c 0 0 (wE below args s D dA b0 ad S0 F) 4 D dA b0 ad S0 76 [some (.ref k), some (.ref 1), some (.int yr22.1), some (.int (1 <<< ((yr24.2.1 1 5) &&& 31)))] [] yr27
        exact w_vret X dX4_readHole_76 hr (hT _ (wok_s hf))
      · have hf := wok_f hf hc
        refine w_aload_n X dX4_readHole_50 rfl rfl rfl ?_
        refine w_iconst X dX4_readHole_51 rfl ci_3 ?_
        obtain ⟨yr28, eyr28, hf⟩ := wok_b hf
        refine w_callV X dX4_readHole_52 rfl vl_X4_111 (kX7_fail l  eyr28) S0_1 (As := [.int 3]) (st := []) rfl rfl (Nat.le_of_ble_eq_true rfl) ⟨Nat.le_of_ble_eq_true rfl, Nat.le_of_ble_eq_true rfl⟩ ⟨Nat.zero_le _, Nat.zero_le _⟩ (fun r h2 hF => ?_)
        obtain ⟨rfl, rfl⟩ := hF
        show wM p l e (wR 9) s m args below meth c 0 0 (wE below args s D dA b0 ad S0 F) 4 D dA b0 ad S0 55 [some (.ref k), some (.ref 1), some (.int yr22.1), some (.int (1 <<< ((yr24.2.1 1 5) &&& 31)))] [] yr28
        exact w_vret X dX4_readHole_55 hr (hT _ (wok_s hf))
    · have hf := wok_f hf (wb_0 hc)
      exact w_vret X dX4_readHole_31 hr (hT _ (wok_s hf))
set_option maxRecDepth 4000 in
theorem kX4_readHole (l : Launch) {h : wSt} {k : Nat} (hk : wI4 k) {res : wSt} (hf : fX4_readHole h k = some res) : wC l yX4_readHole cX4_readHole 4 none 9 S0 [.ref k, .ref 1] h (wFV (fun b => res = b)) := by
  refine w_meth2 2 (by decide) (Nat.le_of_ble_eq_true rfl) (ls := [some (.ref k), some (.ref 1), none, none]) rfl ?_
  intro p e s m args below meth c D dA b0 ad X hr
  exact pX4_readHole_b0 X hr hk (K := fun z => res = z) (fun h2 hz => ⟨rfl, hz⟩) ⟨res, hf, rfl⟩
set_option maxRecDepth 4000 in
theorem pX4_takeKind_b58 (X : wCx p s m args meth c RX4 cX4_takeKind 2 D dA b0 ad) (hr : meth.sig.returnType = (some .int)) {h : wSt} {v1 : Int32} {K : Int32 × wSt → Prop} (hT : ∀ (x : Int32) (h2 : wSt), K (x, h2) → F (some (.int x)) h2)  (hf : wok (fX4_takeKind_b58 h v1) K) : wM p l e (wR 6) s m args below meth c 0 0 (wE below args s D dA b0 ad S0 F) 2 D dA b0 ad S0 58 [some (.ref 1), some (.int v1)] [] h := by
  unfold fX4_takeKind_b58 at hf
  refine w_aload_n X dX4_takeKind_58 rfl rfl rfl ?_
  obtain ⟨yr25, eyr25, hf⟩ := wok_b hf
  refine w_callV X dX4_takeKind_59 rfl vl_X4_118 (kX7_next l  eyr25) S0_1 (As := []) (st := []) rfl rfl (Nat.le_of_ble_eq_true rfl) ⟨Nat.le_of_ble_eq_true rfl, Nat.le_of_ble_eq_true rfl⟩ ⟨Nat.zero_le _, Nat.zero_le _⟩ (fun r h2 hF => ?_)
  obtain ⟨rfl, rfl⟩ := hF
  show wM p l e (wR 6) s m args below meth c 0 0 (wE below args s D dA b0 ad S0 F) 2 D dA b0 ad S0 62 [some (.ref 1), some (.int v1)] [] yr25
  refine w_iload_n X dX4_takeKind_62 rfl rfl rfl ?_
  exact w_iret X dX4_takeKind_63 hr (hT _ _ (wok_s hf))
set_option maxRecDepth 4000 in
theorem pX4_takeKind_b0 (X : wCx p s m args meth c RX4 cX4_takeKind 2 D dA b0 ad) (hr : meth.sig.returnType = (some .int)) {h : wSt} {K : Int32 × wSt → Prop} (hT : ∀ (x : Int32) (h2 : wSt), K (x, h2) → F (some (.int x)) h2) (hf : wok (fX4_takeKind h ) K) : wM p l e (wR 6) s m args below meth c 0 0 (wE below args s D dA b0 ad S0 F) 2 D dA b0 ad S0 0 [some (.ref 1), none] [] h := by
  unfold fX4_takeKind at hf
  refine w_iconst X dX4_takeKind_0 rfl ci_0 ?_
  refine w_istore_n X dX4_takeKind_1 rfl rfl rfl (Nat.le_of_ble_eq_true rfl) (ls' := [some (.ref 1), some (.int 0)]) rfl ?_
  refine w_aload_n X dX4_takeKind_2 rfl rfl rfl ?_
  refine w_ldcS X dX4_takeKind_3 rfl (i := 15) (tx := "psalm") (by decide +kernel) ?_
  obtain ⟨yr21, eyr21, hf⟩ := wok_b hf
  refine w_callV X dX4_takeKind_5 rfl vl_X4_84 (kX7_isWord l (by decide) eyr21) S0_1 (As := [.ref (100000 + 15)]) (st := []) rfl rfl (Nat.le_of_ble_eq_true rfl) ⟨Nat.le_of_ble_eq_true rfl, Nat.le_of_ble_eq_true rfl⟩ ⟨Nat.zero_le _, Nat.zero_le _⟩ (fun r h2 hF => ?_)
  obtain ⟨_, rfl, rfl, rfl⟩ := hF
  show wM p l e (wR 6) s m args below meth c 0 0 (wE below args s D dA b0 ad S0 F) 2 D dA b0 ad S0 8 [some (.ref 1), some (.int 0)] [.int (wb yr21)] h
  refine w_if_eq X dX4_takeKind_8 rfl (t := 16) rfl (fun hc => ?_) (fun hc => ?_)
  · have hf := wok_f hf (wb_0 hc)
    refine w_aload_n X dX4_takeKind_16 rfl rfl rfl ?_
    refine w_ldcS X dX4_takeKind_17 rfl (i := 16) (tx := "recipe") (by decide +kernel) ?_
    obtain ⟨yr22, eyr22, hf⟩ := wok_b hf
    refine w_callV X dX4_takeKind_19 rfl vl_X4_84 (kX7_isWord l (by decide) eyr22) S0_1 (As := [.ref (100000 + 16)]) (st := []) rfl rfl (Nat.le_of_ble_eq_true rfl) ⟨Nat.le_of_ble_eq_true rfl, Nat.le_of_ble_eq_true rfl⟩ ⟨Nat.zero_le _, Nat.zero_le _⟩ (fun r h2 hF => ?_)
    obtain ⟨_, rfl, rfl, rfl⟩ := hF
    show wM p l e (wR 6) s m args below meth c 0 0 (wE below args s D dA b0 ad S0 F) 2 D dA b0 ad S0 22 [some (.ref 1), some (.int 0)] [.int (wb yr22)] h
    refine w_if_eq X dX4_takeKind_22 rfl (t := 30) rfl (fun hc => ?_) (fun hc => ?_)
    · have hf := wok_f hf (wb_0 hc)
      refine w_aload_n X dX4_takeKind_30 rfl rfl rfl ?_
      refine w_ldcS X dX4_takeKind_31 rfl (i := 17) (tx := "oath") (by decide +kernel) ?_
      obtain ⟨yr23, eyr23, hf⟩ := wok_b hf
      refine w_callV X dX4_takeKind_33 rfl vl_X4_84 (kX7_isWord l (by decide) eyr23) S0_1 (As := [.ref (100000 + 17)]) (st := []) rfl rfl (Nat.le_of_ble_eq_true rfl) ⟨Nat.le_of_ble_eq_true rfl, Nat.le_of_ble_eq_true rfl⟩ ⟨Nat.zero_le _, Nat.zero_le _⟩ (fun r h2 hF => ?_)
      obtain ⟨_, rfl, rfl, rfl⟩ := hF
      show wM p l e (wR 6) s m args below meth c 0 0 (wE below args s D dA b0 ad S0 F) 2 D dA b0 ad S0 36 [some (.ref 1), some (.int 0)] [.int (wb yr23)] h
      refine w_if_eq X dX4_takeKind_36 rfl (t := 44) rfl (fun hc => ?_) (fun hc => ?_)
      · have hf := wok_f hf (wb_0 hc)
        refine w_aload_n X dX4_takeKind_44 rfl rfl rfl ?_
        refine w_ldcS X dX4_takeKind_45 rfl (i := 14) (tx := "charter") (by decide +kernel) ?_
        obtain ⟨yr24, eyr24, hf⟩ := wok_b hf
        refine w_callV X dX4_takeKind_47 rfl vl_X4_84 (kX7_isWord l (by decide) eyr24) S0_1 (As := [.ref (100000 + 14)]) (st := []) rfl rfl (Nat.le_of_ble_eq_true rfl) ⟨Nat.le_of_ble_eq_true rfl, Nat.le_of_ble_eq_true rfl⟩ ⟨Nat.zero_le _, Nat.zero_le _⟩ (fun r h2 hF => ?_)
        obtain ⟨_, rfl, rfl, rfl⟩ := hF
        show wM p l e (wR 6) s m args below meth c 0 0 (wE below args s D dA b0 ad S0 F) 2 D dA b0 ad S0 50 [some (.ref 1), some (.int 0)] [.int (wb yr24)] h
        refine w_if_ne X dX4_takeKind_50 rfl (t := 58) rfl (fun hc => ?_) (fun hc => ?_)
        · have hf := wok_t hf (wb_n0 hc)
          exact pX4_takeKind_b58 X hr  hT hf
        · have hf := wok_f hf (wb_0 hc)
          refine w_aload_n X dX4_takeKind_53 rfl rfl rfl ?_
          refine w_iconst X dX4_takeKind_54 rfl ci_1 ?_
          obtain ⟨yr26, eyr26, hf⟩ := wok_b hf
          refine w_callV X dX4_takeKind_55 rfl vl_X4_111 (kX7_fail l  eyr26) S0_1 (As := [.int 1]) (st := []) rfl rfl (Nat.le_of_ble_eq_true rfl) ⟨Nat.le_of_ble_eq_true rfl, Nat.le_of_ble_eq_true rfl⟩ ⟨Nat.zero_le _, Nat.zero_le _⟩ (fun r h2 hF => ?_)
          obtain ⟨rfl, rfl⟩ := hF
          show wM p l e (wR 6) s m args below meth c 0 0 (wE below args s D dA b0 ad S0 F) 2 D dA b0 ad S0 58 [some (.ref 1), some (.int 0)] [] yr26
          exact pX4_takeKind_b58 X hr  hT hf
      · have hf := wok_t hf (wb_n0 hc)
        refine w_iconst X dX4_takeKind_39 rfl ci_3 ?_
        refine w_istore_n X dX4_takeKind_40 rfl rfl rfl (Nat.le_of_ble_eq_true rfl) (ls' := [some (.ref 1), some (.int 3)]) rfl ?_
        refine w_goto X dX4_takeKind_41 (t := 58) rfl ?_
        exact pX4_takeKind_b58 X hr  hT hf
    · have hf := wok_t hf (wb_n0 hc)
      refine w_iconst X dX4_takeKind_25 rfl ci_2 ?_
      refine w_istore_n X dX4_takeKind_26 rfl rfl rfl (Nat.le_of_ble_eq_true rfl) (ls' := [some (.ref 1), some (.int 2)]) rfl ?_
      refine w_goto X dX4_takeKind_27 (t := 58) rfl ?_
      exact pX4_takeKind_b58 X hr  hT hf
  · have hf := wok_t hf (wb_n0 hc)
    refine w_iconst X dX4_takeKind_11 rfl ci_1 ?_
    refine w_istore_n X dX4_takeKind_12 rfl rfl rfl (Nat.le_of_ble_eq_true rfl) (ls' := [some (.ref 1), some (.int 1)]) rfl ?_
    refine w_goto X dX4_takeKind_13 (t := 58) rfl ?_
    exact pX4_takeKind_b58 X hr  hT hf
set_option maxRecDepth 4000 in
theorem kX4_takeKind (l : Launch) {h : wSt} {res : Int32 × wSt} (hf : fX4_takeKind h  = some res) : wC l yX4_takeKind cX4_takeKind 2 (some .int) 6 S0 [.ref 1] h (wFI (fun a b => res.1 = a ∧ res.2 = b)) := by
  refine w_meth2 1 (by decide) (Nat.le_of_ble_eq_true rfl) (ls := [some (.ref 1), none]) rfl ?_
  intro p e s m args below meth c D dA b0 ad X hr
  exact pX4_takeKind_b0 X hr  (K := fun z => res = z) (fun x h2 hz => ⟨x, rfl, by rw [hz], by rw [hz]⟩) ⟨res, hf, rfl⟩
set_option maxRecDepth 4000 in
theorem pX4_takeInk_b25 (X : wCx p s m args meth c RX4 cX4_takeInk 2 D dA b0 ad) (hr : meth.sig.returnType = (some .int)) {h : wSt} {v1 : Int32} {K : Int32 × wSt → Prop} (hT : ∀ (x : Int32) (h2 : wSt), K (x, h2) → F (some (.int x)) h2)  (hf : wok (fX4_takeInk_b25 h v1) K) : wM p l e (wR 6) s m args below meth c 0 0 (wE below args s D dA b0 ad S0 F) 2 D dA b0 ad S0 25 [some (.ref 1), some (.int v1)] [] h := by
  unfold fX4_takeInk_b25 at hf
  refine w_aload_n X dX4_takeInk_25 rfl rfl rfl ?_
  obtain ⟨yr22, eyr22, hf⟩ := wok_b hf
  refine w_callV X dX4_takeInk_26 rfl vl_X4_118 (kX7_next l  eyr22) S0_1 (As := []) (st := []) rfl rfl (Nat.le_of_ble_eq_true rfl) ⟨Nat.le_of_ble_eq_true rfl, Nat.le_of_ble_eq_true rfl⟩ ⟨Nat.zero_le _, Nat.zero_le _⟩ (fun r h2 hF => ?_)
  obtain ⟨rfl, rfl⟩ := hF
  show wM p l e (wR 6) s m args below meth c 0 0 (wE below args s D dA b0 ad S0 F) 2 D dA b0 ad S0 29 [some (.ref 1), some (.int v1)] [] yr22
  refine w_iload_n X dX4_takeInk_29 rfl rfl rfl ?_
  refine w_if_eq X dX4_takeInk_30 rfl (t := 37) rfl (fun hc => ?_) (fun hc => ?_)
  · have hf := wok_t hf hc
    refine w_iconst X dX4_takeInk_37 rfl ci_0 ?_
    exact w_iret X dX4_takeInk_38 hr (hT _ _ (wok_s hf))
  · have hf := wok_f hf hc
    refine w_iconst X dX4_takeInk_33 rfl ci_1 ?_
    refine w_goto X dX4_takeInk_34 (t := 38) rfl ?_
    exact w_iret X dX4_takeInk_38 hr (hT _ _ (wok_s hf))
set_option maxRecDepth 4000 in
theorem pX4_takeInk_b0 (X : wCx p s m args meth c RX4 cX4_takeInk 2 D dA b0 ad) (hr : meth.sig.returnType = (some .int)) {h : wSt} {K : Int32 × wSt → Prop} (hT : ∀ (x : Int32) (h2 : wSt), K (x, h2) → F (some (.int x)) h2) (hf : wok (fX4_takeInk h ) K) : wM p l e (wR 6) s m args below meth c 0 0 (wE below args s D dA b0 ad S0 F) 2 D dA b0 ad S0 0 [some (.ref 1), none] [] h := by
  unfold fX4_takeInk at hf
  refine w_aload_n X dX4_takeInk_0 rfl rfl rfl ?_
  refine w_ldcS X dX4_takeInk_1 rfl (i := 12) (tx := "gall") (by decide +kernel) ?_
  obtain ⟨yr21, eyr21, hf⟩ := wok_b hf
  refine w_callV X dX4_takeInk_3 rfl vl_X4_84 (kX7_isWord l (by decide) eyr21) S0_1 (As := [.ref (100000 + 12)]) (st := []) rfl rfl (Nat.le_of_ble_eq_true rfl) ⟨Nat.le_of_ble_eq_true rfl, Nat.le_of_ble_eq_true rfl⟩ ⟨Nat.zero_le _, Nat.zero_le _⟩ (fun r h2 hF => ?_)
  obtain ⟨_, rfl, rfl, rfl⟩ := hF
  show wM p l e (wR 6) s m args below meth c 0 0 (wE below args s D dA b0 ad S0 F) 2 D dA b0 ad S0 6 [some (.ref 1), none] [.int (wb yr21)] h
  refine w_istore_n X dX4_takeInk_6 rfl rfl rfl (Nat.le_of_ble_eq_true rfl) (ls' := [some (.ref 1), some (.int (wb yr21))]) rfl ?_
  refine w_iload_n X dX4_takeInk_7 rfl rfl rfl ?_
  refine w_if_ne X dX4_takeInk_8 rfl (t := 25) rfl (fun hc => ?_) (fun hc => ?_)
  · have hf := wok_t hf (wb_n0 hc)
    exact pX4_takeInk_b25 X hr  hT hf
  · have hf := wok_f hf (wb_0 hc)
    refine w_aload_n X dX4_takeInk_11 rfl rfl rfl ?_
    refine w_ldcS X dX4_takeInk_12 rfl (i := 13) (tx := "soot") (by decide +kernel) ?_
    obtain ⟨yr23, eyr23, hf⟩ := wok_b hf
    refine w_callV X dX4_takeInk_14 rfl vl_X4_84 (kX7_isWord l (by decide) eyr23) S0_1 (As := [.ref (100000 + 13)]) (st := []) rfl rfl (Nat.le_of_ble_eq_true rfl) ⟨Nat.le_of_ble_eq_true rfl, Nat.le_of_ble_eq_true rfl⟩ ⟨Nat.zero_le _, Nat.zero_le _⟩ (fun r h2 hF => ?_)
    obtain ⟨_, rfl, rfl, rfl⟩ := hF
    show wM p l e (wR 6) s m args below meth c 0 0 (wE below args s D dA b0 ad S0 F) 2 D dA b0 ad S0 17 [some (.ref 1), some (.int (wb yr21))] [.int (wb yr23)] h
    refine w_if_ne X dX4_takeInk_17 rfl (t := 25) rfl (fun hc => ?_) (fun hc => ?_)
    · have hf := wok_t hf (wb_n0 hc)
      exact pX4_takeInk_b25 X hr  hT hf
    · have hf := wok_f hf (wb_0 hc)
      refine w_aload_n X dX4_takeInk_20 rfl rfl rfl ?_
      refine w_iconst X dX4_takeInk_21 rfl ci_1 ?_
      obtain ⟨yr24, eyr24, hf⟩ := wok_b hf
      refine w_callV X dX4_takeInk_22 rfl vl_X4_111 (kX7_fail l  eyr24) S0_1 (As := [.int 1]) (st := []) rfl rfl (Nat.le_of_ble_eq_true rfl) ⟨Nat.le_of_ble_eq_true rfl, Nat.le_of_ble_eq_true rfl⟩ ⟨Nat.zero_le _, Nat.zero_le _⟩ (fun r h2 hF => ?_)
      obtain ⟨rfl, rfl⟩ := hF
      show wM p l e (wR 6) s m args below meth c 0 0 (wE below args s D dA b0 ad S0 F) 2 D dA b0 ad S0 25 [some (.ref 1), some (.int (wb yr21))] [] yr24
      exact pX4_takeInk_b25 X hr  hT hf
set_option maxRecDepth 4000 in
theorem kX4_takeInk (l : Launch) {h : wSt} {res : Int32 × wSt} (hf : fX4_takeInk h  = some res) : wC l yX4_takeInk cX4_takeInk 2 (some .int) 6 S0 [.ref 1] h (wFI (fun a b => res.1 = a ∧ res.2 = b)) := by
  refine w_meth2 1 (by decide) (Nat.le_of_ble_eq_true rfl) (ls := [some (.ref 1), none]) rfl ?_
  intro p e s m args below meth c D dA b0 ad X hr
  exact pX4_takeInk_b0 X hr  (K := fun z => res = z) (fun x h2 hz => ⟨x, rfl, by rw [hz], by rw [hz]⟩) ⟨res, hf, rfl⟩
set_option maxRecDepth 4000 in
theorem pX4_readText_b0 (X : wCx p s m args meth c RX4 cX4_readText 2 D dA b0 ad) (hr : meth.sig.returnType = none) {h : wSt} {k : Nat} (hk : wI4 k) {K : wSt → Prop} (hT : ∀ (h2 : wSt), K h2 → F none h2) (hf : wok (fX4_readText h k) K) : wM p l e (wR 8) s m args below meth c 0 0 (wE below args s D dA b0 ad S0 F) 2 D dA b0 ad S0 0 [some (.ref k), some (.ref 1)] [] h := by
  unfold fX4_readText at hf
  refine w_aload_n X dX4_readText_0 rfl rfl rfl ?_
  refine w_getI X dX4_readText_1 rfl fl_X4_57 hk.1 rfl ?_
  refine w_bipush X dX4_readText_4 rfl cb_6 ?_
  refine w_icmp_lt X dX4_readText_6 rfl (t := 15) rfl (fun hc => ?_) (fun hc => ?_)
  · have hf := wok_t hf hc
    refine w_aload_n X dX4_readText_15 rfl rfl rfl ?_
    obtain ⟨yr21, eyr21, hf⟩ := wok_b hf
    refine w_callV X dX4_readText_16 rfl vl_X4_118 (kX7_next l  eyr21) S0_1 (As := []) (st := []) rfl rfl (Nat.le_of_ble_eq_true rfl) ⟨Nat.le_of_ble_eq_true rfl, Nat.le_of_ble_eq_true rfl⟩ ⟨Nat.zero_le _, Nat.zero_le _⟩ (fun r h2 hF => ?_)
    obtain ⟨rfl, rfl⟩ := hF
    show wM p l e (wR 8) s m args below meth c 0 0 (wE below args s D dA b0 ad S0 F) 2 D dA b0 ad S0 19 [some (.ref k), some (.ref 1)] [] yr21
    refine w_aload_n X dX4_readText_19 rfl rfl rfl ?_
    refine w_getR X dX4_readText_20 rfl fl_X4_25 hk.1 rfl ?_
    refine w_aload_n X dX4_readText_23 rfl rfl rfl ?_
    refine w_getI X dX4_readText_24 rfl fl_X4_57 hk.1 rfl ?_
    refine w_aload_n X dX4_readText_27 rfl rfl rfl ?_
    refine w_aload_n X dX4_readText_28 rfl rfl rfl ?_
    obtain ⟨yr22, eyr22, hf⟩ := wok_b hf
    refine w_callV X dX4_readText_29 rfl vl_X4_121 (kX4_takeNewName l hk eyr22) hk.1 (As := [.ref 1]) (st := [.int (yr21.1 k 5), .ref (k + 5)]) rfl rfl (Nat.le_of_ble_eq_true rfl) ⟨Nat.le_of_ble_eq_true rfl, Nat.le_of_ble_eq_true rfl⟩ ⟨Nat.zero_le _, Nat.zero_le _⟩ (fun r h2 hF => ?_)
    obtain ⟨_, rfl, rfl, rfl⟩ := hF
    show wM p l e (wR 8) s m args below meth c 0 0 (wE below args s D dA b0 ad S0 F) 2 D dA b0 ad S0 32 [some (.ref k), some (.ref 1)] [.long yr22.1, .int (yr21.1 k 5), .ref (k + 5)] yr22.2
    obtain ⟨yhg23, hf⟩ := wok_g hf
    refine w_last X dX4_readText_32 rfl (j := (yr21.1 k 5).toNatClampNeg) rfl hk.2.2.2.2.2.1 yhg23 ?_
    refine w_nmh (fun yh24 eyh24 => ?_)
    have hf := wok_l hf eyh24
    refine w_aload_n X dX4_readText_33 rfl rfl rfl ?_
    refine w_getR X dX4_readText_34 rfl fl_X4_28 hk.1 rfl ?_
    refine w_aload_n X dX4_readText_37 rfl rfl rfl ?_
    refine w_getI X dX4_readText_38 rfl fl_X4_57 hk.1 rfl ?_
    refine w_aload_n X dX4_readText_41 rfl rfl rfl ?_
    obtain ⟨yr25, eyr25, hf⟩ := wok_b hf
    refine w_callS X dX4_readText_42 rfl sl_X4_150 (kX4_takeKind l  eyr25) (As := [.ref 1]) (st := [.int (yh24.1 k 5), .ref (k + 6)]) rfl rfl (Nat.le_of_ble_eq_true rfl) ⟨Nat.le_of_ble_eq_true rfl, Nat.le_of_ble_eq_true rfl⟩ ⟨Nat.zero_le _, Nat.zero_le _⟩ (fun r h2 hF => ?_)
    obtain ⟨_, rfl, rfl, rfl⟩ := hF
    show wM p l e (wR 8) s m args below meth c 0 0 (wE below args s D dA b0 ad S0 F) 2 D dA b0 ad S0 45 [some (.ref k), some (.ref 1)] [.int yr25.1, .int (yh24.1 k 5), .ref (k + 6)] yr25.2
    obtain ⟨yhg26, hf⟩ := wok_g hf
    refine w_iast X dX4_readText_45 rfl (j := (yh24.1 k 5).toNatClampNeg) rfl hk.2.2.2.2.2.2.1 yhg26 ?_
    refine w_nmh (fun yh27 eyh27 => ?_)
    have hf := wok_l hf eyh27
    refine w_aload_n X dX4_readText_46 rfl rfl rfl ?_
    refine w_getR X dX4_readText_47 rfl fl_X4_31 hk.1 rfl ?_
    refine w_aload_n X dX4_readText_50 rfl rfl rfl ?_
    refine w_getI X dX4_readText_51 rfl fl_X4_57 hk.1 rfl ?_
    refine w_aload_n X dX4_readText_54 rfl rfl rfl ?_
    obtain ⟨yr28, eyr28, hf⟩ := wok_b hf
    refine w_callS X dX4_readText_55 rfl sl_X4_153 (kX4_takeInk l  eyr28) (As := [.ref 1]) (st := [.int (yh27.1 k 5), .ref (k + 7)]) rfl rfl (Nat.le_of_ble_eq_true rfl) ⟨Nat.le_of_ble_eq_true rfl, Nat.le_of_ble_eq_true rfl⟩ ⟨Nat.zero_le _, Nat.zero_le _⟩ (fun r h2 hF => ?_)
    obtain ⟨_, rfl, rfl, rfl⟩ := hF
    show wM p l e (wR 8) s m args below meth c 0 0 (wE below args s D dA b0 ad S0 F) 2 D dA b0 ad S0 58 [some (.ref k), some (.ref 1)] [.int yr28.1, .int (yh27.1 k 5), .ref (k + 7)] yr28.2
    obtain ⟨yhg29, hf⟩ := wok_g hf
    refine w_iast X dX4_readText_58 rfl (j := (yh27.1 k 5).toNatClampNeg) rfl hk.2.2.2.2.2.2.2.1 yhg29 ?_
    refine w_nmh (fun yh30 eyh30 => ?_)
    have hf := wok_l hf eyh30
    refine w_aload_n X dX4_readText_59 rfl rfl rfl ?_
    refine w_ldcS X dX4_readText_60 rfl (i := 2) (tx := "lines") (by decide +kernel) ?_
    obtain ⟨yr31, eyr31, hf⟩ := wok_b hf
    refine w_callV X dX4_readText_62 rfl vl_X4_126 (kX7_takeWord l (by decide) eyr31) S0_1 (As := [.ref (100000 + 2)]) (st := []) rfl rfl (Nat.le_of_ble_eq_true rfl) ⟨Nat.le_of_ble_eq_true rfl, Nat.le_of_ble_eq_true rfl⟩ ⟨Nat.zero_le _, Nat.zero_le _⟩ (fun r h2 hF => ?_)
    obtain ⟨rfl, rfl⟩ := hF
    show wM p l e (wR 8) s m args below meth c 0 0 (wE below args s D dA b0 ad S0 F) 2 D dA b0 ad S0 65 [some (.ref k), some (.ref 1)] [] yr31
    refine w_aload_n X dX4_readText_65 rfl rfl rfl ?_
    refine w_getR X dX4_readText_66 rfl fl_X4_34 hk.1 rfl ?_
    refine w_aload_n X dX4_readText_69 rfl rfl rfl ?_
    refine w_getI X dX4_readText_70 rfl fl_X4_57 hk.1 rfl ?_
    refine w_aload_n X dX4_readText_73 rfl rfl rfl ?_
    refine w_iconst X dX4_readText_74 rfl ci_1 ?_
    refine w_bipush X dX4_readText_75 rfl cb_6 ?_
    obtain ⟨yr32, eyr32, hf⟩ := wok_b hf
    refine w_callV X dX4_readText_77 rfl vl_X4_130 (kX7_takeNumber l  eyr32) S0_1 (As := [.int 1, .int 6]) (st := [.int (yr31.1 k 5), .ref (k + 8)]) rfl rfl (Nat.le_of_ble_eq_true rfl) ⟨Nat.le_of_ble_eq_true rfl, Nat.le_of_ble_eq_true rfl⟩ ⟨Nat.zero_le _, Nat.zero_le _⟩ (fun r h2 hF => ?_)
    obtain ⟨_, rfl, rfl, rfl⟩ := hF
    show wM p l e (wR 8) s m args below meth c 0 0 (wE below args s D dA b0 ad S0 F) 2 D dA b0 ad S0 80 [some (.ref k), some (.ref 1)] [.int yr32.1, .int (yr31.1 k 5), .ref (k + 8)] yr32.2
    obtain ⟨yhg33, hf⟩ := wok_g hf
    refine w_iast X dX4_readText_80 rfl (j := (yr31.1 k 5).toNatClampNeg) rfl hk.2.2.2.2.2.2.2.2.1 yhg33 ?_
    refine w_nmh (fun yh34 eyh34 => ?_)
    have hf := wok_l hf eyh34
    refine w_aload_n X dX4_readText_81 rfl rfl rfl ?_
    refine w_bipush X dX4_readText_82 rfl cb_59 ?_
    obtain ⟨yr35, eyr35, hf⟩ := wok_b hf
    refine w_callV X dX4_readText_84 rfl vl_X4_135 (kX7_takeSign l  eyr35) S0_1 (As := [.int 59]) (st := []) rfl rfl (Nat.le_of_ble_eq_true rfl) ⟨Nat.le_of_ble_eq_true rfl, Nat.le_of_ble_eq_true rfl⟩ ⟨Nat.zero_le _, Nat.zero_le _⟩ (fun r h2 hF => ?_)
    obtain ⟨rfl, rfl⟩ := hF
    show wM p l e (wR 8) s m args below meth c 0 0 (wE below args s D dA b0 ad S0 F) 2 D dA b0 ad S0 87 [some (.ref k), some (.ref 1)] [] yr35
    refine w_aload_n X dX4_readText_87 rfl rfl rfl ?_
    refine w_dup X dX4_readText_88 rfl rfl ?_
    refine w_getI X dX4_readText_89 rfl fl_X4_57 hk.1 rfl ?_
    refine w_iconst X dX4_readText_92 rfl ci_1 ?_
    refine w_iadd X dX4_readText_93 rfl ?_
    refine w_putI X dX4_readText_94 rfl fp_X4_57 hk.1 rfl ?_
    refine w_nmh (fun yh36 eyh36 => ?_)
    have hf := wok_l hf eyh36
    exact w_vret X dX4_readText_97 hr (hT _ (wok_s hf))
  · have hf := wok_f hf hc
    refine w_aload_n X dX4_readText_9 rfl rfl rfl ?_
    refine w_iconst X dX4_readText_10 rfl ci_5 ?_
    obtain ⟨yr37, eyr37, hf⟩ := wok_b hf
    refine w_callV X dX4_readText_11 rfl vl_X4_111 (kX7_fail l  eyr37) S0_1 (As := [.int 5]) (st := []) rfl rfl (Nat.le_of_ble_eq_true rfl) ⟨Nat.le_of_ble_eq_true rfl, Nat.le_of_ble_eq_true rfl⟩ ⟨Nat.zero_le _, Nat.zero_le _⟩ (fun r h2 hF => ?_)
    obtain ⟨rfl, rfl⟩ := hF
    show wM p l e (wR 8) s m args below meth c 0 0 (wE below args s D dA b0 ad S0 F) 2 D dA b0 ad S0 14 [some (.ref k), some (.ref 1)] [] yr37
    exact w_vret X dX4_readText_14 hr (hT _ (wok_s hf))
set_option maxRecDepth 4000 in
theorem kX4_readText (l : Launch) {h : wSt} {k : Nat} (hk : wI4 k) {res : wSt} (hf : fX4_readText h k = some res) : wC l yX4_readText cX4_readText 2 none 8 S0 [.ref k, .ref 1] h (wFV (fun b => res = b)) := by
  refine w_meth2 0 (by decide) (Nat.le_of_ble_eq_true rfl) (ls := [some (.ref k), some (.ref 1)]) rfl ?_
  intro p e s m args below meth c D dA b0 ad X hr
  exact pX4_readText_b0 X hr hk (K := fun z => res = z) (fun h2 hz => ⟨rfl, hz⟩) ⟨res, hf, rfl⟩
set_option maxRecDepth 4000 in
theorem pX4_readDamp_b43_19 (X : wCx p s m args meth c RX4 cX4_readDamp 3 D dA b0 ad) (hr : meth.sig.returnType = none) {h : wSt} {k : Nat} {v2 : Int32} (hk : wI4 k) {K : (Int32 × wSt) ⊕ ((wSt)) → Prop} (hN : ∀ (n2 : Int32) (nh : wSt), K (.inl (n2, nh)) → wM p l e (wR 7) s m args below meth c 0 0 (wE below args s D dA b0 ad S0 F) 3 D dA b0 ad S0 19 [some (.ref k), some (.ref 1), some (.int n2)] [] nh) (hX0 : ∀ (nh : wSt), K (.inr nh) → wM p l e (wR 7) s m args below meth c 0 0 (wE below args s D dA b0 ad S0 F) 3 D dA b0 ad S0 69 [none, some (.ref 1), none] [] nh) (hf : wok (fX4_readDamp_b43_19 h k v2) K) : wM p l e (wR 7) s m args below meth c 0 0 (wE below args s D dA b0 ad S0 F) 3 D dA b0 ad S0 43 [some (.ref k), some (.ref 1), some (.int v2)] [] h := by
  unfold fX4_readDamp_b43_19 at hf
  refine w_aload_n X dX4_readDamp_43 rfl rfl rfl ?_
  refine w_getR X dX4_readDamp_44 rfl fl_X4_37 hk.1 rfl ?_
  refine w_iload_n X dX4_readDamp_47 rfl rfl rfl ?_
  refine w_aload_n X dX4_readDamp_48 rfl rfl rfl ?_
  refine w_iconst X dX4_readDamp_49 rfl ci_0 ?_
  refine w_bipush X dX4_readDamp_50 rfl cb_9 ?_
  obtain ⟨yr23, eyr23, hf⟩ := wok_b hf
  refine w_callV X dX4_readDamp_52 rfl vl_X4_130 (kX7_takeNumber l  eyr23) S0_1 (As := [.int 0, .int 9]) (st := [.int v2, .ref (k + 9)]) rfl rfl (Nat.le_of_ble_eq_true rfl) ⟨Nat.le_of_ble_eq_true rfl, Nat.le_of_ble_eq_true rfl⟩ ⟨Nat.zero_le _, Nat.zero_le _⟩ (fun r h2 hF => ?_)
  obtain ⟨_, rfl, rfl, rfl⟩ := hF
  show wM p l e (wR 7) s m args below meth c 0 0 (wE below args s D dA b0 ad S0 F) 3 D dA b0 ad S0 55 [some (.ref k), some (.ref 1), some (.int v2)] [.int yr23.1, .int v2, .ref (k + 9)] yr23.2
  obtain ⟨yhg24, hf⟩ := wok_g hf
  refine w_iast X dX4_readDamp_55 rfl (j := v2.toNatClampNeg) rfl hk.2.2.2.2.2.2.2.2.2.1 yhg24 ?_
  refine w_nmh (fun yh25 eyh25 => ?_)
  have hf := wok_l hf eyh25
  refine w_aload_n X dX4_readDamp_56 rfl rfl rfl ?_
  refine w_iload_n X dX4_readDamp_57 rfl rfl rfl ?_
  refine w_iconst X dX4_readDamp_58 rfl ci_1 ?_
  refine w_iadd X dX4_readDamp_59 rfl ?_
  refine w_putI X dX4_readDamp_60 rfl fp_X4_60 hk.1 rfl ?_
  refine w_nmh (fun yh26 eyh26 => ?_)
  have hf := wok_l hf eyh26
  refine w_iinc X dX4_readDamp_63 rfl (v := (v2 + 1)) rfl rfl (Nat.le_of_ble_eq_true rfl) (cinc_1 _) (ls' := [some (.ref k), some (.ref 1), some (.int (v2 + 1))]) rfl ?_
  refine w_goto X dX4_readDamp_66 (t := 19) rfl ?_
  exact hN _ _ (wok_s hf)
set_option maxRecDepth 4000 in
theorem pX4_readDamp_l19b (X : wCx p s m args meth c RX4 cX4_readDamp 3 D dA b0 ad) (hr : meth.sig.returnType = none) {h : wSt} {k : Nat} {v2 : Int32} (hk : wI4 k) {K : (Int32 × wSt) ⊕ ((wSt)) → Prop} (hN : ∀ (n2 : Int32) (nh : wSt), K (.inl (n2, nh)) → wM p l e (wR 7) s m args below meth c 0 0 (wE below args s D dA b0 ad S0 F) 3 D dA b0 ad S0 19 [some (.ref k), some (.ref 1), some (.int n2)] [] nh) (hX0 : ∀ (nh : wSt), K (.inr nh) → wM p l e (wR 7) s m args below meth c 0 0 (wE below args s D dA b0 ad S0 F) 3 D dA b0 ad S0 69 [none, some (.ref 1), none] [] nh) (hf : wok (fX4_readDamp_l19 h k v2) K) : wM p l e (wR 7) s m args below meth c 0 0 (wE below args s D dA b0 ad S0 F) 3 D dA b0 ad S0 19 [some (.ref k), some (.ref 1), some (.int v2)] [] h := by
  unfold fX4_readDamp_l19 at hf
  refine w_iload_n X dX4_readDamp_19 rfl rfl rfl ?_
  refine w_bipush X dX4_readDamp_20 rfl cb_12 ?_
  refine w_icmp_ge X dX4_readDamp_22 rfl (t := 69) rfl (fun hc => ?_) (fun hc => ?_)
  · have hf := wok_t hf hc
    refine w_fg (ls2 := [none, some (.ref 1), none]) ⟨rfl, trivial⟩ ?_
    exact hX0 _ (wok_s hf)
  · have hf := wok_f hf hc
    refine w_aload_n X dX4_readDamp_25 rfl rfl rfl ?_
    obtain ⟨yr22, eyr22, hf⟩ := wok_b hf
    refine w_callV X dX4_readDamp_26 rfl vl_X4_75 (kX7_isSound l  eyr22) S0_1 (As := []) (st := []) rfl rfl (Nat.le_of_ble_eq_true rfl) ⟨Nat.le_of_ble_eq_true rfl, Nat.le_of_ble_eq_true rfl⟩ ⟨Nat.zero_le _, Nat.zero_le _⟩ (fun r h2 hF => ?_)
    obtain ⟨_, rfl, rfl, rfl⟩ := hF
    show wM p l e (wR 7) s m args below meth c 0 0 (wE below args s D dA b0 ad S0 F) 3 D dA b0 ad S0 29 [some (.ref k), some (.ref 1), some (.int v2)] [.int (wb yr22)] h
    refine w_if_eq X dX4_readDamp_29 rfl (t := 69) rfl (fun hc => ?_) (fun hc => ?_)
    · have hf := wok_f hf (wb_0 hc)
      refine w_fg (ls2 := [none, some (.ref 1), none]) ⟨rfl, trivial⟩ ?_
      exact hX0 _ (wok_s hf)
    · have hf := wok_t hf (wb_n0 hc)
      refine w_iload_n X dX4_readDamp_32 rfl rfl rfl ?_
      refine w_if_eq X dX4_readDamp_33 rfl (t := 43) rfl (fun hc => ?_) (fun hc => ?_)
      · have hf := wok_t hf hc
        exact pX4_readDamp_b43_19 X hr hk hN hX0 hf
      · have hf := wok_f hf hc
        refine w_aload_n X dX4_readDamp_36 rfl rfl rfl ?_
        obtain ⟨yr27, eyr27, hf⟩ := wok_b hf
        refine w_callV X dX4_readDamp_37 rfl vl_X4_168 (kX7_isNumber l  eyr27) S0_1 (As := []) (st := []) rfl rfl (Nat.le_of_ble_eq_true rfl) ⟨Nat.le_of_ble_eq_true rfl, Nat.le_of_ble_eq_true rfl⟩ ⟨Nat.zero_le _, Nat.zero_le _⟩ (fun r h2 hF => ?_)
        obtain ⟨_, rfl, rfl, rfl⟩ := hF
        show wM p l e (wR 7) s m args below meth c 0 0 (wE below args s D dA b0 ad S0 F) 3 D dA b0 ad S0 40 [some (.ref k), some (.ref 1), some (.int v2)] [.int (wb yr27)] h
        refine w_if_eq X dX4_readDamp_40 rfl (t := 69) rfl (fun hc => ?_) (fun hc => ?_)
        · have hf := wok_f hf (wb_0 hc)
          refine w_fg (ls2 := [none, some (.ref 1), none]) ⟨rfl, trivial⟩ ?_
          exact hX0 _ (wok_s hf)
        · have hf := wok_t hf (wb_n0 hc)
          exact pX4_readDamp_b43_19 X hr hk hN hX0 hf
set_option maxRecDepth 4000 in
theorem pX4_readDamp_l19 (X : wCx p s m args meth c RX4 cX4_readDamp 3 D dA b0 ad) (hr : meth.sig.returnType = none)  {k : Nat} (hk : wI4 k) {KE : (wSt) → Prop} (hX0 : ∀ (nh : wSt), KE (nh) → wM p l e (wR 7) s m args below meth c 0 0 (wE below args s D dA b0 ad S0 F) 3 D dA b0 ad S0 69 [none, some (.ref 1), none] [] nh) : ∀ (n : Nat) (v2 : Int32) (h : wSt), wok (wit (fun v : (Int32 × wSt) => fX4_readDamp_l19 v.2 k v.1) n (v2, h)) KE → wM p l e (wR 7) s m args below meth c 0 0 (wE below args s D dA b0 ad S0 F) 3 D dA b0 ad S0 19 [some (.ref k), some (.ref 1), some (.int v2)] [] h := by
  have key := wit_M (b := (fun v : (Int32 × wSt) => fX4_readDamp_l19 v.2 k v.1)) (KE := KE) (G := fun v => wM p l e (wR 7) s m args below meth c 0 0 (wE below args s D dA b0 ad S0 F) 3 D dA b0 ad S0 19 [some (.ref k), some (.ref 1), some (.int v.1)] [] v.2) (fun v K hN hE hf => pX4_readDamp_l19b X hr hk (fun n2 nh hz => hN (n2, nh) hz) (fun z0 hz => hX0 z0 (hE _ hz)) hf)
  exact fun n v2 h hf => key n (v2, h) hf
set_option maxRecDepth 4000 in
theorem pX4_readDamp_b91 (X : wCx p s m args meth c RX4 cX4_readDamp 3 D dA b0 ad) (hr : meth.sig.returnType = none) {h : wSt} {k : Nat} (hk : wI4 k) {K : wSt → Prop} (hT : ∀ (h2 : wSt), K h2 → F none h2)  (hf : wok (fX4_readDamp_b91 h k) K) : wM p l e (wR 7) s m args below meth c 0 0 (wE below args s D dA b0 ad S0 F) 3 D dA b0 ad S0 91 [none, some (.ref 1), none] [] h := by
  unfold fX4_readDamp_b91 at hf
  refine w_aload_n X dX4_readDamp_91 rfl rfl rfl ?_
  refine w_bipush X dX4_readDamp_92 rfl cb_59 ?_
  obtain ⟨yr31, eyr31, hf⟩ := wok_b hf
  refine w_callV X dX4_readDamp_94 rfl vl_X4_135 (kX7_takeSign l  eyr31) S0_1 (As := [.int 59]) (st := []) rfl rfl (Nat.le_of_ble_eq_true rfl) ⟨Nat.le_of_ble_eq_true rfl, Nat.le_of_ble_eq_true rfl⟩ ⟨Nat.zero_le _, Nat.zero_le _⟩ (fun r h2 hF => ?_)
  obtain ⟨rfl, rfl⟩ := hF
  show wM p l e (wR 7) s m args below meth c 0 0 (wE below args s D dA b0 ad S0 F) 3 D dA b0 ad S0 97 [none, some (.ref 1), none] [] yr31
  exact w_vret X dX4_readDamp_97 hr (hT _ (wok_s hf))
set_option maxRecDepth 4000 in
theorem pX4_readDamp_b0 (X : wCx p s m args meth c RX4 cX4_readDamp 3 D dA b0 ad) (hr : meth.sig.returnType = none) {h : wSt} {k : Nat} (hk : wI4 k) {K : wSt → Prop} (hT : ∀ (h2 : wSt), K h2 → F none h2) (hf : wok (fX4_readDamp h k) K) : wM p l e (wR 7) s m args below meth c 0 0 (wE below args s D dA b0 ad S0 F) 3 D dA b0 ad S0 0 [some (.ref k), some (.ref 1), none] [] h := by
  unfold fX4_readDamp at hf
  refine w_aload_n X dX4_readDamp_0 rfl rfl rfl ?_
  refine w_getI X dX4_readDamp_1 rfl fl_X4_60 hk.1 rfl ?_
  refine w_if_le X dX4_readDamp_4 rfl (t := 13) rfl (fun hc => ?_) (fun hc => ?_)
  · have hf := wok_t hf hc
    refine w_aload_n X dX4_readDamp_13 rfl rfl rfl ?_
    obtain ⟨yr21, eyr21, hf⟩ := wok_b hf
    refine w_callV X dX4_readDamp_14 rfl vl_X4_118 (kX7_next l  eyr21) S0_1 (As := []) (st := []) rfl rfl (Nat.le_of_ble_eq_true rfl) ⟨Nat.le_of_ble_eq_true rfl, Nat.le_of_ble_eq_true rfl⟩ ⟨Nat.zero_le _, Nat.zero_le _⟩ (fun r h2 hF => ?_)
    obtain ⟨rfl, rfl⟩ := hF
    show wM p l e (wR 7) s m args below meth c 0 0 (wE below args s D dA b0 ad S0 F) 3 D dA b0 ad S0 17 [some (.ref k), some (.ref 1), none] [] yr21
    refine w_iconst X dX4_readDamp_17 rfl ci_0 ?_
    refine w_istore_n X dX4_readDamp_18 rfl rfl rfl (Nat.le_of_ble_eq_true rfl) (ls' := [some (.ref k), some (.ref 1), some (.int 0)]) rfl ?_
    obtain ⟨ye28, hye28, hf⟩ := wok_b hf
    refine pX4_readDamp_l19 X hr hk (KE := fun z => ye28 = z) ?_ 3000 _ _ ⟨ye28, hye28, rfl⟩
    · intro yz29 hz
      subst hz
      refine w_aload_n X dX4_readDamp_69 rfl rfl rfl ?_
      obtain ⟨yr30, eyr30, hf⟩ := wok_b hf
      refine w_callV X dX4_readDamp_70 rfl vl_X4_168 (kX7_isNumber l  eyr30) S0_1 (As := []) (st := []) rfl rfl (Nat.le_of_ble_eq_true rfl) ⟨Nat.le_of_ble_eq_true rfl, Nat.le_of_ble_eq_true rfl⟩ ⟨Nat.zero_le _, Nat.zero_le _⟩ (fun r h2 hF => ?_)
      obtain ⟨_, rfl, rfl, rfl⟩ := hF
      show wM p l e (wR 7) s m args below meth c 0 0 (wE below args s D dA b0 ad S0 F) 3 D dA b0 ad S0 73 [none, some (.ref 1), none] [.int (wb yr30)] ye28
      refine w_if_eq X dX4_readDamp_73 rfl (t := 91) rfl (fun hc => ?_) (fun hc => ?_)
      · have hf := wok_f hf (wb_0 hc)
        exact pX4_readDamp_b91 X hr hk hT hf
      · have hf := wok_t hf (wb_n0 hc)
        refine w_aload_n X dX4_readDamp_76 rfl rfl rfl ?_
        refine w_iconst X dX4_readDamp_77 rfl ci_0 ?_
        refine w_bipush X dX4_readDamp_78 rfl cb_9 ?_
        obtain ⟨yr32, eyr32, hf⟩ := wok_b hf
        refine w_callV X dX4_readDamp_80 rfl vl_X4_143 (kX7_isNumberWithin l  eyr32) S0_1 (As := [.int 0, .int 9]) (st := []) rfl rfl (Nat.le_of_ble_eq_true rfl) ⟨Nat.le_of_ble_eq_true rfl, Nat.le_of_ble_eq_true rfl⟩ ⟨Nat.zero_le _, Nat.zero_le _⟩ (fun r h2 hF => ?_)
        obtain ⟨_, rfl, rfl, rfl⟩ := hF
        show wM p l e (wR 7) s m args below meth c 0 0 (wE below args s D dA b0 ad S0 F) 3 D dA b0 ad S0 83 [none, some (.ref 1), none] [.int (wb yr32.1)] yr32.2
        refine w_if_eq X dX4_readDamp_83 rfl (t := 91) rfl (fun hc => ?_) (fun hc => ?_)
        · have hf := wok_f hf (wb_0 hc)
          exact pX4_readDamp_b91 X hr hk hT hf
        · have hf := wok_t hf (wb_n0 hc)
          refine w_aload_n X dX4_readDamp_86 rfl rfl rfl ?_
          refine w_iconst X dX4_readDamp_87 rfl ci_5 ?_
          obtain ⟨yr33, eyr33, hf⟩ := wok_b hf
          refine w_callV X dX4_readDamp_88 rfl vl_X4_111 (kX7_fail l  eyr33) S0_1 (As := [.int 5]) (st := []) rfl rfl (Nat.le_of_ble_eq_true rfl) ⟨Nat.le_of_ble_eq_true rfl, Nat.le_of_ble_eq_true rfl⟩ ⟨Nat.zero_le _, Nat.zero_le _⟩ (fun r h2 hF => ?_)
          obtain ⟨rfl, rfl⟩ := hF
          show wM p l e (wR 7) s m args below meth c 0 0 (wE below args s D dA b0 ad S0 F) 3 D dA b0 ad S0 91 [none, some (.ref 1), none] [] yr33
          exact pX4_readDamp_b91 X hr hk hT hf
  · have hf := wok_f hf hc
    refine w_aload_n X dX4_readDamp_7 rfl rfl rfl ?_
    refine w_iconst X dX4_readDamp_8 rfl ci_3 ?_
    obtain ⟨yr34, eyr34, hf⟩ := wok_b hf
    refine w_callV X dX4_readDamp_9 rfl vl_X4_111 (kX7_fail l  eyr34) S0_1 (As := [.int 3]) (st := []) rfl rfl (Nat.le_of_ble_eq_true rfl) ⟨Nat.le_of_ble_eq_true rfl, Nat.le_of_ble_eq_true rfl⟩ ⟨Nat.zero_le _, Nat.zero_le _⟩ (fun r h2 hF => ?_)
    obtain ⟨rfl, rfl⟩ := hF
    show wM p l e (wR 7) s m args below meth c 0 0 (wE below args s D dA b0 ad S0 F) 3 D dA b0 ad S0 12 [some (.ref k), some (.ref 1), none] [] yr34
    exact w_vret X dX4_readDamp_12 hr (hT _ (wok_s hf))
set_option maxRecDepth 4000 in
theorem kX4_readDamp (l : Launch) {h : wSt} {k : Nat} (hk : wI4 k) {res : wSt} (hf : fX4_readDamp h k = some res) : wC l yX4_readDamp cX4_readDamp 3 none 7 S0 [.ref k, .ref 1] h (wFV (fun b => res = b)) := by
  refine w_meth2 1 (by decide) (Nat.le_of_ble_eq_true rfl) (ls := [some (.ref k), some (.ref 1), none]) rfl ?_
  intro p e s m args below meth c D dA b0 ad X hr
  exact pX4_readDamp_b0 X hr hk (K := fun z => res = z) (fun h2 hz => ⟨rfl, hz⟩) ⟨res, hf, rfl⟩
set_option maxRecDepth 4000 in
theorem pX4_readFrom_b142_28 (X : wCx p s m args meth c RX4 cX4_readFrom 3 D dA b0 ad) (hr : meth.sig.returnType = (some .int)) {h : wSt} {k : Nat} {v2 : Int32} (hk : wI4 k) {K : (Int32 × wSt) ⊕ ((wSt)) → Prop} (hN : ∀ (n2 : Int32) (nh : wSt), K (.inl (n2, nh)) → wM p l e (wR 73) s m args below meth c 0 0 (wE below args s D dA b0 ad S0 F) 3 D dA b0 ad S0 28 [some (.ref k), some (.ref 1), some (.int n2)] [] nh) (hX0 : ∀ (nh : wSt), K (.inr nh) → wM p l e (wR 73) s m args below meth c 0 0 (wE below args s D dA b0 ad S0 F) 3 D dA b0 ad S0 148 [none, some (.ref 1), none] [] nh) (hf : wok (fX4_readFrom_b142_28 h k v2) K) : wM p l e (wR 73) s m args below meth c 0 0 (wE below args s D dA b0 ad S0 F) 3 D dA b0 ad S0 142 [some (.ref k), some (.ref 1), some (.int v2)] [] h := by
  unfold fX4_readFrom_b142_28 at hf
  refine w_iinc X dX4_readFrom_142 rfl (v := (v2 + 1)) rfl rfl (Nat.le_of_ble_eq_true rfl) (cinc_1 _) (ls' := [some (.ref k), some (.ref 1), some (.int (v2 + 1))]) rfl ?_
  refine w_goto X dX4_readFrom_145 (t := 28) rfl ?_
  exact hN _ _ (wok_s hf)
set_option maxRecDepth 4000 in
theorem pX4_readFrom_l28b (X : wCx p s m args meth c RX4 cX4_readFrom 3 D dA b0 ad) (hr : meth.sig.returnType = (some .int)) {h : wSt} {k : Nat} {v2 : Int32} (hk : wI4 k) {K : (Int32 × wSt) ⊕ ((wSt)) → Prop} (hN : ∀ (n2 : Int32) (nh : wSt), K (.inl (n2, nh)) → wM p l e (wR 73) s m args below meth c 0 0 (wE below args s D dA b0 ad S0 F) 3 D dA b0 ad S0 28 [some (.ref k), some (.ref 1), some (.int n2)] [] nh) (hX0 : ∀ (nh : wSt), K (.inr nh) → wM p l e (wR 73) s m args below meth c 0 0 (wE below args s D dA b0 ad S0 F) 3 D dA b0 ad S0 148 [none, some (.ref 1), none] [] nh) (hf : wok (fX4_readFrom_l28 h k v2) K) : wM p l e (wR 73) s m args below meth c 0 0 (wE below args s D dA b0 ad S0 F) 3 D dA b0 ad S0 28 [some (.ref k), some (.ref 1), some (.int v2)] [] h := by
  unfold fX4_readFrom_l28 at hf
  refine w_iload_n X dX4_readFrom_28 rfl rfl rfl ?_
  refine w_sipush X dX4_readFrom_29 rfl cs_1000 ?_
  refine w_icmp_ge X dX4_readFrom_32 rfl (t := 148) rfl (fun hc => ?_) (fun hc => ?_)
  · have hf := wok_t hf hc
    refine w_fg (ls2 := [none, some (.ref 1), none]) ⟨rfl, trivial⟩ ?_
    exact hX0 _ (wok_s hf)
  · have hf := wok_f hf hc
    refine w_aload_n X dX4_readFrom_35 rfl rfl rfl ?_
    obtain ⟨yr26, eyr26, hf⟩ := wok_b hf
    refine w_callV X dX4_readFrom_36 rfl vl_X4_75 (kX7_isSound l  eyr26) S0_1 (As := []) (st := []) rfl rfl (Nat.le_of_ble_eq_true rfl) ⟨Nat.le_of_ble_eq_true rfl, Nat.le_of_ble_eq_true rfl⟩ ⟨Nat.zero_le _, Nat.zero_le _⟩ (fun r h2 hF => ?_)
    obtain ⟨_, rfl, rfl, rfl⟩ := hF
    show wM p l e (wR 73) s m args below meth c 0 0 (wE below args s D dA b0 ad S0 F) 3 D dA b0 ad S0 39 [some (.ref k), some (.ref 1), some (.int v2)] [.int (wb yr26)] h
    refine w_if_eq X dX4_readFrom_39 rfl (t := 148) rfl (fun hc => ?_) (fun hc => ?_)
    · have hf := wok_f hf (wb_0 hc)
      refine w_fg (ls2 := [none, some (.ref 1), none]) ⟨rfl, trivial⟩ ?_
      exact hX0 _ (wok_s hf)
    · have hf := wok_t hf (wb_n0 hc)
      refine w_aload_n X dX4_readFrom_42 rfl rfl rfl ?_
      obtain ⟨yr27, eyr27, hf⟩ := wok_b hf
      refine w_callV X dX4_readFrom_43 rfl vl_X4_79 (kX7_isAtEnd l  eyr27) S0_1 (As := []) (st := []) rfl rfl (Nat.le_of_ble_eq_true rfl) ⟨Nat.le_of_ble_eq_true rfl, Nat.le_of_ble_eq_true rfl⟩ ⟨Nat.zero_le _, Nat.zero_le _⟩ (fun r h2 hF => ?_)
      obtain ⟨_, rfl, rfl, rfl⟩ := hF
      show wM p l e (wR 73) s m args below meth c 0 0 (wE below args s D dA b0 ad S0 F) 3 D dA b0 ad S0 46 [some (.ref k), some (.ref 1), some (.int v2)] [.int (wb yr27)] h
      refine w_if_ne X dX4_readFrom_46 rfl (t := 148) rfl (fun hc => ?_) (fun hc => ?_)
      · have hf := wok_t hf (wb_n0 hc)
        refine w_fg (ls2 := [none, some (.ref 1), none]) ⟨rfl, trivial⟩ ?_
        exact hX0 _ (wok_s hf)
      · have hf := wok_f hf (wb_0 hc)
        refine w_aload_n X dX4_readFrom_49 rfl rfl rfl ?_
        refine w_ldcS X dX4_readFrom_50 rfl (i := 1) (tx := "skin") (by decide +kernel) ?_
        obtain ⟨yr28, eyr28, hf⟩ := wok_b hf
        refine w_callV X dX4_readFrom_52 rfl vl_X4_84 (kX7_isWord l (by decide) eyr28) S0_1 (As := [.ref (100000 + 1)]) (st := []) rfl rfl (Nat.le_of_ble_eq_true rfl) ⟨Nat.le_of_ble_eq_true rfl, Nat.le_of_ble_eq_true rfl⟩ ⟨Nat.zero_le _, Nat.zero_le _⟩ (fun r h2 hF => ?_)
        obtain ⟨_, rfl, rfl, rfl⟩ := hF
        show wM p l e (wR 73) s m args below meth c 0 0 (wE below args s D dA b0 ad S0 F) 3 D dA b0 ad S0 55 [some (.ref k), some (.ref 1), some (.int v2)] [.int (wb yr28)] h
        refine w_if_eq X dX4_readFrom_55 rfl (t := 66) rfl (fun hc => ?_) (fun hc => ?_)
        · have hf := wok_f hf (wb_0 hc)
          refine w_aload_n X dX4_readFrom_66 rfl rfl rfl ?_
          refine w_ldcS X dX4_readFrom_67 rfl (i := 4) (tx := "hole") (by decide +kernel) ?_
          obtain ⟨yr29, eyr29, hf⟩ := wok_b hf
          refine w_callV X dX4_readFrom_69 rfl vl_X4_84 (kX7_isWord l (by decide) eyr29) S0_1 (As := [.ref (100000 + 4)]) (st := []) rfl rfl (Nat.le_of_ble_eq_true rfl) ⟨Nat.le_of_ble_eq_true rfl, Nat.le_of_ble_eq_true rfl⟩ ⟨Nat.zero_le _, Nat.zero_le _⟩ (fun r h2 hF => ?_)
          obtain ⟨_, rfl, rfl, rfl⟩ := hF
          show wM p l e (wR 73) s m args below meth c 0 0 (wE below args s D dA b0 ad S0 F) 3 D dA b0 ad S0 72 [some (.ref k), some (.ref 1), some (.int v2)] [.int (wb yr29)] h
          refine w_if_eq X dX4_readFrom_72 rfl (t := 83) rfl (fun hc => ?_) (fun hc => ?_)
          · have hf := wok_f hf (wb_0 hc)
            refine w_aload_n X dX4_readFrom_83 rfl rfl rfl ?_
            refine w_ldcS X dX4_readFrom_84 rfl (i := 5) (tx := "text") (by decide +kernel) ?_
            obtain ⟨yr30, eyr30, hf⟩ := wok_b hf
            refine w_callV X dX4_readFrom_86 rfl vl_X4_84 (kX7_isWord l (by decide) eyr30) S0_1 (As := [.ref (100000 + 5)]) (st := []) rfl rfl (Nat.le_of_ble_eq_true rfl) ⟨Nat.le_of_ble_eq_true rfl, Nat.le_of_ble_eq_true rfl⟩ ⟨Nat.zero_le _, Nat.zero_le _⟩ (fun r h2 hF => ?_)
            obtain ⟨_, rfl, rfl, rfl⟩ := hF
            show wM p l e (wR 73) s m args below meth c 0 0 (wE below args s D dA b0 ad S0 F) 3 D dA b0 ad S0 89 [some (.ref k), some (.ref 1), some (.int v2)] [.int (wb yr30)] h
            refine w_if_eq X dX4_readFrom_89 rfl (t := 100) rfl (fun hc => ?_) (fun hc => ?_)
            · have hf := wok_f hf (wb_0 hc)
              refine w_aload_n X dX4_readFrom_100 rfl rfl rfl ?_
              refine w_ldcS X dX4_readFrom_101 rfl (i := 6) (tx := "damp") (by decide +kernel) ?_
              obtain ⟨yr31, eyr31, hf⟩ := wok_b hf
              refine w_callV X dX4_readFrom_103 rfl vl_X4_84 (kX7_isWord l (by decide) eyr31) S0_1 (As := [.ref (100000 + 6)]) (st := []) rfl rfl (Nat.le_of_ble_eq_true rfl) ⟨Nat.le_of_ble_eq_true rfl, Nat.le_of_ble_eq_true rfl⟩ ⟨Nat.zero_le _, Nat.zero_le _⟩ (fun r h2 hF => ?_)
              obtain ⟨_, rfl, rfl, rfl⟩ := hF
              show wM p l e (wR 73) s m args below meth c 0 0 (wE below args s D dA b0 ad S0 F) 3 D dA b0 ad S0 106 [some (.ref k), some (.ref 1), some (.int v2)] [.int (wb yr31)] h
              refine w_if_eq X dX4_readFrom_106 rfl (t := 117) rfl (fun hc => ?_) (fun hc => ?_)
              · have hf := wok_f hf (wb_0 hc)
                refine w_aload_n X dX4_readFrom_117 rfl rfl rfl ?_
                refine w_ldcS X dX4_readFrom_118 rfl (i := 7) (tx := "shows") (by decide +kernel) ?_
                obtain ⟨yr32, eyr32, hf⟩ := wok_b hf
                refine w_callV X dX4_readFrom_120 rfl vl_X4_84 (kX7_isWord l (by decide) eyr32) S0_1 (As := [.ref (100000 + 7)]) (st := []) rfl rfl (Nat.le_of_ble_eq_true rfl) ⟨Nat.le_of_ble_eq_true rfl, Nat.le_of_ble_eq_true rfl⟩ ⟨Nat.zero_le _, Nat.zero_le _⟩ (fun r h2 hF => ?_)
                obtain ⟨_, rfl, rfl, rfl⟩ := hF
                show wM p l e (wR 73) s m args below meth c 0 0 (wE below args s D dA b0 ad S0 F) 3 D dA b0 ad S0 123 [some (.ref k), some (.ref 1), some (.int v2)] [.int (wb yr32)] h
                refine w_if_eq X dX4_readFrom_123 rfl (t := 137) rfl (fun hc => ?_) (fun hc => ?_)
                · have hf := wok_f hf (wb_0 hc)
                  refine w_aload_n X dX4_readFrom_137 rfl rfl rfl ?_
                  refine w_iconst X dX4_readFrom_138 rfl ci_1 ?_
                  obtain ⟨yr33, eyr33, hf⟩ := wok_b hf
                  refine w_callV X dX4_readFrom_139 rfl vl_X4_111 (kX7_fail l  eyr33) S0_1 (As := [.int 1]) (st := []) rfl rfl (Nat.le_of_ble_eq_true rfl) ⟨Nat.le_of_ble_eq_true rfl, Nat.le_of_ble_eq_true rfl⟩ ⟨Nat.zero_le _, Nat.zero_le _⟩ (fun r h2 hF => ?_)
                  obtain ⟨rfl, rfl⟩ := hF
                  show wM p l e (wR 73) s m args below meth c 0 0 (wE below args s D dA b0 ad S0 F) 3 D dA b0 ad S0 142 [some (.ref k), some (.ref 1), some (.int v2)] [] yr33
                  exact pX4_readFrom_b142_28 X hr hk hN hX0 hf
                · have hf := wok_t hf (wb_n0 hc)
                  refine w_aload_n X dX4_readFrom_126 rfl rfl rfl ?_
                  refine w_getR X dX4_readFrom_127 rfl fl_X4_43 hk.1 rfl ?_
                  refine w_aload_n X dX4_readFrom_130 rfl rfl rfl ?_
                  obtain ⟨yr34, eyr34, hf⟩ := wok_b hf
                  refine w_callV X dX4_readFrom_131 rfl vl_X4_108 (kX2_readFrom l hk.2.2.2.2.2.2.2.2.2.2 eyr34) hk.2.2.2.2.2.2.2.2.2.2.1 (As := [.ref 1]) (st := []) rfl rfl (Nat.le_of_ble_eq_true rfl) ⟨Nat.le_of_ble_eq_true rfl, Nat.le_of_ble_eq_true rfl⟩ ⟨Nat.zero_le _, Nat.zero_le _⟩ (fun r h2 hF => ?_)
                  obtain ⟨rfl, rfl⟩ := hF
                  show wM p l e (wR 73) s m args below meth c 0 0 (wE below args s D dA b0 ad S0 F) 3 D dA b0 ad S0 134 [some (.ref k), some (.ref 1), some (.int v2)] [] yr34
                  refine w_goto X dX4_readFrom_134 (t := 142) rfl ?_
                  exact pX4_readFrom_b142_28 X hr hk hN hX0 hf
              · have hf := wok_t hf (wb_n0 hc)
                refine w_aload_n X dX4_readFrom_109 rfl rfl rfl ?_
                refine w_aload_n X dX4_readFrom_110 rfl rfl rfl ?_
                obtain ⟨yr35, eyr35, hf⟩ := wok_b hf
                refine w_callV X dX4_readFrom_111 rfl vl_X4_103 (kX4_readDamp l hk eyr35) hk.1 (As := [.ref 1]) (st := []) rfl rfl (Nat.le_of_ble_eq_true rfl) ⟨Nat.le_of_ble_eq_true rfl, Nat.le_of_ble_eq_true rfl⟩ ⟨Nat.zero_le _, Nat.zero_le _⟩ (fun r h2 hF => ?_)
                obtain ⟨rfl, rfl⟩ := hF
                show wM p l e (wR 73) s m args below meth c 0 0 (wE below args s D dA b0 ad S0 F) 3 D dA b0 ad S0 114 [some (.ref k), some (.ref 1), some (.int v2)] [] yr35
                refine w_goto X dX4_readFrom_114 (t := 142) rfl ?_
                exact pX4_readFrom_b142_28 X hr hk hN hX0 hf
            · have hf := wok_t hf (wb_n0 hc)
              refine w_aload_n X dX4_readFrom_92 rfl rfl rfl ?_
              refine w_aload_n X dX4_readFrom_93 rfl rfl rfl ?_
              obtain ⟨yr36, eyr36, hf⟩ := wok_b hf
              refine w_callV X dX4_readFrom_94 rfl vl_X4_99 (kX4_readText l hk eyr36) hk.1 (As := [.ref 1]) (st := []) rfl rfl (Nat.le_of_ble_eq_true rfl) ⟨Nat.le_of_ble_eq_true rfl, Nat.le_of_ble_eq_true rfl⟩ ⟨Nat.zero_le _, Nat.zero_le _⟩ (fun r h2 hF => ?_)
              obtain ⟨rfl, rfl⟩ := hF
              show wM p l e (wR 73) s m args below meth c 0 0 (wE below args s D dA b0 ad S0 F) 3 D dA b0 ad S0 97 [some (.ref k), some (.ref 1), some (.int v2)] [] yr36
              refine w_goto X dX4_readFrom_97 (t := 142) rfl ?_
              exact pX4_readFrom_b142_28 X hr hk hN hX0 hf
          · have hf := wok_t hf (wb_n0 hc)
            refine w_aload_n X dX4_readFrom_75 rfl rfl rfl ?_
            refine w_aload_n X dX4_readFrom_76 rfl rfl rfl ?_
            obtain ⟨yr37, eyr37, hf⟩ := wok_b hf
            refine w_callV X dX4_readFrom_77 rfl vl_X4_94 (kX4_readHole l hk eyr37) hk.1 (As := [.ref 1]) (st := []) rfl rfl (Nat.le_of_ble_eq_true rfl) ⟨Nat.le_of_ble_eq_true rfl, Nat.le_of_ble_eq_true rfl⟩ ⟨Nat.zero_le _, Nat.zero_le _⟩ (fun r h2 hF => ?_)
            obtain ⟨rfl, rfl⟩ := hF
            show wM p l e (wR 73) s m args below meth c 0 0 (wE below args s D dA b0 ad S0 F) 3 D dA b0 ad S0 80 [some (.ref k), some (.ref 1), some (.int v2)] [] yr37
            refine w_goto X dX4_readFrom_80 (t := 142) rfl ?_
            exact pX4_readFrom_b142_28 X hr hk hN hX0 hf
        · have hf := wok_t hf (wb_n0 hc)
          refine w_aload_n X dX4_readFrom_58 rfl rfl rfl ?_
          refine w_aload_n X dX4_readFrom_59 rfl rfl rfl ?_
          obtain ⟨yr38, eyr38, hf⟩ := wok_b hf
          refine w_callV X dX4_readFrom_60 rfl vl_X4_88 (kX4_readSkin l hk eyr38) hk.1 (As := [.ref 1]) (st := []) rfl rfl (Nat.le_of_ble_eq_true rfl) ⟨Nat.le_of_ble_eq_true rfl, Nat.le_of_ble_eq_true rfl⟩ ⟨Nat.zero_le _, Nat.zero_le _⟩ (fun r h2 hF => ?_)
          obtain ⟨rfl, rfl⟩ := hF
          show wM p l e (wR 73) s m args below meth c 0 0 (wE below args s D dA b0 ad S0 F) 3 D dA b0 ad S0 63 [some (.ref k), some (.ref 1), some (.int v2)] [] yr38
          refine w_goto X dX4_readFrom_63 (t := 142) rfl ?_
          exact pX4_readFrom_b142_28 X hr hk hN hX0 hf
set_option maxRecDepth 4000 in
theorem pX4_readFrom_l28 (X : wCx p s m args meth c RX4 cX4_readFrom 3 D dA b0 ad) (hr : meth.sig.returnType = (some .int))  {k : Nat} (hk : wI4 k) {KE : (wSt) → Prop} (hX0 : ∀ (nh : wSt), KE (nh) → wM p l e (wR 73) s m args below meth c 0 0 (wE below args s D dA b0 ad S0 F) 3 D dA b0 ad S0 148 [none, some (.ref 1), none] [] nh) : ∀ (n : Nat) (v2 : Int32) (h : wSt), wok (wit (fun v : (Int32 × wSt) => fX4_readFrom_l28 v.2 k v.1) n (v2, h)) KE → wM p l e (wR 73) s m args below meth c 0 0 (wE below args s D dA b0 ad S0 F) 3 D dA b0 ad S0 28 [some (.ref k), some (.ref 1), some (.int v2)] [] h := by
  have key := wit_M (b := (fun v : (Int32 × wSt) => fX4_readFrom_l28 v.2 k v.1)) (KE := KE) (G := fun v => wM p l e (wR 73) s m args below meth c 0 0 (wE below args s D dA b0 ad S0 F) 3 D dA b0 ad S0 28 [some (.ref k), some (.ref 1), some (.int v.1)] [] v.2) (fun v K hN hE hf => pX4_readFrom_l28b X hr hk (fun n2 nh hz => hN (n2, nh) hz) (fun z0 hz => hX0 z0 (hE _ hz)) hf)
  exact fun n v2 h hf => key n (v2, h) hf
set_option maxRecDepth 4000 in
theorem pX4_readFrom_b0 (X : wCx p s m args meth c RX4 cX4_readFrom 3 D dA b0 ad) (hr : meth.sig.returnType = (some .int)) {h : wSt} {k : Nat} (hk : wI4 k) {K : Int32 × wSt → Prop} (hT : ∀ (x : Int32) (h2 : wSt), K (x, h2) → F (some (.int x)) h2) (hf : wok (fX4_readFrom h k) K) : wM p l e (wR 73) s m args below meth c 0 0 (wE below args s D dA b0 ad S0 F) 3 D dA b0 ad S0 0 [some (.ref k), some (.ref 1), none] [] h := by
  unfold fX4_readFrom at hf
  refine w_aload_n X dX4_readFrom_0 rfl rfl rfl ?_
  refine w_iconst X dX4_readFrom_1 rfl ci_0 ?_
  refine w_putI X dX4_readFrom_2 rfl fp_X4_47 hk.1 rfl ?_
  refine w_nmh (fun yh21 eyh21 => ?_)
  have hf := wok_l hf eyh21
  refine w_aload_n X dX4_readFrom_5 rfl rfl rfl ?_
  refine w_iconst X dX4_readFrom_6 rfl ci_0 ?_
  refine w_putI X dX4_readFrom_7 rfl fp_X4_57 hk.1 rfl ?_
  refine w_nmh (fun yh22 eyh22 => ?_)
  have hf := wok_l hf eyh22
  refine w_aload_n X dX4_readFrom_10 rfl rfl rfl ?_
  refine w_iconst X dX4_readFrom_11 rfl ci_0 ?_
  refine w_putI X dX4_readFrom_12 rfl fp_X4_60 hk.1 rfl ?_
  refine w_nmh (fun yh23 eyh23 => ?_)
  have hf := wok_l hf eyh23
  refine w_aload_n X dX4_readFrom_15 rfl rfl rfl ?_
  refine w_getR X dX4_readFrom_16 rfl fl_X4_43 hk.1 rfl ?_
  obtain ⟨yr24, eyr24, hf⟩ := wok_b hf
  refine w_callV X dX4_readFrom_19 rfl vl_X4_67 (kX2_setUntold l hk.2.2.2.2.2.2.2.2.2.2 eyr24) hk.2.2.2.2.2.2.2.2.2.2.1 (As := []) (st := []) rfl rfl (Nat.le_of_ble_eq_true rfl) ⟨Nat.le_of_ble_eq_true rfl, Nat.le_of_ble_eq_true rfl⟩ ⟨Nat.zero_le _, Nat.zero_le _⟩ (fun r h2 hF => ?_)
  obtain ⟨rfl, rfl⟩ := hF
  show wM p l e (wR 73) s m args below meth c 0 0 (wE below args s D dA b0 ad S0 F) 3 D dA b0 ad S0 22 [some (.ref k), some (.ref 1), none] [] yr24
  refine w_aload_n X dX4_readFrom_22 rfl rfl rfl ?_
  obtain ⟨yr25, eyr25, hf⟩ := wok_b hf
  refine w_callV X dX4_readFrom_23 rfl vl_X4_70 (kX7_rewind l  eyr25) S0_1 (As := []) (st := []) rfl rfl (Nat.le_of_ble_eq_true rfl) ⟨Nat.le_of_ble_eq_true rfl, Nat.le_of_ble_eq_true rfl⟩ ⟨Nat.zero_le _, Nat.zero_le _⟩ (fun r h2 hF => ?_)
  obtain ⟨rfl, rfl⟩ := hF
  show wM p l e (wR 73) s m args below meth c 0 0 (wE below args s D dA b0 ad S0 F) 3 D dA b0 ad S0 26 [some (.ref k), some (.ref 1), none] [] yr25
  refine w_iconst X dX4_readFrom_26 rfl ci_0 ?_
  refine w_istore_n X dX4_readFrom_27 rfl rfl rfl (Nat.le_of_ble_eq_true rfl) (ls' := [some (.ref k), some (.ref 1), some (.int 0)]) rfl ?_
  obtain ⟨ye39, hye39, hf⟩ := wok_b hf
  refine pX4_readFrom_l28 X hr hk (KE := fun z => ye39 = z) ?_ 3000 _ _ ⟨ye39, hye39, rfl⟩
  · intro yz40 hz
    subst hz
    refine w_aload_n X dX4_readFrom_148 rfl rfl rfl ?_
    refine w_getI X dX4_readFrom_149 rfl fl_X4_115 S0_1 rfl ?_
    exact w_iret X dX4_readFrom_152 hr (hT _ _ (wok_s hf))
set_option maxRecDepth 4000 in
theorem kX4_readFrom (l : Launch) {h : wSt} {k : Nat} (hk : wI4 k) {res : Int32 × wSt} (hf : fX4_readFrom h k = some res) : wC l yX4_readFrom cX4_readFrom 3 (some .int) 73 S0 [.ref k, .ref 1] h (wFI (fun a b => res.1 = a ∧ res.2 = b)) := by
  refine w_meth2 1 (by decide) (Nat.le_of_ble_eq_true rfl) (ls := [some (.ref k), some (.ref 1), none]) rfl ?_
  intro p e s m args below meth c D dA b0 ad X hr
  exact pX4_readFrom_b0 X hr hk (K := fun z => res = z) (fun x h2 hz => ⟨x, rfl, by rw [hz], by rw [hz]⟩) ⟨res, hf, rfl⟩
set_option maxRecDepth 4000 in
theorem pX4_takeText_b0 (X : wCx p s m args meth c RX4 cX4_takeText 2 D dA b0 ad) (hr : meth.sig.returnType = (some .int)) {h : wSt} {k : Nat} (hk : wI4 k) {K : Int32 × wSt → Prop} (hT : ∀ (x : Int32) (h2 : wSt), K (x, h2) → F (some (.int x)) h2) (hf : wok (fX4_takeText h k) K) : wM p l e (wR 8) s m args below meth c 0 0 (wE below args s D dA b0 ad S0 F) 2 D dA b0 ad S0 0 [some (.ref k), some (.ref 1)] [] h := by
  unfold fX4_takeText at hf
  refine w_aload_n X dX4_takeText_0 rfl rfl rfl ?_
  refine w_aload_n X dX4_takeText_1 rfl rfl rfl ?_
  refine w_getR X dX4_takeText_2 rfl fl_X4_25 hk.1 rfl ?_
  refine w_aload_n X dX4_takeText_5 rfl rfl rfl ?_
  refine w_getI X dX4_takeText_6 rfl fl_X4_57 hk.1 rfl ?_
  obtain ⟨yr21, eyr21, hf⟩ := wok_b hf
  refine w_callS X dX4_takeText_9 rfl sl_X4_182 (kX4_takeTold l hk.2.2.2.2.2.1 eyr21) (As := [.ref 1, .ref (k + 5), .int (h.1 k 5)]) (st := []) rfl rfl (Nat.le_of_ble_eq_true rfl) ⟨Nat.le_of_ble_eq_true rfl, Nat.le_of_ble_eq_true rfl⟩ ⟨Nat.zero_le _, Nat.zero_le _⟩ (fun r h2 hF => ?_)
  obtain ⟨_, rfl, rfl, rfl⟩ := hF
  show wM p l e (wR 8) s m args below meth c 0 0 (wE below args s D dA b0 ad S0 F) 2 D dA b0 ad S0 12 [some (.ref k), some (.ref 1)] [.int yr21.1] yr21.2
  exact w_iret X dX4_takeText_12 hr (hT _ _ (wok_s hf))
set_option maxRecDepth 4000 in
theorem kX4_takeText (l : Launch) {h : wSt} {k : Nat} (hk : wI4 k) {res : Int32 × wSt} (hf : fX4_takeText h k = some res) : wC l yX4_takeText cX4_takeText 2 (some .int) 8 S0 [.ref k, .ref 1] h (wFI (fun a b => res.1 = a ∧ res.2 = b)) := by
  refine w_meth2 0 (by decide) (Nat.le_of_ble_eq_true rfl) (ls := [some (.ref k), some (.ref 1)]) rfl ?_
  intro p e s m args below meth c D dA b0 ad X hr
  exact pX4_takeText_b0 X hr hk (K := fun z => res = z) (fun x h2 hz => ⟨x, rfl, by rw [hz], by rw [hz]⟩) ⟨res, hf, rfl⟩
set_option maxRecDepth 4000 in
theorem pX4_hasSkin_b0 (X : wCx p s m args meth c RX4 cX4_hasSkin 2 D dA b0 ad) (hr : meth.sig.returnType = (some .boolean)) {h : wSt} {k : Nat} {x0 : Int32} (hk : wI4 k) {K : Bool → Prop} (hT : ∀ (x : Bool), K x → F (some (.int (wb x))) h) (hf : wok (fX4_hasSkin h k x0) K) : wM p l e (wR 1) s m args below meth c 0 0 (wE below args s D dA b0 ad S0 F) 2 D dA b0 ad S0 0 [some (.ref k), some (.int x0)] [] h := by
  unfold fX4_hasSkin at hf
  refine w_iload_n X dX4_hasSkin_0 rfl rfl rfl ?_
  refine w_if_lt X dX4_hasSkin_1 rfl (t := 16) rfl (fun hc => ?_) (fun hc => ?_)
  · have hf := wok_t hf hc
    refine w_iconst X dX4_hasSkin_16 rfl ci_0 ?_
    exact w_zret X dX4_hasSkin_17 hr rfl (hT false (wok_s hf))
  · have hf := wok_f hf hc
    refine w_iload_n X dX4_hasSkin_4 rfl rfl rfl ?_
    refine w_aload_n X dX4_hasSkin_5 rfl rfl rfl ?_
    refine w_getI X dX4_hasSkin_6 rfl fl_X4_47 hk.1 rfl ?_
    refine w_icmp_ge X dX4_hasSkin_9 rfl (t := 16) rfl (fun hc => ?_) (fun hc => ?_)
    · have hf := wok_t hf hc
      refine w_iconst X dX4_hasSkin_16 rfl ci_0 ?_
      exact w_zret X dX4_hasSkin_17 hr rfl (hT false (wok_s hf))
    · have hf := wok_f hf hc
      refine w_iconst X dX4_hasSkin_12 rfl ci_1 ?_
      refine w_goto X dX4_hasSkin_13 (t := 17) rfl ?_
      exact w_zret X dX4_hasSkin_17 hr rfl (hT true (wok_s hf))
set_option maxRecDepth 4000 in
theorem kX4_hasSkin (l : Launch) {h : wSt} {k : Nat} {x0 : Int32} (hk : wI4 k) {res : Bool} (hf : fX4_hasSkin h k x0 = some res) : wC l yX4_hasSkin cX4_hasSkin 2 (some .boolean) 1 S0 [.ref k, .int x0] h (wFZ (fun a b => res = a ∧ h = b)) := by
  refine w_meth2 0 (by decide) (Nat.le_of_ble_eq_true rfl) (ls := [some (.ref k), some (.int x0)]) rfl ?_
  intro p e s m args below meth c D dA b0 ad X hr
  exact pX4_hasSkin_b0 X hr hk (K := fun z => res = z) (fun x hz => ⟨x, rfl, hz, rfl⟩) ⟨res, hf, rfl⟩
set_option maxRecDepth 4000 in
theorem pX4_hasLine_b0 (X : wCx p s m args meth c RX4 cX4_hasLine 3 D dA b0 ad) (hr : meth.sig.returnType = (some .boolean)) {h : wSt} {k : Nat} {x0 : Int32} {x1 : Int32} (hk : wI4 k) {K : Bool → Prop} (hT : ∀ (x : Bool), K x → F (some (.int (wb x))) h) (hf : wok (fX4_hasLine h k x0 x1) K) : wM p l e (wR 2) s m args below meth c 0 0 (wE below args s D dA b0 ad S0 F) 3 D dA b0 ad S0 0 [some (.ref k), some (.int x0), some (.int x1)] [] h := by
  unfold fX4_hasLine at hf
  refine w_aload_n X dX4_hasLine_0 rfl rfl rfl ?_
  refine w_iload_n X dX4_hasLine_1 rfl rfl rfl ?_
  obtain ⟨yr21, eyr21, hf⟩ := wok_b hf
  refine w_callV X dX4_hasLine_2 rfl vl_X4_186 (kX4_hasSkin l hk eyr21) hk.1 (As := [.int x0]) (st := []) rfl rfl (Nat.le_of_ble_eq_true rfl) ⟨Nat.le_of_ble_eq_true rfl, Nat.le_of_ble_eq_true rfl⟩ ⟨Nat.zero_le _, Nat.zero_le _⟩ (fun r h2 hF => ?_)
  obtain ⟨_, rfl, rfl, rfl⟩ := hF
  show wM p l e (wR 2) s m args below meth c 0 0 (wE below args s D dA b0 ad S0 F) 3 D dA b0 ad S0 5 [some (.ref k), some (.int x0), some (.int x1)] [.int (wb yr21)] h
  refine w_if_eq X dX4_hasLine_5 rfl (t := 26) rfl (fun hc => ?_) (fun hc => ?_)
  · have hf := wok_f hf (wb_0 hc)
    refine w_iconst X dX4_hasLine_26 rfl ci_0 ?_
    exact w_zret X dX4_hasLine_27 hr rfl (hT false (wok_s hf))
  · have hf := wok_t hf (wb_n0 hc)
    refine w_iload_n X dX4_hasLine_8 rfl rfl rfl ?_
    refine w_if_lt X dX4_hasLine_9 rfl (t := 26) rfl (fun hc => ?_) (fun hc => ?_)
    · have hf := wok_t hf hc
      refine w_iconst X dX4_hasLine_26 rfl ci_0 ?_
      exact w_zret X dX4_hasLine_27 hr rfl (hT false (wok_s hf))
    · have hf := wok_f hf hc
      refine w_iload_n X dX4_hasLine_12 rfl rfl rfl ?_
      refine w_aload_n X dX4_hasLine_13 rfl rfl rfl ?_
      refine w_getR X dX4_hasLine_14 rfl fl_X4_15 hk.1 rfl ?_
      refine w_iload_n X dX4_hasLine_17 rfl rfl rfl ?_
      obtain ⟨yhg22, hf⟩ := wok_g hf
      refine w_iald X dX4_hasLine_18 rfl (j := x0.toNatClampNeg) rfl hk.2.2.1 yhg22 ?_
      refine w_icmp_ge X dX4_hasLine_19 rfl (t := 26) rfl (fun hc => ?_) (fun hc => ?_)
      · have hf := wok_t hf hc
        refine w_iconst X dX4_hasLine_26 rfl ci_0 ?_
        exact w_zret X dX4_hasLine_27 hr rfl (hT false (wok_s hf))
      · have hf := wok_f hf hc
        refine w_iconst X dX4_hasLine_22 rfl ci_1 ?_
        refine w_goto X dX4_hasLine_23 (t := 27) rfl ?_
        exact w_zret X dX4_hasLine_27 hr rfl (hT true (wok_s hf))
set_option maxRecDepth 4000 in
theorem kX4_hasLine (l : Launch) {h : wSt} {k : Nat} {x0 : Int32} {x1 : Int32} (hk : wI4 k) {res : Bool} (hf : fX4_hasLine h k x0 x1 = some res) : wC l yX4_hasLine cX4_hasLine 3 (some .boolean) 2 S0 [.ref k, .int x0, .int x1] h (wFZ (fun a b => res = a ∧ h = b)) := by
  refine w_meth2 0 (by decide) (Nat.le_of_ble_eq_true rfl) (ls := [some (.ref k), some (.int x0), some (.int x1)]) rfl ?_
  intro p e s m args below meth c D dA b0 ad X hr
  exact pX4_hasLine_b0 X hr hk (K := fun z => res = z) (fun x hz => ⟨x, rfl, hz, rfl⟩) ⟨res, hf, rfl⟩
set_option maxRecDepth 4000 in
theorem pX4_hasText_b0 (X : wCx p s m args meth c RX4 cX4_hasText 2 D dA b0 ad) (hr : meth.sig.returnType = (some .boolean)) {h : wSt} {k : Nat} {x0 : Int32} (hk : wI4 k) {K : Bool → Prop} (hT : ∀ (x : Bool), K x → F (some (.int (wb x))) h) (hf : wok (fX4_hasText h k x0) K) : wM p l e (wR 1) s m args below meth c 0 0 (wE below args s D dA b0 ad S0 F) 2 D dA b0 ad S0 0 [some (.ref k), some (.int x0)] [] h := by
  unfold fX4_hasText at hf
  refine w_iload_n X dX4_hasText_0 rfl rfl rfl ?_
  refine w_if_lt X dX4_hasText_1 rfl (t := 16) rfl (fun hc => ?_) (fun hc => ?_)
  · have hf := wok_t hf hc
    refine w_iconst X dX4_hasText_16 rfl ci_0 ?_
    exact w_zret X dX4_hasText_17 hr rfl (hT false (wok_s hf))
  · have hf := wok_f hf hc
    refine w_iload_n X dX4_hasText_4 rfl rfl rfl ?_
    refine w_aload_n X dX4_hasText_5 rfl rfl rfl ?_
    refine w_getI X dX4_hasText_6 rfl fl_X4_57 hk.1 rfl ?_
    refine w_icmp_ge X dX4_hasText_9 rfl (t := 16) rfl (fun hc => ?_) (fun hc => ?_)
    · have hf := wok_t hf hc
      refine w_iconst X dX4_hasText_16 rfl ci_0 ?_
      exact w_zret X dX4_hasText_17 hr rfl (hT false (wok_s hf))
    · have hf := wok_f hf hc
      refine w_iconst X dX4_hasText_12 rfl ci_1 ?_
      refine w_goto X dX4_hasText_13 (t := 17) rfl ?_
      exact w_zret X dX4_hasText_17 hr rfl (hT true (wok_s hf))
set_option maxRecDepth 4000 in
theorem kX4_hasText (l : Launch) {h : wSt} {k : Nat} {x0 : Int32} (hk : wI4 k) {res : Bool} (hf : fX4_hasText h k x0 = some res) : wC l yX4_hasText cX4_hasText 2 (some .boolean) 1 S0 [.ref k, .int x0] h (wFZ (fun a b => res = a ∧ h = b)) := by
  refine w_meth2 0 (by decide) (Nat.le_of_ble_eq_true rfl) (ls := [some (.ref k), some (.int x0)]) rfl ?_
  intro p e s m args below meth c D dA b0 ad X hr
  exact pX4_hasText_b0 X hr hk (K := fun z => res = z) (fun x hz => ⟨x, rfl, hz, rfl⟩) ⟨res, hf, rfl⟩
set_option maxRecDepth 4000 in
theorem pX4_dampOf_b0 (X : wCx p s m args meth c RX4 cX4_dampOf 2 D dA b0 ad) (hr : meth.sig.returnType = (some .int)) {h : wSt} {k : Nat} {x0 : Int32} (hk : wI4 k) {K : Int32 → Prop} (hT : ∀ (x : Int32), K x → F (some (.int x)) h) (hf : wok (fX4_dampOf h k x0) K) : wM p l e (wR 1) s m args below meth c 0 0 (wE below args s D dA b0 ad S0 F) 2 D dA b0 ad S0 0 [some (.ref k), some (.int x0)] [] h := by
  unfold fX4_dampOf at hf
  refine w_aload_n X dX4_dampOf_0 rfl rfl rfl ?_
  refine w_getI X dX4_dampOf_1 rfl fl_X4_60 hk.1 rfl ?_
  refine w_if_le X dX4_dampOf_4 rfl (t := 25) rfl (fun hc => ?_) (fun hc => ?_)
  · have hf := wok_t hf hc
    refine w_iconst X dX4_dampOf_25 rfl ci_0 ?_
    exact w_iret X dX4_dampOf_26 hr (hT _ (wok_s hf))
  · have hf := wok_f hf hc
    refine w_iload_n X dX4_dampOf_7 rfl rfl rfl ?_
    refine w_if_lt X dX4_dampOf_8 rfl (t := 25) rfl (fun hc => ?_) (fun hc => ?_)
    · have hf := wok_t hf hc
      refine w_iconst X dX4_dampOf_25 rfl ci_0 ?_
      exact w_iret X dX4_dampOf_26 hr (hT _ (wok_s hf))
    · have hf := wok_f hf hc
      refine w_aload_n X dX4_dampOf_11 rfl rfl rfl ?_
      refine w_getR X dX4_dampOf_12 rfl fl_X4_37 hk.1 rfl ?_
      refine w_iload_n X dX4_dampOf_15 rfl rfl rfl ?_
      refine w_aload_n X dX4_dampOf_16 rfl rfl rfl ?_
      refine w_getI X dX4_dampOf_17 rfl fl_X4_60 hk.1 rfl ?_
      obtain ⟨yhg21, hf⟩ := wok_g hf
      refine w_irem X dX4_dampOf_20 rfl yhg21 ?_
      obtain ⟨yhg22, hf⟩ := wok_g hf
      refine w_iald X dX4_dampOf_21 rfl (j := (x0 - x0 / (h.1 k 10) * (h.1 k 10)).toNatClampNeg) rfl hk.2.2.2.2.2.2.2.2.2.1 yhg22 ?_
      refine w_goto X dX4_dampOf_22 (t := 26) rfl ?_
      exact w_iret X dX4_dampOf_26 hr (hT _ (wok_s hf))
set_option maxRecDepth 4000 in
theorem kX4_dampOf (l : Launch) {h : wSt} {k : Nat} {x0 : Int32} (hk : wI4 k) {res : Int32} (hf : fX4_dampOf h k x0 = some res) : wC l yX4_dampOf cX4_dampOf 2 (some .int) 1 S0 [.ref k, .int x0] h (wFI (fun a b => res = a ∧ h = b)) := by
  refine w_meth2 0 (by decide) (Nat.le_of_ble_eq_true rfl) (ls := [some (.ref k), some (.int x0)]) rfl ?_
  intro p e s m args below meth c D dA b0 ad X hr
  exact pX4_dampOf_b0 X hr hk (K := fun z => res = z) (fun x hz => ⟨x, rfl, hz, rfl⟩) ⟨res, hf, rfl⟩
set_option maxRecDepth 4000 in
theorem pX4_showsText_b42 (X : wCx p s m args meth c RX4 cX4_showsText 7 D dA b0 ad) (hr : meth.sig.returnType = (some .boolean)) {h : wSt} {k : Nat} {v1 : Int32} {v4 : Int32} {w1 : Int32} {w2 : Int32} (hk : wI4 k) {K : Bool × wSt → Prop} (hT : ∀ (x : Bool) (h2 : wSt), K (x, h2) → F (some (.int (wb x))) h2)  (hf : wok (fX4_showsText_b42 h k v1 v4 w1 w2) K) : wM p l e (wR 3) s m args below meth c 0 0 (wE below args s D dA b0 ad S0 F) 7 D dA b0 ad S0 42 [some (.ref k), some (.int v1), none, none, some (.int v4), none, none] [.int w2, .int w1, .ref (k + 10)] h := by
  unfold fX4_showsText_b42 at hf
  refine w_aload_n X dX4_showsText_42 rfl rfl rfl ?_
  refine w_getR X dX4_showsText_43 rfl fl_X4_31 hk.1 rfl ?_
  refine w_iload_n X dX4_showsText_46 rfl rfl rfl ?_
  obtain ⟨yhg22, hf⟩ := wok_g hf
  refine w_iald X dX4_showsText_47 rfl (j := v1.toNatClampNeg) rfl hk.2.2.2.2.2.2.2.1 yhg22 ?_
  refine w_iload X dX4_showsText_48 rfl rfl ?_
  obtain ⟨yr23, eyr23, hf⟩ := wok_b hf
  refine w_callV X dX4_showsText_50 rfl vl_X4_190 (kX2_holds l hk.2.2.2.2.2.2.2.2.2.2 eyr23) hk.2.2.2.2.2.2.2.2.2.2.1 (As := [.int w1, .int w2, .int (h.1 (k + 7) v1.toNatClampNeg), .int v4]) (st := []) rfl rfl (Nat.le_of_ble_eq_true rfl) ⟨Nat.le_of_ble_eq_true rfl, Nat.le_of_ble_eq_true rfl⟩ ⟨Nat.zero_le _, Nat.zero_le _⟩ (fun r h2 hF => ?_)
  obtain ⟨_, rfl, rfl, rfl⟩ := hF
  show wM p l e (wR 3) s m args below meth c 0 0 (wE below args s D dA b0 ad S0 F) 7 D dA b0 ad S0 53 [some (.ref k), some (.int v1), none, none, some (.int v4), none, none] [.int (wb yr23.1)] yr23.2
  exact w_zret X dX4_showsText_53 hr (wb_n _) (hT _ _ (wok_s hf))
set_option maxRecDepth 4000 in
theorem pX4_showsText_b21 (X : wCx p s m args meth c RX4 cX4_showsText 7 D dA b0 ad) (hr : meth.sig.returnType = (some .boolean)) {h : wSt} {k : Nat} {v1 : Int32} {v2 : Int32} {v4 : Int32} {v5 : Int32} {w0 : Int32} (hk : wI4 k) {K : Bool × wSt → Prop} (hT : ∀ (x : Bool) (h2 : wSt), K (x, h2) → F (some (.int (wb x))) h2)  (hf : wok (fX4_showsText_b21 h k v1 v2 v4 v5 w0) K) : wM p l e (wR 3) s m args below meth c 0 0 (wE below args s D dA b0 ad S0 F) 7 D dA b0 ad S0 21 [some (.ref k), some (.int v1), some (.int v2), none, some (.int v4), some (.int v5), none] [.int w0] h := by
  unfold fX4_showsText_b21 at hf
  refine w_istore X dX4_showsText_21 rfl rfl (Nat.le_of_ble_eq_true rfl) (ls' := [some (.ref k), some (.int v1), some (.int v2), none, some (.int v4), some (.int v5), some (.int w0)]) rfl ?_
  refine w_aload_n X dX4_showsText_23 rfl rfl rfl ?_
  refine w_getR X dX4_showsText_24 rfl fl_X4_43 hk.1 rfl ?_
  refine w_iload X dX4_showsText_27 rfl rfl ?_
  refine w_iload X dX4_showsText_29 rfl rfl ?_
  refine w_iconst X dX4_showsText_31 rfl ci_2 ?_
  refine w_icmp_ne X dX4_showsText_32 rfl (t := 41) rfl (fun hc => ?_) (fun hc => ?_)
  · have hf := wok_f hf hc
    refine w_iload_n X dX4_showsText_41 rfl rfl rfl ?_
    refine w_fg (ls2 := [some (.ref k), some (.int v1), none, none, some (.int v4), none, none]) ⟨rfl, rfl, rfl, trivial⟩ ?_
    exact pX4_showsText_b42 X hr hk hT hf
  · have hf := wok_t hf hc
    refine w_iload_n X dX4_showsText_35 rfl rfl rfl ?_
    refine w_iconst X dX4_showsText_36 rfl ci_1 ?_
    refine w_isub X dX4_showsText_37 rfl ?_
    refine w_goto X dX4_showsText_38 (t := 42) rfl ?_
    refine w_fg (ls2 := [some (.ref k), some (.int v1), none, none, some (.int v4), none, none]) ⟨rfl, rfl, rfl, trivial⟩ ?_
    exact pX4_showsText_b42 X hr hk hT hf
set_option maxRecDepth 4000 in
theorem pX4_showsText_b0 (X : wCx p s m args meth c RX4 cX4_showsText 7 D dA b0 ad) (hr : meth.sig.returnType = (some .boolean)) {h : wSt} {k : Nat} {x0 : Int32} {x1 : Int32} {x2 : Int32} {x3 : Int32} (hk : wI4 k) {K : Bool × wSt → Prop} (hT : ∀ (x : Bool) (h2 : wSt), K (x, h2) → F (some (.int (wb x))) h2) (hf : wok (fX4_showsText h k x0 x1 x2 x3) K) : wM p l e (wR 3) s m args below meth c 0 0 (wE below args s D dA b0 ad S0 F) 7 D dA b0 ad S0 0 [some (.ref k), some (.int x0), some (.int x1), some (.int x2), some (.int x3), none, none] [] h := by
  unfold fX4_showsText at hf
  refine w_aload_n X dX4_showsText_0 rfl rfl rfl ?_
  refine w_getR X dX4_showsText_1 rfl fl_X4_28 hk.1 rfl ?_
  refine w_iload_n X dX4_showsText_4 rfl rfl rfl ?_
  obtain ⟨yhg21, hf⟩ := wok_g hf
  refine w_iald X dX4_showsText_5 rfl (j := x0.toNatClampNeg) rfl hk.2.2.2.2.2.2.1 yhg21 ?_
  refine w_istore X dX4_showsText_6 rfl rfl (Nat.le_of_ble_eq_true rfl) (ls' := [some (.ref k), some (.int x0), some (.int x1), some (.int x2), some (.int x3), some (.int (h.1 (k + 6) x0.toNatClampNeg)), none]) rfl ?_
  refine w_iload X dX4_showsText_8 rfl rfl ?_
  refine w_iconst X dX4_showsText_10 rfl ci_1 ?_
  refine w_icmp_ne X dX4_showsText_11 rfl (t := 20) rfl (fun hc => ?_) (fun hc => ?_)
  · have hf := wok_f hf hc
    refine w_iload_n X dX4_showsText_20 rfl rfl rfl ?_
    refine w_fg (ls2 := [some (.ref k), some (.int x0), some (.int x1), none, some (.int x3), some (.int (h.1 (k + 6) x0.toNatClampNeg)), none]) ⟨rfl, rfl, rfl, rfl, rfl, trivial⟩ ?_
    exact pX4_showsText_b21 X hr hk hT hf
  · have hf := wok_t hf hc
    refine w_iload_n X dX4_showsText_14 rfl rfl rfl ?_
    refine w_iconst X dX4_showsText_15 rfl ci_1 ?_
    refine w_iadd X dX4_showsText_16 rfl ?_
    refine w_goto X dX4_showsText_17 (t := 21) rfl ?_
    refine w_fg (ls2 := [some (.ref k), some (.int x0), some (.int x1), none, some (.int x3), some (.int (h.1 (k + 6) x0.toNatClampNeg)), none]) ⟨rfl, rfl, rfl, rfl, rfl, trivial⟩ ?_
    exact pX4_showsText_b21 X hr hk hT hf
set_option maxRecDepth 4000 in
theorem kX4_showsText (l : Launch) {h : wSt} {k : Nat} {x0 : Int32} {x1 : Int32} {x2 : Int32} {x3 : Int32} (hk : wI4 k) {res : Bool × wSt} (hf : fX4_showsText h k x0 x1 x2 x3 = some res) : wC l yX4_showsText cX4_showsText 7 (some .boolean) 3 S0 [.ref k, .int x0, .int x1, .int x2, .int x3] h (wFZ (fun a b => res.1 = a ∧ res.2 = b)) := by
  refine w_meth2 2 (by decide) (Nat.le_of_ble_eq_true rfl) (ls := [some (.ref k), some (.int x0), some (.int x1), some (.int x2), some (.int x3), none, none]) rfl ?_
  intro p e s m args below meth c D dA b0 ad X hr
  exact pX4_showsText_b0 X hr hk (K := fun z => res = z) (fun x h2 hz => ⟨x, rfl, by rw [hz], by rw [hz]⟩) ⟨res, hf, rfl⟩
set_option maxRecDepth 4000 in
theorem pX4_howManyShow_b40_6 (X : wCx p s m args meth c RX4 cX4_howManyShow 7 D dA b0 ad) (hr : meth.sig.returnType = (some .int)) {h : wSt} {k : Nat} {v1 : Int32} {v2 : Int32} {v3 : Int32} {v4 : Int32} {v5 : Int32} {v6 : Int32} (hk : wI4 k) {K : (Int32 × Int32 × wSt) ⊕ ((Int32 × wSt)) → Prop} (hN : ∀ (n5 : Int32) (n6 : Int32) (nh : wSt), K (.inl (n5, n6, nh)) → wM p l e (wR 4) s m args below meth c 0 0 (wE below args s D dA b0 ad S0 F) 7 D dA b0 ad S0 6 [some (.ref k), some (.int v1), some (.int v2), some (.int v3), some (.int v4), some (.int n5), some (.int n6)] [] nh) (hX0 : ∀ (n5 : Int32) (nh : wSt), K (.inr (n5, nh)) → wM p l e (wR 4) s m args below meth c 0 0 (wE below args s D dA b0 ad S0 F) 7 D dA b0 ad S0 46 [none, none, none, none, none, some (.int n5), none] [] nh) (hf : wok (fX4_howManyShow_b40_6 h k v1 v2 v3 v4 v5 v6) K) : wM p l e (wR 4) s m args below meth c 0 0 (wE below args s D dA b0 ad S0 F) 7 D dA b0 ad S0 40 [some (.ref k), some (.int v1), some (.int v2), some (.int v3), some (.int v4), some (.int v5), some (.int v6)] [] h := by
  unfold fX4_howManyShow_b40_6 at hf
  refine w_iinc X dX4_howManyShow_40 rfl (v := (v6 + 1)) rfl rfl (Nat.le_of_ble_eq_true rfl) (cinc_1 _) (ls' := [some (.ref k), some (.int v1), some (.int v2), some (.int v3), some (.int v4), some (.int v5), some (.int (v6 + 1))]) rfl ?_
  refine w_goto X dX4_howManyShow_43 (t := 6) rfl ?_
  exact hN _ _ _ (wok_s hf)
set_option maxRecDepth 4000 in
theorem pX4_howManyShow_l6b (X : wCx p s m args meth c RX4 cX4_howManyShow 7 D dA b0 ad) (hr : meth.sig.returnType = (some .int)) {h : wSt} {k : Nat} {v1 : Int32} {v2 : Int32} {v3 : Int32} {v4 : Int32} {v5 : Int32} {v6 : Int32} (hk : wI4 k) {K : (Int32 × Int32 × wSt) ⊕ ((Int32 × wSt)) → Prop} (hN : ∀ (n5 : Int32) (n6 : Int32) (nh : wSt), K (.inl (n5, n6, nh)) → wM p l e (wR 4) s m args below meth c 0 0 (wE below args s D dA b0 ad S0 F) 7 D dA b0 ad S0 6 [some (.ref k), some (.int v1), some (.int v2), some (.int v3), some (.int v4), some (.int n5), some (.int n6)] [] nh) (hX0 : ∀ (n5 : Int32) (nh : wSt), K (.inr (n5, nh)) → wM p l e (wR 4) s m args below meth c 0 0 (wE below args s D dA b0 ad S0 F) 7 D dA b0 ad S0 46 [none, none, none, none, none, some (.int n5), none] [] nh) (hf : wok (fX4_howManyShow_l6 h k v1 v2 v3 v4 v5 v6) K) : wM p l e (wR 4) s m args below meth c 0 0 (wE below args s D dA b0 ad S0 F) 7 D dA b0 ad S0 6 [some (.ref k), some (.int v1), some (.int v2), some (.int v3), some (.int v4), some (.int v5), some (.int v6)] [] h := by
  unfold fX4_howManyShow_l6 at hf
  refine w_iload X dX4_howManyShow_6 rfl rfl ?_
  refine w_aload_n X dX4_howManyShow_8 rfl rfl rfl ?_
  refine w_getI X dX4_howManyShow_9 rfl fl_X4_57 hk.1 rfl ?_
  refine w_icmp_ge X dX4_howManyShow_12 rfl (t := 46) rfl (fun hc => ?_) (fun hc => ?_)
  · have hf := wok_t hf hc
    refine w_fg (ls2 := [none, none, none, none, none, some (.int v5), none]) ⟨rfl, trivial⟩ ?_
    exact hX0 _ _ (wok_s hf)
  · have hf := wok_f hf hc
    refine w_iload_n X dX4_howManyShow_15 rfl rfl rfl ?_
    refine w_iload X dX4_howManyShow_16 rfl rfl ?_
    refine w_ishr X dX4_howManyShow_18 rfl ?_
    refine w_iconst X dX4_howManyShow_19 rfl ci_1 ?_
    refine w_iand X dX4_howManyShow_20 rfl ?_
    refine w_if_eq X dX4_howManyShow_21 rfl (t := 40) rfl (fun hc => ?_) (fun hc => ?_)
    · have hf := wok_t hf hc
      exact pX4_howManyShow_b40_6 X hr hk hN hX0 hf
    · have hf := wok_f hf hc
      refine w_aload_n X dX4_howManyShow_24 rfl rfl rfl ?_
      refine w_iload X dX4_howManyShow_25 rfl rfl ?_
      refine w_iload_n X dX4_howManyShow_27 rfl rfl rfl ?_
      refine w_iload_n X dX4_howManyShow_28 rfl rfl rfl ?_
      refine w_iload X dX4_howManyShow_29 rfl rfl ?_
      obtain ⟨yr21, eyr21, hf⟩ := wok_b hf
      refine w_callV X dX4_howManyShow_31 rfl vl_X4_194 (kX4_showsText l hk eyr21) hk.1 (As := [.int v6, .int v2, .int v3, .int v4]) (st := []) rfl rfl (Nat.le_of_ble_eq_true rfl) ⟨Nat.le_of_ble_eq_true rfl, Nat.le_of_ble_eq_true rfl⟩ ⟨Nat.zero_le _, Nat.zero_le _⟩ (fun r h2 hF => ?_)
      obtain ⟨_, rfl, rfl, rfl⟩ := hF
      show wM p l e (wR 4) s m args below meth c 0 0 (wE below args s D dA b0 ad S0 F) 7 D dA b0 ad S0 34 [some (.ref k), some (.int v1), some (.int v2), some (.int v3), some (.int v4), some (.int v5), some (.int v6)] [.int (wb yr21.1)] yr21.2
      refine w_if_eq X dX4_howManyShow_34 rfl (t := 40) rfl (fun hc => ?_) (fun hc => ?_)
      · have hf := wok_f hf (wb_0 hc)
        exact pX4_howManyShow_b40_6 X hr hk hN hX0 hf
      · have hf := wok_t hf (wb_n0 hc)
        refine w_iinc X dX4_howManyShow_37 rfl (v := (v5 + 1)) rfl rfl (Nat.le_of_ble_eq_true rfl) (cinc_1 _) (ls' := [some (.ref k), some (.int v1), some (.int v2), some (.int v3), some (.int v4), some (.int (v5 + 1)), some (.int v6)]) rfl ?_
        exact pX4_howManyShow_b40_6 X hr hk hN hX0 hf
set_option maxRecDepth 4000 in
theorem pX4_howManyShow_l6 (X : wCx p s m args meth c RX4 cX4_howManyShow 7 D dA b0 ad) (hr : meth.sig.returnType = (some .int))  {k : Nat} {v1 : Int32} {v2 : Int32} {v3 : Int32} {v4 : Int32} (hk : wI4 k) {KE : (Int32 × wSt) → Prop} (hX0 : ∀ (n5 : Int32) (nh : wSt), KE ((n5, nh)) → wM p l e (wR 4) s m args below meth c 0 0 (wE below args s D dA b0 ad S0 F) 7 D dA b0 ad S0 46 [none, none, none, none, none, some (.int n5), none] [] nh) : ∀ (n : Nat) (v5 : Int32) (v6 : Int32) (h : wSt), wok (wit (fun v : (Int32 × Int32 × wSt) => fX4_howManyShow_l6 v.2.2 k v1 v2 v3 v4 v.1 v.2.1) n (v5, v6, h)) KE → wM p l e (wR 4) s m args below meth c 0 0 (wE below args s D dA b0 ad S0 F) 7 D dA b0 ad S0 6 [some (.ref k), some (.int v1), some (.int v2), some (.int v3), some (.int v4), some (.int v5), some (.int v6)] [] h := by
  have key := wit_M (b := (fun v : (Int32 × Int32 × wSt) => fX4_howManyShow_l6 v.2.2 k v1 v2 v3 v4 v.1 v.2.1)) (KE := KE) (G := fun v => wM p l e (wR 4) s m args below meth c 0 0 (wE below args s D dA b0 ad S0 F) 7 D dA b0 ad S0 6 [some (.ref k), some (.int v1), some (.int v2), some (.int v3), some (.int v4), some (.int v.1), some (.int v.2.1)] [] v.2.2) (fun v K hN hE hf => pX4_howManyShow_l6b X hr hk (fun n5 n6 nh hz => hN (n5, n6, nh) hz) (fun z0 z1 hz => hX0 z0 z1 (hE _ hz)) hf)
  exact fun n v5 v6 h hf => key n (v5, v6, h) hf
set_option maxRecDepth 4000 in
theorem pX4_howManyShow_b0 (X : wCx p s m args meth c RX4 cX4_howManyShow 7 D dA b0 ad) (hr : meth.sig.returnType = (some .int)) {h : wSt} {k : Nat} {x0 : Int32} {x1 : Int32} {x2 : Int32} {x3 : Int32} (hk : wI4 k) {K : Int32 × wSt → Prop} (hT : ∀ (x : Int32) (h2 : wSt), K (x, h2) → F (some (.int x)) h2) (hf : wok (fX4_howManyShow h k x0 x1 x2 x3) K) : wM p l e (wR 4) s m args below meth c 0 0 (wE below args s D dA b0 ad S0 F) 7 D dA b0 ad S0 0 [some (.ref k), some (.int x0), some (.int x1), some (.int x2), some (.int x3), none, none] [] h := by
  unfold fX4_howManyShow at hf
  refine w_iconst X dX4_howManyShow_0 rfl ci_0 ?_
  refine w_istore X dX4_howManyShow_1 rfl rfl (Nat.le_of_ble_eq_true rfl) (ls' := [some (.ref k), some (.int x0), some (.int x1), some (.int x2), some (.int x3), some (.int 0), none]) rfl ?_
  refine w_iconst X dX4_howManyShow_3 rfl ci_0 ?_
  refine w_istore X dX4_howManyShow_4 rfl rfl (Nat.le_of_ble_eq_true rfl) (ls' := [some (.ref k), some (.int x0), some (.int x1), some (.int x2), some (.int x3), some (.int 0), some (.int 0)]) rfl ?_
  obtain ⟨ye22, hye22, hf⟩ := wok_b hf
  refine pX4_howManyShow_l6 X hr hk (KE := fun z => ye22 = z) ?_ 3000 _ _ _ ⟨ye22, hye22, rfl⟩
  · intro yz23 yz24 hz
    subst hz
    refine w_iload X dX4_howManyShow_46 rfl rfl ?_
    exact w_iret X dX4_howManyShow_48 hr (hT _ _ (wok_s hf))
set_option maxRecDepth 4000 in
theorem kX4_howManyShow (l : Launch) {h : wSt} {k : Nat} {x0 : Int32} {x1 : Int32} {x2 : Int32} {x3 : Int32} (hk : wI4 k) {res : Int32 × wSt} (hf : fX4_howManyShow h k x0 x1 x2 x3 = some res) : wC l yX4_howManyShow cX4_howManyShow 7 (some .int) 4 S0 [.ref k, .int x0, .int x1, .int x2, .int x3] h (wFI (fun a b => res.1 = a ∧ res.2 = b)) := by
  refine w_meth2 2 (by decide) (Nat.le_of_ble_eq_true rfl) (ls := [some (.ref k), some (.int x0), some (.int x1), some (.int x2), some (.int x3), none, none]) rfl ?_
  intro p e s m args below meth c D dA b0 ad X hr
  exact pX4_howManyShow_b0 X hr hk (K := fun z => res = z) (fun x h2 hz => ⟨x, rfl, by rw [hz], by rw [hz]⟩) ⟨res, hf, rfl⟩
end WX

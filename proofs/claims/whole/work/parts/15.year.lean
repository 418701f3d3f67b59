def fX9_copyFrom (h : wSt) (k : Nat) (k0 : Nat) : Option (wSt) :=
wlet (wuI h k 0 (h.1 k0 0)) (fun yh21 =>
wlet (wsI yh21 (k + 1) (va_cpy (yh21.1 (k0 + 1)) (yh21.1 (k + 1)) 0 0 40)) (fun yh22 =>
some yh22))
def fX9_clear (h : wSt) (k : Nat) : Option (wSt) :=
wlet (wuI h k 0 0) (fun yh21 =>
some yh21)
def fX9_actAt (h : wSt) : Option (Int32) :=
(fX7_isWord h 8).bind (fun yr21 =>
if yr21 = true then
some (0 : Int32)
else
(fX7_isWord h 9).bind (fun yr22 =>
if yr22 = true then
some (1 : Int32)
else
(fX7_isWord h 10).bind (fun yr23 =>
if yr23 = true then
some (2 : Int32)
else
(fX7_isWord h 11).bind (fun yr24 =>
if yr24 = true then
some (3 : Int32)
else
some (-1 : Int32)))))
def fX9_readOne_b92 (h : wSt) (k : Nat) (k1 : Nat) (v4 : Int32) : Option (wSt) :=
(fX7_takeSign h (59 : Int32)).bind (fun yr23 =>
if wib (yr23.1 k 0) 40 then
wlet (wuI yr23 (k + 1) (yr23.1 k 0).toNatClampNeg v4) (fun yh25 =>
wlet (wuI yh25 k 0 ((yh25.1 k 0) + 1)) (fun yh26 =>
some yh26))
else none)
def fX9_readOne_b77 (h : wSt) (k : Nat) (k1 : Nat) (v3 : Int32) (v4 : Int32) : Option (wSt) :=
if v3 = 0 then
(fX7_takeNumber h (0 : Int32) (5 : Int32)).bind (fun yr27 =>
fX9_readOne_b92 yr27.2 k k1 (v4 + yr27.1))
else
fX9_readOne_b92 h k k1 v4
def fX9_readOne_b59 (h : wSt) (k : Nat) (k1 : Nat) (v3 : Int32) (v4 : Int32) : Option (wSt) :=
if v3 = 3 then
fX9_readOne_b77 h k k1 v3 v4
else
(fX4_takeSkin h k1).bind (fun yr28 =>
fX9_readOne_b77 yr28.2 k k1 v3 (v4 + (10 * yr28.1)))
def fX9_readOne (h : wSt) (k : Nat) (k1 : Nat) : Option (wSt) :=
(fX9_actAt h ).bind (fun yr21 =>
if yr21 = (-1) then
(fX7_fail h (1 : Int32)).bind (fun yr31 =>
some yr31)
else
if (h.1 k 0) < 40 then
(fX7_next h ).bind (fun yr22 =>
if yr21 = 0 then
(fX4_takeText yr22 k1).bind (fun yr29 =>
fX9_readOne_b59 yr29.2 k k1 yr21 ((1000 * yr21) + (100 * yr29.1)))
else
fX9_readOne_b59 yr22 k k1 yr21 (1000 * yr21))
else
(fX7_fail h (5 : Int32)).bind (fun yr30 =>
some yr30))
def fX9_readFrom_l11 (h : wSt) (k : Nat) (k1 : Nat) (v3 : Int32) : Option ((Int32 × wSt) ⊕ ((wSt))) :=
if 40 < v3 then
some (.inr h)
else
(fX7_isSound h ).bind (fun yr23 =>
if yr23 = true then
(fX7_isAtEnd h ).bind (fun yr24 =>
if yr24 = true then
some (.inr h)
else
(fX9_readOne h k k1).bind (fun yr25 =>
some (.inl ((v3 + 1), yr25))))
else
some (.inr h))
def fX9_readFrom (h : wSt) (k : Nat) (k1 : Nat) : Option (Int32 × wSt) :=
wlet (wuI h k 0 0) (fun yh21 =>
(fX7_rewind yh21 ).bind (fun yr22 =>
(wit (fun v : (Int32 × wSt) => fX9_readFrom_l11 v.2 k k1 v.1) 3000 ((0 : Int32), yr22)).bind (fun ye26 =>
some ((ye26.1 1 7), ye26))))
def fX5_copyFrom (h : wSt) (k : Nat) (k0 : Nat) : Option (wSt) :=
wlet (wuI h k 0 (h.1 k0 0)) (fun yh21 =>
wlet (wsI yh21 (k + 1) (va_cpy (yh21.1 (k0 + 1)) (yh21.1 (k + 1)) 0 0 8)) (fun yh22 =>
wlet (wsI yh22 (k + 2) (va_cpy (yh22.1 (k0 + 2)) (yh22.1 (k + 2)) 0 0 8)) (fun yh23 =>
wlet (wsI yh23 (k + 3) (va_cpy (yh23.1 (k0 + 3)) (yh23.1 (k + 3)) 0 0 8)) (fun yh24 =>
wlet (wsI yh24 (k + 4) (va_cpy (yh24.1 (k0 + 4)) (yh24.1 (k + 4)) 0 0 8)) (fun yh25 =>
some yh25)))))
def fX5_clear (h : wSt) (k : Nat) : Option (wSt) :=
wlet (wuI h k 0 0) (fun yh21 =>
some yh21)
def fX5_add_b59 (h : wSt) (k : Nat) (w1 : Int32) (w2 : Int32) : Option (Bool × wSt) :=
if wib w1 8 then
wlet (wuI h (k + 4) w1.toNatClampNeg w2) (fun yh28 =>
wlet (wuI yh28 k 0 ((yh28.1 k 0) + 1)) (fun yh29 =>
some (true, yh29)))
else none
def fX5_add (h : wSt) (k : Nat) (x0 : Int32) (x1 : Int32) (x2 : Int32) (x3 : Int32) : Option (Bool × wSt) :=
if (h.1 k 0) < 8 then
if wib (h.1 k 0) 8 then
wlet (wuI h (k + 1) (h.1 k 0).toNatClampNeg x0) (fun yh22 =>
if wib (yh22.1 k 0) 8 then
wlet (wuI yh22 (k + 2) (yh22.1 k 0).toNatClampNeg x1) (fun yh24 =>
if wib (yh24.1 k 0) 8 then
wlet (wuI yh24 (k + 3) (yh24.1 k 0).toNatClampNeg x2) (fun yh26 =>
if x3 = 0 then
fX5_add_b59 yh26 k (yh26.1 k 0) (0 : Int32)
else
fX5_add_b59 yh26 k (yh26.1 k 0) (1 : Int32))
else none)
else none)
else none
else
some (false, h)
def fX5_agrees_b63_3 (h : wSt) (k : Nat) (k1 : Nat) (k2 : Nat) (v1 : Int32) (v4 : Int32) (w0 : Int32) (w1 : Int32) : Option ((Int32 × wSt) ⊕ ((wSt) ⊕ (Bool × wSt))) :=
if w0 = w1 then
some (.inl ((v4 + 1), h))
else
some (.inr (.inr (false, h)))
def fX5_agrees_l3 (h : wSt) (k : Nat) (k1 : Nat) (k2 : Nat) (v1 : Int32) (v4 : Int32) : Option ((Int32 × wSt) ⊕ ((wSt) ⊕ (Bool × wSt))) :=
if (h.1 k 0) ≤ v4 then
some (.inr (.inl h))
else
if wib v4 8 then
if wib (h.1 (k + 1) v4.toNatClampNeg) 3 then
(fX4_showsText h k1 v1 (h.1 (k + 2) v4.toNatClampNeg) (h.1 (k + 3) v4.toNatClampNeg) (h.1 (k2 + 1) (h.1 (k + 1) v4.toNatClampNeg).toNatClampNeg)).bind (fun yr23 =>
if (yr23.2.1 (k + 4) v4.toNatClampNeg) = 1 then
fX5_agrees_b63_3 yr23.2 k k1 k2 v1 v4 (wb yr23.1) (1 : Int32)
else
fX5_agrees_b63_3 yr23.2 k k1 k2 v1 v4 (wb yr23.1) (0 : Int32))
else none
else none
def fX5_agrees (h : wSt) (k : Nat) (x0 : Int32) (k1 : Nat) (k2 : Nat) : Option (Bool × wSt) :=
(wit (fun v : (Int32 × wSt) => fX5_agrees_l3 v.2 k k1 k2 x0 v.1) 3000 ((0 : Int32), h)).bind (fun ye24 => match ye24 with
| .inl ye24v =>
some (true, ye24v)
| .inr ye24r =>
some ye24r)
def fX8_clear (h : wSt) : Option (wSt) :=
wlet (wuI h 48 0 0) (fun yh21 =>
some yh21)
def fX8_keep (h : wSt) (k0 : Nat) : Option (wSt) :=
if wib (h.1 48 1) 16 then
(fX6_copyFrom h (50 + 5 * (h.1 48 1).toNatClampNeg) k0).bind (fun yr22 =>
wlet (wuI yr22 48 1 (((yr22.1 48 1) + 1) - ((yr22.1 48 1) + 1) / 16 * 16)) (fun yh23 =>
wlet (wuI yh23 48 0 (wmn ((yh23.1 48 0) + 1) (16 : Int32))) (fun yh24 =>
some yh24)))
else none
def fX8_takeBack (h : wSt) (k0 : Nat) : Option (Bool × wSt) :=
if (h.1 48 0) = 0 then
some (false, h)
else
wlet (wuI h 48 0 ((h.1 48 0) - 1)) (fun yh21 =>
wlet (wuI yh21 48 1 ((((yh21.1 48 1) + 16) - 1) - (((yh21.1 48 1) + 16) - 1) / 16 * 16)) (fun yh22 =>
if wib (yh22.1 48 1) 16 then
(fX6_copyFrom yh22 k0 (50 + 5 * (yh22.1 48 1).toNatClampNeg)).bind (fun yr24 =>
some (true, yr24))
else none))
def fX0_keep (h : wSt) (k : Nat) (k0 : Nat) (k1 : Nat) (k2 : Nat) : Option (wSt) :=
(fX6_copyFrom h (k + 8) k0).bind (fun yr21 =>
(fX9_copyFrom yr21 (k + 1) k1).bind (fun yr22 =>
(fX5_copyFrom yr22 (k + 3) k2).bind (fun yr23 =>
wlet (wuI yr23 k 0 1) (fun yh24 =>
some yh24))))
def fX3_gatherShortest_b70_16 (h : wSt) (v1 : Int32) (v2 : Int32) (v3 : Int32) (v4 : Int32) : Option ((Int32 × wSt) ⊕ ((wSt))) :=
some (.inl ((v4 + 1), h))
def fX3_gatherShortest_l16 (h : wSt) (v1 : Int32) (v2 : Int32) (v3 : Int32) (v4 : Int32) : Option ((Int32 × wSt) ⊕ ((wSt))) :=
if (h.1 3 5) ≤ v4 then
some (.inr h)
else
if v1 ≤ (h.1 130 4) then
some (.inr h)
else
if wib v4 6 then
if (h.1 11 v4.toNatClampNeg) = v3 then
if wib (h.1 130 4) 6 then
wlet (wuI h 132 (h.1 130 4).toNatClampNeg v3) (fun yh24 =>
wlet (wuI yh24 130 4 ((yh24.1 130 4) + 1)) (fun yh25 =>
fX3_gatherShortest_b70_16 yh25 v1 v2 v3 v4))
else none
else
fX3_gatherShortest_b70_16 h v1 v2 v3 v4
else none
def fX3_gatherShortest_l7 (h : wSt) (v1 : Int32) (v2 : Int32) (v3 : Int32) : Option ((Int32 × wSt) ⊕ ((wSt))) :=
if 6 < v3 then
some (.inr h)
else
(wit (fun v : (Int32 × wSt) => fX3_gatherShortest_l16 v.2 v1 v2 v3 v.1) 3000 (v2, h)).bind (fun ye26 =>
some (.inl ((v3 + 1), ye26)))
def fX3_gatherShortest (h : wSt) (x0 : Int32) (x1 : Int32) : Option (wSt) :=
wlet (wuI h 130 4 0) (fun yh21 =>
(wit (fun v : (Int32 × wSt) => fX3_gatherShortest_l7 v.2 x0 x1 v.1) 3000 ((1 : Int32), yh21)).bind (fun ye28 =>
some ye28))
def fX3_gatherStretches_b99_9 (h : wSt) (v1 : Int32) (v2 : Int32) (v3 : Int32) : Option ((Int32 × Int32 × wSt) ⊕ ((wSt))) :=
some (.inl (v2, (v3 + 1), h))
def fX3_gatherStretches_b66_9 (h : wSt) (v1 : Int32) (v2 : Int32) (v3 : Int32) (w0 : Int32) : Option ((Int32 × Int32 × wSt) ⊕ ((wSt))) :=
if v2 ≤ 0 then
fX3_gatherStretches_b99_9 h v1 v2 v3
else
if w0 = 0 then
fX3_gatherStretches_b99_9 h v1 v2 v3
else
if wib (h.1 130 6) 18 then
wlet (wuI h 133 (h.1 130 6).toNatClampNeg v2) (fun yh23 =>
wlet (wuI yh23 130 6 ((yh23.1 130 6) + 1)) (fun yh24 =>
fX3_gatherStretches_b99_9 yh24 v1 (0 : Int32) v3))
else none
def fX3_gatherStretches_b61_9 (h : wSt) (v1 : Int32) (v2 : Int32) (v3 : Int32) : Option ((Int32 × Int32 × wSt) ⊕ ((wSt))) :=
fX3_gatherStretches_b66_9 h v1 v2 v3 (1 : Int32)
def fX3_gatherStretches_b44_9 (h : wSt) (v1 : Int32) (v2 : Int32) (v3 : Int32) (w0 : Int32) : Option ((Int32 × Int32 × wSt) ⊕ ((wSt))) :=
if w0 = 0 then
if ((v1 >>> ((v3 + 1) &&& 31)) &&& 1) = 0 then
fX3_gatherStretches_b61_9 h v1 v2 v3
else
fX3_gatherStretches_b66_9 h v1 v2 v3 (0 : Int32)
else
fX3_gatherStretches_b61_9 h v1 v2 v3
def fX3_gatherStretches_b30_9 (h : wSt) (v1 : Int32) (v3 : Int32) (w0 : Int32) : Option ((Int32 × Int32 × wSt) ⊕ ((wSt))) :=
if (v3 - v3 / 6 * 6) = 5 then
fX3_gatherStretches_b44_9 h v1 w0 v3 (1 : Int32)
else
fX3_gatherStretches_b44_9 h v1 w0 v3 (0 : Int32)
def fX3_gatherStretches_l9 (h : wSt) (v1 : Int32) (v2 : Int32) (v3 : Int32) : Option ((Int32 × Int32 × wSt) ⊕ ((wSt))) :=
if 18 ≤ v3 then
some (.inr h)
else
if ((v1 >>> (v3 &&& 31)) &&& 1) = 0 then
fX3_gatherStretches_b30_9 h v1 v3 (0 : Int32)
else
fX3_gatherStretches_b30_9 h v1 v3 (v2 + 1)
def fX3_gatherStretches (h : wSt) (x0 : Int32) : Option (wSt) :=
wlet (wuI h 130 6 0) (fun yh21 =>
(wit (fun v : (Int32 × Int32 × wSt) => fX3_gatherStretches_l9 v.2.2 x0 v.1 v.2.1) 3000 ((0 : Int32), (0 : Int32), yh21)).bind (fun ye25 =>
some ye25))
section WX
variable {p : Program} {l : Launch} {e : Env} {s : State} {m : MethodId} {args : Array Value} {below : List Frame} {meth : Method} {c : Code} {D : va_G} {dA : Nat → ClassId} {b0 : Nat} {ad : Nat → Nat} {F : Option Value → wSt → Prop}
set_option maxRecDepth 4000 in
theorem pX9_copyFrom_b0 (X : wCx p s m args meth c RX9 cX9_copyFrom 2 D dA b0 ad) (hr : meth.sig.returnType = none) {h : wSt} {k : Nat} {k0 : Nat} (hk : wI9 k) (hk0 : wI9 k0) {K : wSt → Prop} (hT : ∀ (h2 : wSt), K h2 → F none h2) (hf : wok (fX9_copyFrom h k k0) K) : wM p l e (wR 1) s m args below meth c 0 0 (wE below args s D dA b0 ad S0 F) 2 D dA b0 ad S0 0 [some (.ref k), some (.ref k0)] [] h := by
  unfold fX9_copyFrom at hf
  refine w_aload_n X dX9_copyFrom_0 rfl rfl rfl ?_
  refine w_aload_n X dX9_copyFrom_1 rfl rfl rfl ?_
  refine w_getI X dX9_copyFrom_2 rfl fl_X9_15 hk0.1 rfl ?_
  refine w_putI X dX9_copyFrom_5 rfl fp_X9_15 hk.1 rfl ?_
  refine w_nmh (fun yh21 eyh21 => ?_)
  have hf := wok_l hf eyh21
  refine w_aload_n X dX9_copyFrom_8 rfl rfl rfl ?_
  refine w_getR X dX9_copyFrom_9 rfl fl_X9_11 hk0.1 rfl ?_
  refine w_iconst X dX9_copyFrom_12 rfl ci_0 ?_
  refine w_aload_n X dX9_copyFrom_13 rfl rfl rfl ?_
  refine w_getR X dX9_copyFrom_14 rfl fl_X9_11 hk.1 rfl ?_
  refine w_iconst X dX9_copyFrom_17 rfl ci_0 ?_
  refine w_bipush X dX9_copyFrom_18 rfl cb_40 ?_
  refine w_copyI X dX9_copyFrom_20 rfl cn_0 cn_0 (n2 := 40) cn_40 wd_721 wd_659 wd_658 wd_19 hk0.2 hk.2 (by decide) (by decide) (by decide) (Nat.le_of_ble_eq_true rfl) (Nat.le_of_ble_eq_true rfl) (Nat.le_of_ble_eq_true rfl) (Nat.le_of_ble_eq_true rfl) ?_
  refine w_nmh (fun yh22 eyh22 => ?_)
  have hf := wok_l hf eyh22
  exact w_vret X dX9_copyFrom_23 hr (hT _ (wok_s hf))
set_option maxRecDepth 4000 in
theorem kX9_copyFrom (l : Launch) {h : wSt} {k : Nat} {k0 : Nat} (hk : wI9 k) (hk0 : wI9 k0) {res : wSt} (hf : fX9_copyFrom h k k0 = some res) : wC l yX9_copyFrom cX9_copyFrom 2 none 1 S0 [.ref k, .ref k0] h (wFV (fun b => res = b)) := by
  refine w_meth2 0 (by decide) (Nat.le_of_ble_eq_true rfl) (ls := [some (.ref k), some (.ref k0)]) rfl ?_
  intro p e s m args below meth c D dA b0 ad X hr
  exact pX9_copyFrom_b0 X hr hk hk0 (K := fun z => res = z) (fun h2 hz => ⟨rfl, hz⟩) ⟨res, hf, rfl⟩
set_option maxRecDepth 4000 in
theorem pX9_clear_b0 (X : wCx p s m args meth c RX9 cX9_clear 1 D dA b0 ad) (hr : meth.sig.returnType = none) {h : wSt} {k : Nat} (hk : wI9 k) {K : wSt → Prop} (hT : ∀ (h2 : wSt), K h2 → F none h2) (hf : wok (fX9_clear h k) K) : wM p l e (wR 1) s m args below meth c 0 0 (wE below args s D dA b0 ad S0 F) 1 D dA b0 ad S0 0 [some (.ref k)] [] h := by
  unfold fX9_clear at hf
  refine w_aload_n X dX9_clear_0 rfl rfl rfl ?_
  refine w_iconst X dX9_clear_1 rfl ci_0 ?_
  refine w_putI X dX9_clear_2 rfl fp_X9_15 hk.1 rfl ?_
  refine w_nmh (fun yh21 eyh21 => ?_)
  have hf := wok_l hf eyh21
  exact w_vret X dX9_clear_5 hr (hT _ (wok_s hf))
set_option maxRecDepth 4000 in
theorem kX9_clear (l : Launch) {h : wSt} {k : Nat} (hk : wI9 k) {res : wSt} (hf : fX9_clear h k = some res) : wC l yX9_clear cX9_clear 1 none 1 S0 [.ref k] h (wFV (fun b => res = b)) := by
  refine w_meth2 0 (by decide) (Nat.le_of_ble_eq_true rfl) (ls := [some (.ref k)]) rfl ?_
  intro p e s m args below meth c D dA b0 ad X hr
  exact pX9_clear_b0 X hr hk (K := fun z => res = z) (fun h2 hz => ⟨rfl, hz⟩) ⟨res, hf, rfl⟩
set_option maxRecDepth 4000 in
theorem pX9_actAt_b0 (X : wCx p s m args meth c RX9 cX9_actAt 1 D dA b0 ad) (hr : meth.sig.returnType = (some .int)) {h : wSt} {K : Int32 → Prop} (hT : ∀ (x : Int32), K x → F (some (.int x)) h) (hf : wok (fX9_actAt h ) K) : wM p l e (wR 6) s m args below meth c 0 0 (wE below args s D dA b0 ad S0 F) 1 D dA b0 ad S0 0 [some (.ref 1)] [] h := by
  unfold fX9_actAt at hf
  refine w_aload_n X dX9_actAt_0 rfl rfl rfl ?_
  refine w_ldcS X dX9_actAt_1 rfl (i := 8) (tx := "write") (by decide +kernel) ?_
  obtain ⟨yr21, eyr21, hf⟩ := wok_b hf
  refine w_callV X dX9_actAt_3 rfl vl_X9_73 (kX7_isWord l (by decide) eyr21) S0_1 (As := [.ref (100000 + 8)]) (st := []) rfl rfl (Nat.le_of_ble_eq_true rfl) ⟨Nat.le_of_ble_eq_true rfl, Nat.le_of_ble_eq_true rfl⟩ ⟨Nat.zero_le _, Nat.zero_le _⟩ (fun r h2 hF => ?_)
  obtain ⟨_, rfl, rfl, rfl⟩ := hF
  show wM p l e (wR 6) s m args below meth c 0 0 (wE below args s D dA b0 ad S0 F) 1 D dA b0 ad S0 6 [some (.ref 1)] [.int (wb yr21)] h
  refine w_if_eq X dX9_actAt_6 rfl (t := 11) rfl (fun hc => ?_) (fun hc => ?_)
  · have hf := wok_f hf (wb_0 hc)
    refine w_aload_n X dX9_actAt_11 rfl rfl rfl ?_
    refine w_ldcS X dX9_actAt_12 rfl (i := 9) (tx := "scrape") (by decide +kernel) ?_
    obtain ⟨yr22, eyr22, hf⟩ := wok_b hf
    refine w_callV X dX9_actAt_14 rfl vl_X9_73 (kX7_isWord l (by decide) eyr22) S0_1 (As := [.ref (100000 + 9)]) (st := []) rfl rfl (Nat.le_of_ble_eq_true rfl) ⟨Nat.le_of_ble_eq_true rfl, Nat.le_of_ble_eq_true rfl⟩ ⟨Nat.zero_le _, Nat.zero_le _⟩ (fun r h2 hF => ?_)
    obtain ⟨_, rfl, rfl, rfl⟩ := hF
    show wM p l e (wR 6) s m args below meth c 0 0 (wE below args s D dA b0 ad S0 F) 1 D dA b0 ad S0 17 [some (.ref 1)] [.int (wb yr22)] h
    refine w_if_eq X dX9_actAt_17 rfl (t := 22) rfl (fun hc => ?_) (fun hc => ?_)
    · have hf := wok_f hf (wb_0 hc)
      refine w_aload_n X dX9_actAt_22 rfl rfl rfl ?_
      refine w_ldcS X dX9_actAt_23 rfl (i := 10) (tx := "third") (by decide +kernel) ?_
      obtain ⟨yr23, eyr23, hf⟩ := wok_b hf
      refine w_callV X dX9_actAt_25 rfl vl_X9_73 (kX7_isWord l (by decide) eyr23) S0_1 (As := [.ref (100000 + 10)]) (st := []) rfl rfl (Nat.le_of_ble_eq_true rfl) ⟨Nat.le_of_ble_eq_true rfl, Nat.le_of_ble_eq_true rfl⟩ ⟨Nat.zero_le _, Nat.zero_le _⟩ (fun r h2 hF => ?_)
      obtain ⟨_, rfl, rfl, rfl⟩ := hF
      show wM p l e (wR 6) s m args below meth c 0 0 (wE below args s D dA b0 ad S0 F) 1 D dA b0 ad S0 28 [some (.ref 1)] [.int (wb yr23)] h
      refine w_if_eq X dX9_actAt_28 rfl (t := 33) rfl (fun hc => ?_) (fun hc => ?_)
      · have hf := wok_f hf (wb_0 hc)
        refine w_aload_n X dX9_actAt_33 rfl rfl rfl ?_
        refine w_ldcS X dX9_actAt_34 rfl (i := 11) (tx := "week") (by decide +kernel) ?_
        obtain ⟨yr24, eyr24, hf⟩ := wok_b hf
        refine w_callV X dX9_actAt_36 rfl vl_X9_73 (kX7_isWord l (by decide) eyr24) S0_1 (As := [.ref (100000 + 11)]) (st := []) rfl rfl (Nat.le_of_ble_eq_true rfl) ⟨Nat.le_of_ble_eq_true rfl, Nat.le_of_ble_eq_true rfl⟩ ⟨Nat.zero_le _, Nat.zero_le _⟩ (fun r h2 hF => ?_)
        obtain ⟨_, rfl, rfl, rfl⟩ := hF
        show wM p l e (wR 6) s m args below meth c 0 0 (wE below args s D dA b0 ad S0 F) 1 D dA b0 ad S0 39 [some (.ref 1)] [.int (wb yr24)] h
        refine w_if_eq X dX9_actAt_39 rfl (t := 46) rfl (fun hc => ?_) (fun hc => ?_)
        · have hf := wok_f hf (wb_0 hc)
          refine w_iconst X dX9_actAt_46 rfl ci_m1 ?_
          exact w_iret X dX9_actAt_47 hr (hT _ (wok_s hf))
        · have hf := wok_t hf (wb_n0 hc)
          refine w_iconst X dX9_actAt_42 rfl ci_3 ?_
          refine w_goto X dX9_actAt_43 (t := 47) rfl ?_
          exact w_iret X dX9_actAt_47 hr (hT _ (wok_s hf))
      · have hf := wok_t hf (wb_n0 hc)
        refine w_iconst X dX9_actAt_31 rfl ci_2 ?_
        exact w_iret X dX9_actAt_32 hr (hT _ (wok_s hf))
    · have hf := wok_t hf (wb_n0 hc)
      refine w_iconst X dX9_actAt_20 rfl ci_1 ?_
      exact w_iret X dX9_actAt_21 hr (hT _ (wok_s hf))
  · have hf := wok_t hf (wb_n0 hc)
    refine w_iconst X dX9_actAt_9 rfl ci_0 ?_
    exact w_iret X dX9_actAt_10 hr (hT _ (wok_s hf))
set_option maxRecDepth 4000 in
theorem kX9_actAt (l : Launch) {h : wSt} {res : Int32} (hf : fX9_actAt h  = some res) : wC l yX9_actAt cX9_actAt 1 (some .int) 6 S0 [.ref 1] h (wFI (fun a b => res = a ∧ h = b)) := by
  refine w_meth2 0 (by decide) (Nat.le_of_ble_eq_true rfl) (ls := [some (.ref 1)]) rfl ?_
  intro p e s m args below meth c D dA b0 ad X hr
  exact pX9_actAt_b0 X hr  (K := fun z => res = z) (fun x hz => ⟨x, rfl, hz, rfl⟩) ⟨res, hf, rfl⟩
set_option maxRecDepth 4000 in
theorem pX9_readOne_b92 (X : wCx p s m args meth c RX9 cX9_readOne 5 D dA b0 ad) (hr : meth.sig.returnType = none) {h : wSt} {k : Nat} {k1 : Nat} {v4 : Int32} (hk : wI9 k) (hk1 : wI4 k1) {K : wSt → Prop} (hT : ∀ (h2 : wSt), K h2 → F none h2)  (hf : wok (fX9_readOne_b92 h k k1 v4) K) : wM p l e (wR 9) s m args below meth c 0 0 (wE below args s D dA b0 ad S0 F) 5 D dA b0 ad S0 92 [some (.ref k), some (.ref 1), none, none, some (.int v4)] [] h := by
  unfold fX9_readOne_b92 at hf
  refine w_aload_n X dX9_readOne_92 rfl rfl rfl ?_
  refine w_bipush X dX9_readOne_93 rfl cb_59 ?_
  obtain ⟨yr23, eyr23, hf⟩ := wok_b hf
  refine w_callV X dX9_readOne_95 rfl vl_X9_67 (kX7_takeSign l  eyr23) S0_1 (As := [.int 59]) (st := []) rfl rfl (Nat.le_of_ble_eq_true rfl) ⟨Nat.le_of_ble_eq_true rfl, Nat.le_of_ble_eq_true rfl⟩ ⟨Nat.zero_le _, Nat.zero_le _⟩ (fun r h2 hF => ?_)
  obtain ⟨rfl, rfl⟩ := hF
  show wM p l e (wR 9) s m args below meth c 0 0 (wE below args s D dA b0 ad S0 F) 5 D dA b0 ad S0 98 [some (.ref k), some (.ref 1), none, none, some (.int v4)] [] yr23
  refine w_aload_n X dX9_readOne_98 rfl rfl rfl ?_
  refine w_getR X dX9_readOne_99 rfl fl_X9_11 hk.1 rfl ?_
  refine w_aload_n X dX9_readOne_102 rfl rfl rfl ?_
  refine w_getI X dX9_readOne_103 rfl fl_X9_15 hk.1 rfl ?_
  refine w_iload X dX9_readOne_106 rfl rfl ?_
  obtain ⟨yhg24, hf⟩ := wok_g hf
  refine w_iast X dX9_readOne_108 rfl (j := (yr23.1 k 0).toNatClampNeg) rfl hk.2 yhg24 ?_
  refine w_nmh (fun yh25 eyh25 => ?_)
  have hf := wok_l hf eyh25
  refine w_aload_n X dX9_readOne_109 rfl rfl rfl ?_
  refine w_dup X dX9_readOne_110 rfl rfl ?_
  refine w_getI X dX9_readOne_111 rfl fl_X9_15 hk.1 rfl ?_
  refine w_iconst X dX9_readOne_114 rfl ci_1 ?_
  refine w_iadd X dX9_readOne_115 rfl ?_
  refine w_putI X dX9_readOne_116 rfl fp_X9_15 hk.1 rfl ?_
  refine w_nmh (fun yh26 eyh26 => ?_)
  have hf := wok_l hf eyh26
  exact w_vret X dX9_readOne_119 hr (hT _ (wok_s hf))
set_option maxRecDepth 4000 in
theorem pX9_readOne_b77 (X : wCx p s m args meth c RX9 cX9_readOne 5 D dA b0 ad) (hr : meth.sig.returnType = none) {h : wSt} {k : Nat} {k1 : Nat} {v3 : Int32} {v4 : Int32} (hk : wI9 k) (hk1 : wI4 k1) {K : wSt → Prop} (hT : ∀ (h2 : wSt), K h2 → F none h2)  (hf : wok (fX9_readOne_b77 h k k1 v3 v4) K) : wM p l e (wR 9) s m args below meth c 0 0 (wE below args s D dA b0 ad S0 F) 5 D dA b0 ad S0 77 [some (.ref k), some (.ref 1), none, some (.int v3), some (.int v4)] [] h := by
  unfold fX9_readOne_b77 at hf
  refine w_iload_n X dX9_readOne_77 rfl rfl rfl ?_
  refine w_if_ne X dX9_readOne_78 rfl (t := 92) rfl (fun hc => ?_) (fun hc => ?_)
  · have hf := wok_f hf hc
    refine w_fg (ls2 := [some (.ref k), some (.ref 1), none, none, some (.int v4)]) ⟨rfl, rfl, rfl, trivial⟩ ?_
    exact pX9_readOne_b92 X hr hk hk1 hT hf
  · have hf := wok_t hf hc
    refine w_iload X dX9_readOne_81 rfl rfl ?_
    refine w_aload_n X dX9_readOne_83 rfl rfl rfl ?_
    refine w_iconst X dX9_readOne_84 rfl ci_0 ?_
    refine w_iconst X dX9_readOne_85 rfl ci_5 ?_
    obtain ⟨yr27, eyr27, hf⟩ := wok_b hf
    refine w_callV X dX9_readOne_86 rfl vl_X9_63 (kX7_takeNumber l  eyr27) S0_1 (As := [.int 0, .int 5]) (st := [.int v4]) rfl rfl (Nat.le_of_ble_eq_true rfl) ⟨Nat.le_of_ble_eq_true rfl, Nat.le_of_ble_eq_true rfl⟩ ⟨Nat.zero_le _, Nat.zero_le _⟩ (fun r h2 hF => ?_)
    obtain ⟨_, rfl, rfl, rfl⟩ := hF
    show wM p l e (wR 9) s m args below meth c 0 0 (wE below args s D dA b0 ad S0 F) 5 D dA b0 ad S0 89 [some (.ref k), some (.ref 1), none, some (.int v3), some (.int v4)] [.int yr27.1, .int v4] yr27.2
    refine w_iadd X dX9_readOne_89 rfl ?_
    refine w_istore X dX9_readOne_90 rfl rfl (Nat.le_of_ble_eq_true rfl) (ls' := [some (.ref k), some (.ref 1), none, some (.int v3), some (.int (v4 + yr27.1))]) rfl ?_
    refine w_fg (ls2 := [some (.ref k), some (.ref 1), none, none, some (.int (v4 + yr27.1))]) ⟨rfl, rfl, rfl, trivial⟩ ?_
    exact pX9_readOne_b92 X hr hk hk1 hT hf
set_option maxRecDepth 4000 in
theorem pX9_readOne_b59 (X : wCx p s m args meth c RX9 cX9_readOne 5 D dA b0 ad) (hr : meth.sig.returnType = none) {h : wSt} {k : Nat} {k1 : Nat} {v3 : Int32} {v4 : Int32} (hk : wI9 k) (hk1 : wI4 k1) {K : wSt → Prop} (hT : ∀ (h2 : wSt), K h2 → F none h2)  (hf : wok (fX9_readOne_b59 h k k1 v3 v4) K) : wM p l e (wR 9) s m args below meth c 0 0 (wE below args s D dA b0 ad S0 F) 5 D dA b0 ad S0 59 [some (.ref k), some (.ref 1), some (.ref k1), some (.int v3), some (.int v4)] [] h := by
  unfold fX9_readOne_b59 at hf
  refine w_iload_n X dX9_readOne_59 rfl rfl rfl ?_
  refine w_iconst X dX9_readOne_60 rfl ci_3 ?_
  refine w_icmp_eq X dX9_readOne_61 rfl (t := 77) rfl (fun hc => ?_) (fun hc => ?_)
  · have hf := wok_t hf hc
    refine w_fg (ls2 := [some (.ref k), some (.ref 1), none, some (.int v3), some (.int v4)]) ⟨rfl, rfl, rfl, rfl, trivial⟩ ?_
    exact pX9_readOne_b77 X hr hk hk1 hT hf
  · have hf := wok_f hf hc
    refine w_iload X dX9_readOne_64 rfl rfl ?_
    refine w_bipush X dX9_readOne_66 rfl cb_10 ?_
    refine w_aload_n X dX9_readOne_68 rfl rfl rfl ?_
    refine w_aload_n X dX9_readOne_69 rfl rfl rfl ?_
    obtain ⟨yr28, eyr28, hf⟩ := wok_b hf
    refine w_callV X dX9_readOne_70 rfl vl_X9_60 (kX4_takeSkin l hk1 eyr28) hk1.1 (As := [.ref 1]) (st := [.int 10, .int v4]) rfl rfl (Nat.le_of_ble_eq_true rfl) ⟨Nat.le_of_ble_eq_true rfl, Nat.le_of_ble_eq_true rfl⟩ ⟨Nat.zero_le _, Nat.zero_le _⟩ (fun r h2 hF => ?_)
    obtain ⟨_, rfl, rfl, rfl⟩ := hF
    show wM p l e (wR 9) s m args below meth c 0 0 (wE below args s D dA b0 ad S0 F) 5 D dA b0 ad S0 73 [some (.ref k), some (.ref 1), some (.ref k1), some (.int v3), some (.int v4)] [.int yr28.1, .int 10, .int v4] yr28.2
    refine w_imul X dX9_readOne_73 rfl ?_
    refine w_iadd X dX9_readOne_74 rfl ?_
    refine w_istore X dX9_readOne_75 rfl rfl (Nat.le_of_ble_eq_true rfl) (ls' := [some (.ref k), some (.ref 1), some (.ref k1), some (.int v3), some (.int (v4 + (10 * yr28.1)))]) rfl ?_
    refine w_fg (ls2 := [some (.ref k), some (.ref 1), none, some (.int v3), some (.int (v4 + (10 * yr28.1)))]) ⟨rfl, rfl, rfl, rfl, trivial⟩ ?_
    exact pX9_readOne_b77 X hr hk hk1 hT hf
set_option maxRecDepth 4000 in
theorem pX9_readOne_b0 (X : wCx p s m args meth c RX9 cX9_readOne 5 D dA b0 ad) (hr : meth.sig.returnType = none) {h : wSt} {k : Nat} {k1 : Nat} (hk : wI9 k) (hk1 : wI4 k1) {K : wSt → Prop} (hT : ∀ (h2 : wSt), K h2 → F none h2) (hf : wok (fX9_readOne h k k1) K) : wM p l e (wR 9) s m args below meth c 0 0 (wE below args s D dA b0 ad S0 F) 5 D dA b0 ad S0 0 [some (.ref k), some (.ref 1), some (.ref k1), none, none] [] h := by
  unfold fX9_readOne at hf
  refine w_aload_n X dX9_readOne_0 rfl rfl rfl ?_
  obtain ⟨yr21, eyr21, hf⟩ := wok_b hf
  refine w_callS X dX9_readOne_1 rfl sl_X9_44 (kX9_actAt l  eyr21) (As := [.ref 1]) (st := []) rfl rfl (Nat.le_of_ble_eq_true rfl) ⟨Nat.le_of_ble_eq_true rfl, Nat.le_of_ble_eq_true rfl⟩ ⟨Nat.zero_le _, Nat.zero_le _⟩ (fun r h2 hF => ?_)
  obtain ⟨_, rfl, rfl, rfl⟩ := hF
  show wM p l e (wR 9) s m args below meth c 0 0 (wE below args s D dA b0 ad S0 F) 5 D dA b0 ad S0 4 [some (.ref k), some (.ref 1), some (.ref k1), none, none] [.int yr21] h
  refine w_istore_n X dX9_readOne_4 rfl rfl rfl (Nat.le_of_ble_eq_true rfl) (ls' := [some (.ref k), some (.ref 1), some (.ref k1), some (.int yr21), none]) rfl ?_
  refine w_iload_n X dX9_readOne_5 rfl rfl rfl ?_
  refine w_iconst X dX9_readOne_6 rfl ci_m1 ?_
  refine w_icmp_ne X dX9_readOne_7 rfl (t := 16) rfl (fun hc => ?_) (fun hc => ?_)
  · have hf := wok_f hf hc
    refine w_aload_n X dX9_readOne_16 rfl rfl rfl ?_
    refine w_getI X dX9_readOne_17 rfl fl_X9_15 hk.1 rfl ?_
    refine w_bipush X dX9_readOne_20 rfl cb_40 ?_
    refine w_icmp_lt X dX9_readOne_22 rfl (t := 31) rfl (fun hc => ?_) (fun hc => ?_)
    · have hf := wok_t hf hc
      refine w_aload_n X dX9_readOne_31 rfl rfl rfl ?_
      obtain ⟨yr22, eyr22, hf⟩ := wok_b hf
      refine w_callV X dX9_readOne_32 rfl vl_X9_52 (kX7_next l  eyr22) S0_1 (As := []) (st := []) rfl rfl (Nat.le_of_ble_eq_true rfl) ⟨Nat.le_of_ble_eq_true rfl, Nat.le_of_ble_eq_true rfl⟩ ⟨Nat.zero_le _, Nat.zero_le _⟩ (fun r h2 hF => ?_)
      obtain ⟨rfl, rfl⟩ := hF
      show wM p l e (wR 9) s m args below meth c 0 0 (wE below args s D dA b0 ad S0 F) 5 D dA b0 ad S0 35 [some (.ref k), some (.ref 1), some (.ref k1), some (.int yr21), none] [] yr22
      refine w_sipush X dX9_readOne_35 rfl cs_1000 ?_
      refine w_iload_n X dX9_readOne_38 rfl rfl rfl ?_
      refine w_imul X dX9_readOne_39 rfl ?_
      refine w_istore X dX9_readOne_40 rfl rfl (Nat.le_of_ble_eq_true rfl) (ls' := [some (.ref k), some (.ref 1), some (.ref k1), some (.int yr21), some (.int (1000 * yr21))]) rfl ?_
      refine w_iload_n X dX9_readOne_42 rfl rfl rfl ?_
      refine w_if_ne X dX9_readOne_43 rfl (t := 59) rfl (fun hc => ?_) (fun hc => ?_)
      · have hf := wok_f hf hc
        exact pX9_readOne_b59 X hr hk hk1 hT hf
      · have hf := wok_t hf hc
        refine w_iload X dX9_readOne_46 rfl rfl ?_
        refine w_bipush X dX9_readOne_48 rfl cb_100 ?_
        refine w_aload_n X dX9_readOne_50 rfl rfl rfl ?_
        refine w_aload_n X dX9_readOne_51 rfl rfl rfl ?_
        obtain ⟨yr29, eyr29, hf⟩ := wok_b hf
        refine w_callV X dX9_readOne_52 rfl vl_X9_55 (kX4_takeText l hk1 eyr29) hk1.1 (As := [.ref 1]) (st := [.int 100, .int (1000 * yr21)]) rfl rfl (Nat.le_of_ble_eq_true rfl) ⟨Nat.le_of_ble_eq_true rfl, Nat.le_of_ble_eq_true rfl⟩ ⟨Nat.zero_le _, Nat.zero_le _⟩ (fun r h2 hF => ?_)
        obtain ⟨_, rfl, rfl, rfl⟩ := hF
        show wM p l e (wR 9) s m args below meth c 0 0 (wE below args s D dA b0 ad S0 F) 5 D dA b0 ad S0 55 [some (.ref k), some (.ref 1), some (.ref k1), some (.int yr21), some (.int (1000 * yr21))] [.int yr29.1, .int 100, .int (1000 * yr21)] yr29.2
        refine w_imul X dX9_readOne_55 rfl ?_
        refine w_iadd X dX9_readOne_56 rfl ?_
        refine w_istore X dX9_readOne_57 rfl rfl (Nat.le_of_ble_eq_true rfl) (ls' := [some (.ref k), some (.ref 1), some (.ref k1), some (.int yr21), some (.int ((1000 * yr21) + (100 * yr29.1)))]) rfl ?_
        exact pX9_readOne_b59 X hr hk hk1 hT hf
    · have hf := wok_f hf hc
      refine w_aload_n X dX9_readOne_25 rfl rfl rfl ?_
      refine w_iconst X dX9_readOne_26 rfl ci_5 ?_
      obtain ⟨yr30, eyr30, hf⟩ := wok_b hf
      refine w_callV X dX9_readOne_27 rfl vl_X9_48 (kX7_fail l  eyr30) S0_1 (As := [.int 5]) (st := []) rfl rfl (Nat.le_of_ble_eq_true rfl) ⟨Nat.le_of_ble_eq_true rfl, Nat.le_of_ble_eq_true rfl⟩ ⟨Nat.zero_le _, Nat.zero_le _⟩ (fun r h2 hF => ?_)
      obtain ⟨rfl, rfl⟩ := hF
      show wM p l e (wR 9) s m args below meth c 0 0 (wE below args s D dA b0 ad S0 F) 5 D dA b0 ad S0 30 [some (.ref k), some (.ref 1), some (.ref k1), some (.int yr21), none] [] yr30
      exact w_vret X dX9_readOne_30 hr (hT _ (wok_s hf))
  · have hf := wok_t hf hc
    refine w_aload_n X dX9_readOne_10 rfl rfl rfl ?_
    refine w_iconst X dX9_readOne_11 rfl ci_1 ?_
    obtain ⟨yr31, eyr31, hf⟩ := wok_b hf
    refine w_callV X dX9_readOne_12 rfl vl_X9_48 (kX7_fail l  eyr31) S0_1 (As := [.int 1]) (st := []) rfl rfl (Nat.le_of_ble_eq_true rfl) ⟨Nat.le_of_ble_eq_true rfl, Nat.le_of_ble_eq_true rfl⟩ ⟨Nat.zero_le _, Nat.zero_le _⟩ (fun r h2 hF => ?_)
    obtain ⟨rfl, rfl⟩ := hF
    show wM p l e (wR 9) s m args below meth c 0 0 (wE below args s D dA b0 ad S0 F) 5 D dA b0 ad S0 15 [some (.ref k), some (.ref 1), some (.ref k1), some (.int yr21), none] [] yr31
    exact w_vret X dX9_readOne_15 hr (hT _ (wok_s hf))
set_option maxRecDepth 4000 in
theorem kX9_readOne (l : Launch) {h : wSt} {k : Nat} {k1 : Nat} (hk : wI9 k) (hk1 : wI4 k1) {res : wSt} (hf : fX9_readOne h k k1 = some res) : wC l yX9_readOne cX9_readOne 5 none 9 S0 [.ref k, .ref 1, .ref k1] h (wFV (fun b => res = b)) := by
  refine w_meth2 2 (by decide) (Nat.le_of_ble_eq_true rfl) (ls := [some (.ref k), some (.ref 1), some (.ref k1), none, none]) rfl ?_
  intro p e s m args below meth c D dA b0 ad X hr
  exact pX9_readOne_b0 X hr hk hk1 (K := fun z => res = z) (fun h2 hz => ⟨rfl, hz⟩) ⟨res, hf, rfl⟩
set_option maxRecDepth 4000 in
theorem pX9_readFrom_l11b (X : wCx p s m args meth c RX9 cX9_readFrom 4 D dA b0 ad) (hr : meth.sig.returnType = (some .int)) {h : wSt} {k : Nat} {k1 : Nat} {v3 : Int32} (hk : wI9 k) (hk1 : wI4 k1) {K : (Int32 × wSt) ⊕ ((wSt)) → Prop} (hN : ∀ (n3 : Int32) (nh : wSt), K (.inl (n3, nh)) → wM p l e (wR 10) s m args below meth c 0 0 (wE below args s D dA b0 ad S0 F) 4 D dA b0 ad S0 11 [some (.ref k), some (.ref 1), some (.ref k1), some (.int n3)] [] nh) (hX0 : ∀ (nh : wSt), K (.inr nh) → wM p l e (wR 10) s m args below meth c 0 0 (wE below args s D dA b0 ad S0 F) 4 D dA b0 ad S0 43 [none, some (.ref 1), none, none] [] nh) (hf : wok (fX9_readFrom_l11 h k k1 v3) K) : wM p l e (wR 10) s m args below meth c 0 0 (wE below args s D dA b0 ad S0 F) 4 D dA b0 ad S0 11 [some (.ref k), some (.ref 1), some (.ref k1), some (.int v3)] [] h := by
  unfold fX9_readFrom_l11 at hf
  refine w_iload_n X dX9_readFrom_11 rfl rfl rfl ?_
  refine w_bipush X dX9_readFrom_12 rfl cb_40 ?_
  refine w_icmp_gt X dX9_readFrom_14 rfl (t := 43) rfl (fun hc => ?_) (fun hc => ?_)
  · have hf := wok_t hf hc
    refine w_fg (ls2 := [none, some (.ref 1), none, none]) ⟨rfl, trivial⟩ ?_
    exact hX0 _ (wok_s hf)
  · have hf := wok_f hf hc
    refine w_aload_n X dX9_readFrom_17 rfl rfl rfl ?_
    obtain ⟨yr23, eyr23, hf⟩ := wok_b hf
    refine w_callV X dX9_readFrom_18 rfl vl_X9_30 (kX7_isSound l  eyr23) S0_1 (As := []) (st := []) rfl rfl (Nat.le_of_ble_eq_true rfl) ⟨Nat.le_of_ble_eq_true rfl, Nat.le_of_ble_eq_true rfl⟩ ⟨Nat.zero_le _, Nat.zero_le _⟩ (fun r h2 hF => ?_)
    obtain ⟨_, rfl, rfl, rfl⟩ := hF
    show wM p l e (wR 10) s m args below meth c 0 0 (wE below args s D dA b0 ad S0 F) 4 D dA b0 ad S0 21 [some (.ref k), some (.ref 1), some (.ref k1), some (.int v3)] [.int (wb yr23)] h
    refine w_if_eq X dX9_readFrom_21 rfl (t := 43) rfl (fun hc => ?_) (fun hc => ?_)
    · have hf := wok_f hf (wb_0 hc)
      refine w_fg (ls2 := [none, some (.ref 1), none, none]) ⟨rfl, trivial⟩ ?_
      exact hX0 _ (wok_s hf)
    · have hf := wok_t hf (wb_n0 hc)
      refine w_aload_n X dX9_readFrom_24 rfl rfl rfl ?_
      obtain ⟨yr24, eyr24, hf⟩ := wok_b hf
      refine w_callV X dX9_readFrom_25 rfl vl_X9_34 (kX7_isAtEnd l  eyr24) S0_1 (As := []) (st := []) rfl rfl (Nat.le_of_ble_eq_true rfl) ⟨Nat.le_of_ble_eq_true rfl, Nat.le_of_ble_eq_true rfl⟩ ⟨Nat.zero_le _, Nat.zero_le _⟩ (fun r h2 hF => ?_)
      obtain ⟨_, rfl, rfl, rfl⟩ := hF
      show wM p l e (wR 10) s m args below meth c 0 0 (wE below args s D dA b0 ad S0 F) 4 D dA b0 ad S0 28 [some (.ref k), some (.ref 1), some (.ref k1), some (.int v3)] [.int (wb yr24)] h
      refine w_if_ne X dX9_readFrom_28 rfl (t := 43) rfl (fun hc => ?_) (fun hc => ?_)
      · have hf := wok_t hf (wb_n0 hc)
        refine w_fg (ls2 := [none, some (.ref 1), none, none]) ⟨rfl, trivial⟩ ?_
        exact hX0 _ (wok_s hf)
      · have hf := wok_f hf (wb_0 hc)
        refine w_aload_n X dX9_readFrom_31 rfl rfl rfl ?_
        refine w_aload_n X dX9_readFrom_32 rfl rfl rfl ?_
        refine w_aload_n X dX9_readFrom_33 rfl rfl rfl ?_
        obtain ⟨yr25, eyr25, hf⟩ := wok_b hf
        refine w_callV X dX9_readFrom_34 rfl vl_X9_37 (kX9_readOne l hk hk1 eyr25) hk.1 (As := [.ref 1, .ref k1]) (st := []) rfl rfl (Nat.le_of_ble_eq_true rfl) ⟨Nat.le_of_ble_eq_true rfl, Nat.le_of_ble_eq_true rfl⟩ ⟨Nat.zero_le _, Nat.zero_le _⟩ (fun r h2 hF => ?_)
        obtain ⟨rfl, rfl⟩ := hF
        show wM p l e (wR 10) s m args below meth c 0 0 (wE below args s D dA b0 ad S0 F) 4 D dA b0 ad S0 37 [some (.ref k), some (.ref 1), some (.ref k1), some (.int v3)] [] yr25
        refine w_iinc X dX9_readFrom_37 rfl (v := (v3 + 1)) rfl rfl (Nat.le_of_ble_eq_true rfl) (cinc_1 _) (ls' := [some (.ref k), some (.ref 1), some (.ref k1), some (.int (v3 + 1))]) rfl ?_
        refine w_goto X dX9_readFrom_40 (t := 11) rfl ?_
        exact hN _ _ (wok_s hf)
set_option maxRecDepth 4000 in
theorem pX9_readFrom_l11 (X : wCx p s m args meth c RX9 cX9_readFrom 4 D dA b0 ad) (hr : meth.sig.returnType = (some .int))  {k : Nat} {k1 : Nat} (hk : wI9 k) (hk1 : wI4 k1) {KE : (wSt) → Prop} (hX0 : ∀ (nh : wSt), KE (nh) → wM p l e (wR 10) s m args below meth c 0 0 (wE below args s D dA b0 ad S0 F) 4 D dA b0 ad S0 43 [none, some (.ref 1), none, none] [] nh) : ∀ (n : Nat) (v3 : Int32) (h : wSt), wok (wit (fun v : (Int32 × wSt) => fX9_readFrom_l11 v.2 k k1 v.1) n (v3, h)) KE → wM p l e (wR 10) s m args below meth c 0 0 (wE below args s D dA b0 ad S0 F) 4 D dA b0 ad S0 11 [some (.ref k), some (.ref 1), some (.ref k1), some (.int v3)] [] h := by
  have key := wit_M (b := (fun v : (Int32 × wSt) => fX9_readFrom_l11 v.2 k k1 v.1)) (KE := KE) (G := fun v => wM p l e (wR 10) s m args below meth c 0 0 (wE below args s D dA b0 ad S0 F) 4 D dA b0 ad S0 11 [some (.ref k), some (.ref 1), some (.ref k1), some (.int v.1)] [] v.2) (fun v K hN hE hf => pX9_readFrom_l11b X hr hk hk1 (fun n3 nh hz => hN (n3, nh) hz) (fun z0 hz => hX0 z0 (hE _ hz)) hf)
  exact fun n v3 h hf => key n (v3, h) hf
set_option maxRecDepth 4000 in
theorem pX9_readFrom_b0 (X : wCx p s m args meth c RX9 cX9_readFrom 4 D dA b0 ad) (hr : meth.sig.returnType = (some .int)) {h : wSt} {k : Nat} {k1 : Nat} (hk : wI9 k) (hk1 : wI4 k1) {K : Int32 × wSt → Prop} (hT : ∀ (x : Int32) (h2 : wSt), K (x, h2) → F (some (.int x)) h2) (hf : wok (fX9_readFrom h k k1) K) : wM p l e (wR 10) s m args below meth c 0 0 (wE below args s D dA b0 ad S0 F) 4 D dA b0 ad S0 0 [some (.ref k), some (.ref 1), some (.ref k1), none] [] h := by
  unfold fX9_readFrom at hf
  refine w_aload_n X dX9_readFrom_0 rfl rfl rfl ?_
  refine w_iconst X dX9_readFrom_1 rfl ci_0 ?_
  refine w_putI X dX9_readFrom_2 rfl fp_X9_15 hk.1 rfl ?_
  refine w_nmh (fun yh21 eyh21 => ?_)
  have hf := wok_l hf eyh21
  refine w_aload_n X dX9_readFrom_5 rfl rfl rfl ?_
  obtain ⟨yr22, eyr22, hf⟩ := wok_b hf
  refine w_callV X dX9_readFrom_6 rfl vl_X9_25 (kX7_rewind l  eyr22) S0_1 (As := []) (st := []) rfl rfl (Nat.le_of_ble_eq_true rfl) ⟨Nat.le_of_ble_eq_true rfl, Nat.le_of_ble_eq_true rfl⟩ ⟨Nat.zero_le _, Nat.zero_le _⟩ (fun r h2 hF => ?_)
  obtain ⟨rfl, rfl⟩ := hF
  show wM p l e (wR 10) s m args below meth c 0 0 (wE below args s D dA b0 ad S0 F) 4 D dA b0 ad S0 9 [some (.ref k), some (.ref 1), some (.ref k1), none] [] yr22
  refine w_iconst X dX9_readFrom_9 rfl ci_0 ?_
  refine w_istore_n X dX9_readFrom_10 rfl rfl rfl (Nat.le_of_ble_eq_true rfl) (ls' := [some (.ref k), some (.ref 1), some (.ref k1), some (.int 0)]) rfl ?_
  obtain ⟨ye26, hye26, hf⟩ := wok_b hf
  refine pX9_readFrom_l11 X hr hk hk1 (KE := fun z => ye26 = z) ?_ 3000 _ _ ⟨ye26, hye26, rfl⟩
  · intro yz27 hz
    subst hz
    refine w_aload_n X dX9_readFrom_43 rfl rfl rfl ?_
    refine w_getI X dX9_readFrom_44 rfl fl_X9_41 S0_1 rfl ?_
    exact w_iret X dX9_readFrom_47 hr (hT _ _ (wok_s hf))
set_option maxRecDepth 4000 in
theorem kX9_readFrom (l : Launch) {h : wSt} {k : Nat} {k1 : Nat} (hk : wI9 k) (hk1 : wI4 k1) {res : Int32 × wSt} (hf : fX9_readFrom h k k1 = some res) : wC l yX9_readFrom cX9_readFrom 4 (some .int) 10 S0 [.ref k, .ref 1, .ref k1] h (wFI (fun a b => res.1 = a ∧ res.2 = b)) := by
  refine w_meth2 1 (by decide) (Nat.le_of_ble_eq_true rfl) (ls := [some (.ref k), some (.ref 1), some (.ref k1), none]) rfl ?_
  intro p e s m args below meth c D dA b0 ad X hr
  exact pX9_readFrom_b0 X hr hk hk1 (K := fun z => res = z) (fun x h2 hz => ⟨x, rfl, by rw [hz], by rw [hz]⟩) ⟨res, hf, rfl⟩
set_option maxRecDepth 4000 in
theorem pX5_copyFrom_b0 (X : wCx p s m args meth c RX5 cX5_copyFrom 2 D dA b0 ad) (hr : meth.sig.returnType = none) {h : wSt} {k : Nat} {k0 : Nat} (hk : wI5 k) (hk0 : wI5 k0) {K : wSt → Prop} (hT : ∀ (h2 : wSt), K h2 → F none h2) (hf : wok (fX5_copyFrom h k k0) K) : wM p l e (wR 1) s m args below meth c 0 0 (wE below args s D dA b0 ad S0 F) 2 D dA b0 ad S0 0 [some (.ref k), some (.ref k0)] [] h := by
  unfold fX5_copyFrom at hf
  refine w_aload_n X dX5_copyFrom_0 rfl rfl rfl ?_
  refine w_aload_n X dX5_copyFrom_1 rfl rfl rfl ?_
  refine w_getI X dX5_copyFrom_2 rfl fl_X5_22 hk0.1 rfl ?_
  refine w_putI X dX5_copyFrom_5 rfl fp_X5_22 hk.1 rfl ?_
  refine w_nmh (fun yh21 eyh21 => ?_)
  have hf := wok_l hf eyh21
  refine w_aload_n X dX5_copyFrom_8 rfl rfl rfl ?_
  refine w_getR X dX5_copyFrom_9 rfl fl_X5_9 hk0.1 rfl ?_
  refine w_iconst X dX5_copyFrom_12 rfl ci_0 ?_
  refine w_aload_n X dX5_copyFrom_13 rfl rfl rfl ?_
  refine w_getR X dX5_copyFrom_14 rfl fl_X5_9 hk.1 rfl ?_
  refine w_iconst X dX5_copyFrom_17 rfl ci_0 ?_
  refine w_bipush X dX5_copyFrom_18 rfl cb_8 ?_
  refine w_copyI X dX5_copyFrom_20 rfl cn_0 cn_0 (n2 := 8) cn_8 wd_1080 wd_659 wd_658 wd_19 hk0.2.1 hk.2.1 (by decide) (by decide) (by decide) (Nat.le_of_ble_eq_true rfl) (Nat.le_of_ble_eq_true rfl) (Nat.le_of_ble_eq_true rfl) (Nat.le_of_ble_eq_true rfl) ?_
  refine w_nmh (fun yh22 eyh22 => ?_)
  have hf := wok_l hf eyh22
  refine w_aload_n X dX5_copyFrom_23 rfl rfl rfl ?_
  refine w_getR X dX5_copyFrom_24 rfl fl_X5_13 hk0.1 rfl ?_
  refine w_iconst X dX5_copyFrom_27 rfl ci_0 ?_
  refine w_aload_n X dX5_copyFrom_28 rfl rfl rfl ?_
  refine w_getR X dX5_copyFrom_29 rfl fl_X5_13 hk.1 rfl ?_
  refine w_iconst X dX5_copyFrom_32 rfl ci_0 ?_
  refine w_bipush X dX5_copyFrom_33 rfl cb_8 ?_
  refine w_copyI X dX5_copyFrom_35 rfl cn_0 cn_0 (n2 := 8) cn_8 wd_1080 wd_659 wd_658 wd_19 hk0.2.2.1 hk.2.2.1 (by decide) (by decide) (by decide) (Nat.le_of_ble_eq_true rfl) (Nat.le_of_ble_eq_true rfl) (Nat.le_of_ble_eq_true rfl) (Nat.le_of_ble_eq_true rfl) ?_
  refine w_nmh (fun yh23 eyh23 => ?_)
  have hf := wok_l hf eyh23
  refine w_aload_n X dX5_copyFrom_38 rfl rfl rfl ?_
  refine w_getR X dX5_copyFrom_39 rfl fl_X5_16 hk0.1 rfl ?_
  refine w_iconst X dX5_copyFrom_42 rfl ci_0 ?_
  refine w_aload_n X dX5_copyFrom_43 rfl rfl rfl ?_
  refine w_getR X dX5_copyFrom_44 rfl fl_X5_16 hk.1 rfl ?_
  refine w_iconst X dX5_copyFrom_47 rfl ci_0 ?_
  refine w_bipush X dX5_copyFrom_48 rfl cb_8 ?_
  refine w_copyI X dX5_copyFrom_50 rfl cn_0 cn_0 (n2 := 8) cn_8 wd_1080 wd_659 wd_658 wd_19 hk0.2.2.2.1 hk.2.2.2.1 (by decide) (by decide) (by decide) (Nat.le_of_ble_eq_true rfl) (Nat.le_of_ble_eq_true rfl) (Nat.le_of_ble_eq_true rfl) (Nat.le_of_ble_eq_true rfl) ?_
  refine w_nmh (fun yh24 eyh24 => ?_)
  have hf := wok_l hf eyh24
  refine w_aload_n X dX5_copyFrom_53 rfl rfl rfl ?_
  refine w_getR X dX5_copyFrom_54 rfl fl_X5_19 hk0.1 rfl ?_
  refine w_iconst X dX5_copyFrom_57 rfl ci_0 ?_
  refine w_aload_n X dX5_copyFrom_58 rfl rfl rfl ?_
  refine w_getR X dX5_copyFrom_59 rfl fl_X5_19 hk.1 rfl ?_
  refine w_iconst X dX5_copyFrom_62 rfl ci_0 ?_
  refine w_bipush X dX5_copyFrom_63 rfl cb_8 ?_
  refine w_copyI X dX5_copyFrom_65 rfl cn_0 cn_0 (n2 := 8) cn_8 wd_1080 wd_659 wd_658 wd_19 hk0.2.2.2.2 hk.2.2.2.2 (by decide) (by decide) (by decide) (Nat.le_of_ble_eq_true rfl) (Nat.le_of_ble_eq_true rfl) (Nat.le_of_ble_eq_true rfl) (Nat.le_of_ble_eq_true rfl) ?_
  refine w_nmh (fun yh25 eyh25 => ?_)
  have hf := wok_l hf eyh25
  exact w_vret X dX5_copyFrom_68 hr (hT _ (wok_s hf))
set_option maxRecDepth 4000 in
theorem kX5_copyFrom (l : Launch) {h : wSt} {k : Nat} {k0 : Nat} (hk : wI5 k) (hk0 : wI5 k0) {res : wSt} (hf : fX5_copyFrom h k k0 = some res) : wC l yX5_copyFrom cX5_copyFrom 2 none 1 S0 [.ref k, .ref k0] h (wFV (fun b => res = b)) := by
  refine w_meth2 0 (by decide) (Nat.le_of_ble_eq_true rfl) (ls := [some (.ref k), some (.ref k0)]) rfl ?_
  intro p e s m args below meth c D dA b0 ad X hr
  exact pX5_copyFrom_b0 X hr hk hk0 (K := fun z => res = z) (fun h2 hz => ⟨rfl, hz⟩) ⟨res, hf, rfl⟩
set_option maxRecDepth 4000 in
theorem pX5_clear_b0 (X : wCx p s m args meth c RX5 cX5_clear 1 D dA b0 ad) (hr : meth.sig.returnType = none) {h : wSt} {k : Nat} (hk : wI5 k) {K : wSt → Prop} (hT : ∀ (h2 : wSt), K h2 → F none h2) (hf : wok (fX5_clear h k) K) : wM p l e (wR 1) s m args below meth c 0 0 (wE below args s D dA b0 ad S0 F) 1 D dA b0 ad S0 0 [some (.ref k)] [] h := by
  unfold fX5_clear at hf
  refine w_aload_n X dX5_clear_0 rfl rfl rfl ?_
  refine w_iconst X dX5_clear_1 rfl ci_0 ?_
  refine w_putI X dX5_clear_2 rfl fp_X5_22 hk.1 rfl ?_
  refine w_nmh (fun yh21 eyh21 => ?_)
  have hf := wok_l hf eyh21
  exact w_vret X dX5_clear_5 hr (hT _ (wok_s hf))
set_option maxRecDepth 4000 in
theorem kX5_clear (l : Launch) {h : wSt} {k : Nat} (hk : wI5 k) {res : wSt} (hf : fX5_clear h k = some res) : wC l yX5_clear cX5_clear 1 none 1 S0 [.ref k] h (wFV (fun b => res = b)) := by
  refine w_meth2 0 (by decide) (Nat.le_of_ble_eq_true rfl) (ls := [some (.ref k)]) rfl ?_
  intro p e s m args below meth c D dA b0 ad X hr
  exact pX5_clear_b0 X hr hk (K := fun z => res = z) (fun h2 hz => ⟨rfl, hz⟩) ⟨res, hf, rfl⟩
set_option maxRecDepth 4000 in
theorem pX5_add_b59 (X : wCx p s m args meth c RX5 cX5_add 5 D dA b0 ad) (hr : meth.sig.returnType = (some .boolean)) {h : wSt} {k : Nat} {w1 : Int32} {w2 : Int32} (hk : wI5 k) {K : Bool × wSt → Prop} (hT : ∀ (x : Bool) (h2 : wSt), K (x, h2) → F (some (.int (wb x))) h2)  (hf : wok (fX5_add_b59 h k w1 w2) K) : wM p l e (wR 1) s m args below meth c 0 0 (wE below args s D dA b0 ad S0 F) 5 D dA b0 ad S0 59 [some (.ref k), none, none, none, none] [.int w2, .int w1, .ref (k + 4)] h := by
  unfold fX5_add_b59 at hf
  obtain ⟨yhg27, hf⟩ := wok_g hf
  refine w_iast X dX5_add_59 rfl (j := w1.toNatClampNeg) rfl hk.2.2.2.2 yhg27 ?_
  refine w_nmh (fun yh28 eyh28 => ?_)
  have hf := wok_l hf eyh28
  refine w_aload_n X dX5_add_60 rfl rfl rfl ?_
  refine w_dup X dX5_add_61 rfl rfl ?_
  refine w_getI X dX5_add_62 rfl fl_X5_22 hk.1 rfl ?_
  refine w_iconst X dX5_add_65 rfl ci_1 ?_
  refine w_iadd X dX5_add_66 rfl ?_
  refine w_putI X dX5_add_67 rfl fp_X5_22 hk.1 rfl ?_
  refine w_nmh (fun yh29 eyh29 => ?_)
  have hf := wok_l hf eyh29
  refine w_iconst X dX5_add_70 rfl ci_1 ?_
  exact w_zret X dX5_add_71 hr rfl (hT true _ (wok_s hf))
set_option maxRecDepth 4000 in
theorem pX5_add_b0 (X : wCx p s m args meth c RX5 cX5_add 5 D dA b0 ad) (hr : meth.sig.returnType = (some .boolean)) {h : wSt} {k : Nat} {x0 : Int32} {x1 : Int32} {x2 : Int32} {x3 : Int32} (hk : wI5 k) {K : Bool × wSt → Prop} (hT : ∀ (x : Bool) (h2 : wSt), K (x, h2) → F (some (.int (wb x))) h2) (hf : wok (fX5_add h k x0 x1 x2 x3) K) : wM p l e (wR 1) s m args below meth c 0 0 (wE below args s D dA b0 ad S0 F) 5 D dA b0 ad S0 0 [some (.ref k), some (.int x0), some (.int x1), some (.int x2), some (.int x3)] [] h := by
  unfold fX5_add at hf
  refine w_aload_n X dX5_add_0 rfl rfl rfl ?_
  refine w_getI X dX5_add_1 rfl fl_X5_22 hk.1 rfl ?_
  refine w_bipush X dX5_add_4 rfl cb_8 ?_
  refine w_icmp_lt X dX5_add_6 rfl (t := 11) rfl (fun hc => ?_) (fun hc => ?_)
  · have hf := wok_t hf hc
    refine w_aload_n X dX5_add_11 rfl rfl rfl ?_
    refine w_getR X dX5_add_12 rfl fl_X5_9 hk.1 rfl ?_
    refine w_aload_n X dX5_add_15 rfl rfl rfl ?_
    refine w_getI X dX5_add_16 rfl fl_X5_22 hk.1 rfl ?_
    refine w_iload_n X dX5_add_19 rfl rfl rfl ?_
    obtain ⟨yhg21, hf⟩ := wok_g hf
    refine w_iast X dX5_add_20 rfl (j := (h.1 k 0).toNatClampNeg) rfl hk.2.1 yhg21 ?_
    refine w_nmh (fun yh22 eyh22 => ?_)
    have hf := wok_l hf eyh22
    refine w_aload_n X dX5_add_21 rfl rfl rfl ?_
    refine w_getR X dX5_add_22 rfl fl_X5_13 hk.1 rfl ?_
    refine w_aload_n X dX5_add_25 rfl rfl rfl ?_
    refine w_getI X dX5_add_26 rfl fl_X5_22 hk.1 rfl ?_
    refine w_iload_n X dX5_add_29 rfl rfl rfl ?_
    obtain ⟨yhg23, hf⟩ := wok_g hf
    refine w_iast X dX5_add_30 rfl (j := (yh22.1 k 0).toNatClampNeg) rfl hk.2.2.1 yhg23 ?_
    refine w_nmh (fun yh24 eyh24 => ?_)
    have hf := wok_l hf eyh24
    refine w_aload_n X dX5_add_31 rfl rfl rfl ?_
    refine w_getR X dX5_add_32 rfl fl_X5_16 hk.1 rfl ?_
    refine w_aload_n X dX5_add_35 rfl rfl rfl ?_
    refine w_getI X dX5_add_36 rfl fl_X5_22 hk.1 rfl ?_
    refine w_iload_n X dX5_add_39 rfl rfl rfl ?_
    obtain ⟨yhg25, hf⟩ := wok_g hf
    refine w_iast X dX5_add_40 rfl (j := (yh24.1 k 0).toNatClampNeg) rfl hk.2.2.2.1 yhg25 ?_
    refine w_nmh (fun yh26 eyh26 => ?_)
    have hf := wok_l hf eyh26
    refine w_aload_n X dX5_add_41 rfl rfl rfl ?_
    refine w_getR X dX5_add_42 rfl fl_X5_19 hk.1 rfl ?_
    refine w_aload_n X dX5_add_45 rfl rfl rfl ?_
    refine w_getI X dX5_add_46 rfl fl_X5_22 hk.1 rfl ?_
    refine w_iload X dX5_add_49 rfl rfl ?_
    refine w_if_eq X dX5_add_51 rfl (t := 58) rfl (fun hc => ?_) (fun hc => ?_)
    · have hf := wok_t hf hc
      refine w_iconst X dX5_add_58 rfl ci_0 ?_
      refine w_fg (ls2 := [some (.ref k), none, none, none, none]) ⟨rfl, trivial⟩ ?_
      exact pX5_add_b59 X hr hk hT hf
    · have hf := wok_f hf hc
      refine w_iconst X dX5_add_54 rfl ci_1 ?_
      refine w_goto X dX5_add_55 (t := 59) rfl ?_
      refine w_fg (ls2 := [some (.ref k), none, none, none, none]) ⟨rfl, trivial⟩ ?_
      exact pX5_add_b59 X hr hk hT hf
  · have hf := wok_f hf hc
    refine w_iconst X dX5_add_9 rfl ci_0 ?_
    exact w_zret X dX5_add_10 hr rfl (hT false _ (wok_s hf))
set_option maxRecDepth 4000 in
theorem kX5_add (l : Launch) {h : wSt} {k : Nat} {x0 : Int32} {x1 : Int32} {x2 : Int32} {x3 : Int32} (hk : wI5 k) {res : Bool × wSt} (hf : fX5_add h k x0 x1 x2 x3 = some res) : wC l yX5_add cX5_add 5 (some .boolean) 1 S0 [.ref k, .int x0, .int x1, .int x2, .int x3] h (wFZ (fun a b => res.1 = a ∧ res.2 = b)) := by
  refine w_meth2 0 (by decide) (Nat.le_of_ble_eq_true rfl) (ls := [some (.ref k), some (.int x0), some (.int x1), some (.int x2), some (.int x3)]) rfl ?_
  intro p e s m args below meth c D dA b0 ad X hr
  exact pX5_add_b0 X hr hk (K := fun z => res = z) (fun x h2 hz => ⟨x, rfl, by rw [hz], by rw [hz]⟩) ⟨res, hf, rfl⟩
set_option maxRecDepth 4000 in
theorem pX5_agrees_b63_3 (X : wCx p s m args meth c RX5 cX5_agrees 6 D dA b0 ad) (hr : meth.sig.returnType = (some .boolean)) {h : wSt} {k : Nat} {k1 : Nat} {k2 : Nat} {v1 : Int32} {v4 : Int32} {w0 : Int32} {w1 : Int32} (hk : wI5 k) (hk1 : wI4 k1) (hk2 : wI6 k2) {K : (Int32 × wSt) ⊕ ((wSt) ⊕ (Bool × wSt)) → Prop} (hN : ∀ (n4 : Int32) (nh : wSt), K (.inl (n4, nh)) → wM p l e (wR 4) s m args below meth c 0 0 (wE below args s D dA b0 ad S0 F) 6 D dA b0 ad S0 3 [some (.ref k), some (.int v1), some (.ref k1), some (.ref k2), some (.int n4), none] [] nh) (hX0 : ∀ (nh : wSt), K (.inr (.inl nh)) → wM p l e (wR 4) s m args below meth c 0 0 (wE below args s D dA b0 ad S0 F) 6 D dA b0 ad S0 74 [none, none, none, none, none, none] [] nh) (hT : ∀ (x : Bool) (h2 : wSt), K (.inr (.inr (x, h2))) → F (some (.int (wb x))) h2) (hf : wok (fX5_agrees_b63_3 h k k1 k2 v1 v4 w0 w1) K) : wM p l e (wR 4) s m args below meth c 0 0 (wE below args s D dA b0 ad S0 F) 6 D dA b0 ad S0 63 [some (.ref k), some (.int v1), some (.ref k1), some (.ref k2), some (.int v4), none] [.int w1, .int w0] h := by
  unfold fX5_agrees_b63_3 at hf
  refine w_icmp_eq X dX5_agrees_63 rfl (t := 68) rfl (fun hc => ?_) (fun hc => ?_)
  · have hf := wok_t hf hc
    refine w_iinc X dX5_agrees_68 rfl (v := (v4 + 1)) rfl rfl (Nat.le_of_ble_eq_true rfl) (cinc_1 _) (ls' := [some (.ref k), some (.int v1), some (.ref k1), some (.ref k2), some (.int (v4 + 1)), none]) rfl ?_
    refine w_goto X dX5_agrees_71 (t := 3) rfl ?_
    exact hN _ _ (wok_s hf)
  · have hf := wok_f hf hc
    refine w_iconst X dX5_agrees_66 rfl ci_0 ?_
    exact w_zret X dX5_agrees_67 hr rfl (hT false _ (wok_s hf))
set_option maxRecDepth 4000 in
theorem pX5_agrees_l3b (X : wCx p s m args meth c RX5 cX5_agrees 6 D dA b0 ad) (hr : meth.sig.returnType = (some .boolean)) {h : wSt} {k : Nat} {k1 : Nat} {k2 : Nat} {v1 : Int32} {v4 : Int32} (hk : wI5 k) (hk1 : wI4 k1) (hk2 : wI6 k2) {K : (Int32 × wSt) ⊕ ((wSt) ⊕ (Bool × wSt)) → Prop} (hN : ∀ (n4 : Int32) (nh : wSt), K (.inl (n4, nh)) → wM p l e (wR 4) s m args below meth c 0 0 (wE below args s D dA b0 ad S0 F) 6 D dA b0 ad S0 3 [some (.ref k), some (.int v1), some (.ref k1), some (.ref k2), some (.int n4), none] [] nh) (hX0 : ∀ (nh : wSt), K (.inr (.inl nh)) → wM p l e (wR 4) s m args below meth c 0 0 (wE below args s D dA b0 ad S0 F) 6 D dA b0 ad S0 74 [none, none, none, none, none, none] [] nh) (hT : ∀ (x : Bool) (h2 : wSt), K (.inr (.inr (x, h2))) → F (some (.int (wb x))) h2) (hf : wok (fX5_agrees_l3 h k k1 k2 v1 v4) K) : wM p l e (wR 4) s m args below meth c 0 0 (wE below args s D dA b0 ad S0 F) 6 D dA b0 ad S0 3 [some (.ref k), some (.int v1), some (.ref k1), some (.ref k2), some (.int v4), none] [] h := by
  unfold fX5_agrees_l3 at hf
  refine w_iload X dX5_agrees_3 rfl rfl ?_
  refine w_aload_n X dX5_agrees_5 rfl rfl rfl ?_
  refine w_getI X dX5_agrees_6 rfl fl_X5_22 hk.1 rfl ?_
  refine w_icmp_ge X dX5_agrees_9 rfl (t := 74) rfl (fun hc => ?_) (fun hc => ?_)
  · have hf := wok_t hf hc
    refine w_fg (ls2 := [none, none, none, none, none, none]) trivial ?_
    exact hX0 _ (wok_s hf)
  · have hf := wok_f hf hc
    refine w_aload_n X dX5_agrees_12 rfl rfl rfl ?_
    refine w_iload_n X dX5_agrees_13 rfl rfl rfl ?_
    refine w_aload_n X dX5_agrees_14 rfl rfl rfl ?_
    refine w_getR X dX5_agrees_15 rfl fl_X5_13 hk.1 rfl ?_
    refine w_iload X dX5_agrees_18 rfl rfl ?_
    obtain ⟨yhg21, hf⟩ := wok_g hf
    refine w_iald X dX5_agrees_20 rfl (j := v4.toNatClampNeg) rfl hk.2.2.1 yhg21 ?_
    refine w_aload_n X dX5_agrees_21 rfl rfl rfl ?_
    refine w_getR X dX5_agrees_22 rfl fl_X5_16 hk.1 rfl ?_
    refine w_iload X dX5_agrees_25 rfl rfl ?_
    refine w_iald X dX5_agrees_27 rfl (j := v4.toNatClampNeg) rfl hk.2.2.2.1 yhg21 ?_
    refine w_aload_n X dX5_agrees_28 rfl rfl rfl ?_
    refine w_getR X dX5_agrees_29 rfl fl_X5_32 hk2.1 rfl ?_
    refine w_aload_n X dX5_agrees_32 rfl rfl rfl ?_
    refine w_getR X dX5_agrees_33 rfl fl_X5_9 hk.1 rfl ?_
    refine w_iload X dX5_agrees_36 rfl rfl ?_
    refine w_iald X dX5_agrees_38 rfl (j := v4.toNatClampNeg) rfl hk.2.1 yhg21 ?_
    obtain ⟨yhg22, hf⟩ := wok_g hf
    refine w_iald X dX5_agrees_39 rfl (j := (h.1 (k + 1) v4.toNatClampNeg).toNatClampNeg) rfl hk2.2.1 yhg22 ?_
    obtain ⟨yr23, eyr23, hf⟩ := wok_b hf
    refine w_callV X dX5_agrees_40 rfl vl_X5_37 (kX4_showsText l hk1 eyr23) hk1.1 (As := [.int v1, .int (h.1 (k + 2) v4.toNatClampNeg), .int (h.1 (k + 3) v4.toNatClampNeg), .int (h.1 (k2 + 1) (h.1 (k + 1) v4.toNatClampNeg).toNatClampNeg)]) (st := []) rfl rfl (Nat.le_of_ble_eq_true rfl) ⟨Nat.le_of_ble_eq_true rfl, Nat.le_of_ble_eq_true rfl⟩ ⟨Nat.zero_le _, Nat.zero_le _⟩ (fun r h2 hF => ?_)
    obtain ⟨_, rfl, rfl, rfl⟩ := hF
    show wM p l e (wR 4) s m args below meth c 0 0 (wE below args s D dA b0 ad S0 F) 6 D dA b0 ad S0 43 [some (.ref k), some (.int v1), some (.ref k1), some (.ref k2), some (.int v4), none] [.int (wb yr23.1)] yr23.2
    refine w_istore X dX5_agrees_43 rfl rfl (Nat.le_of_ble_eq_true rfl) (ls' := [some (.ref k), some (.int v1), some (.ref k1), some (.ref k2), some (.int v4), some (.int (wb yr23.1))]) rfl ?_
    refine w_iload X dX5_agrees_45 rfl rfl ?_
    refine w_aload_n X dX5_agrees_47 rfl rfl rfl ?_
    refine w_getR X dX5_agrees_48 rfl fl_X5_19 hk.1 rfl ?_
    refine w_iload X dX5_agrees_51 rfl rfl ?_
    refine w_iald X dX5_agrees_53 rfl (j := v4.toNatClampNeg) rfl hk.2.2.2.2 yhg21 ?_
    refine w_iconst X dX5_agrees_54 rfl ci_1 ?_
    refine w_icmp_ne X dX5_agrees_55 rfl (t := 62) rfl (fun hc => ?_) (fun hc => ?_)
    · have hf := wok_f hf hc
      refine w_iconst X dX5_agrees_62 rfl ci_0 ?_
      refine w_fg (ls2 := [some (.ref k), some (.int v1), some (.ref k1), some (.ref k2), some (.int v4), none]) ⟨rfl, rfl, rfl, rfl, rfl, trivial⟩ ?_
      exact pX5_agrees_b63_3 X hr hk hk1 hk2 hN hX0 hT hf
    · have hf := wok_t hf hc
      refine w_iconst X dX5_agrees_58 rfl ci_1 ?_
      refine w_goto X dX5_agrees_59 (t := 63) rfl ?_
      refine w_fg (ls2 := [some (.ref k), some (.int v1), some (.ref k1), some (.ref k2), some (.int v4), none]) ⟨rfl, rfl, rfl, rfl, rfl, trivial⟩ ?_
      exact pX5_agrees_b63_3 X hr hk hk1 hk2 hN hX0 hT hf
set_option maxRecDepth 4000 in
theorem pX5_agrees_l3 (X : wCx p s m args meth c RX5 cX5_agrees 6 D dA b0 ad) (hr : meth.sig.returnType = (some .boolean))  {k : Nat} {k1 : Nat} {k2 : Nat} {v1 : Int32} (hk : wI5 k) (hk1 : wI4 k1) (hk2 : wI6 k2) {KE : (wSt) ⊕ (Bool × wSt) → Prop} (hX0 : ∀ (nh : wSt), KE ((.inl nh)) → wM p l e (wR 4) s m args below meth c 0 0 (wE below args s D dA b0 ad S0 F) 6 D dA b0 ad S0 74 [none, none, none, none, none, none] [] nh) (hT : ∀ (x : Bool) (h2 : wSt), KE ((.inr (x, h2))) → F (some (.int (wb x))) h2) : ∀ (n : Nat) (v4 : Int32) (h : wSt), wok (wit (fun v : (Int32 × wSt) => fX5_agrees_l3 v.2 k k1 k2 v1 v.1) n (v4, h)) KE → wM p l e (wR 4) s m args below meth c 0 0 (wE below args s D dA b0 ad S0 F) 6 D dA b0 ad S0 3 [some (.ref k), some (.int v1), some (.ref k1), some (.ref k2), some (.int v4), none] [] h := by
  have key := wit_M (b := (fun v : (Int32 × wSt) => fX5_agrees_l3 v.2 k k1 k2 v1 v.1)) (KE := KE) (G := fun v => wM p l e (wR 4) s m args below meth c 0 0 (wE below args s D dA b0 ad S0 F) 6 D dA b0 ad S0 3 [some (.ref k), some (.int v1), some (.ref k1), some (.ref k2), some (.int v.1), none] [] v.2) (fun v K hN hE hf => pX5_agrees_l3b X hr hk hk1 hk2 (fun n4 nh hz => hN (n4, nh) hz) (fun z0 hz => hX0 z0 (hE _ hz)) (fun z0 z1 hz => hT z0 z1 (hE _ hz)) hf)
  exact fun n v4 h hf => key n (v4, h) hf
set_option maxRecDepth 4000 in
theorem pX5_agrees_b0 (X : wCx p s m args meth c RX5 cX5_agrees 6 D dA b0 ad) (hr : meth.sig.returnType = (some .boolean)) {h : wSt} {k : Nat} {x0 : Int32} {k1 : Nat} {k2 : Nat} (hk : wI5 k) (hk1 : wI4 k1) (hk2 : wI6 k2) {K : Bool × wSt → Prop} (hT : ∀ (x : Bool) (h2 : wSt), K (x, h2) → F (some (.int (wb x))) h2) (hf : wok (fX5_agrees h k x0 k1 k2) K) : wM p l e (wR 4) s m args below meth c 0 0 (wE below args s D dA b0 ad S0 F) 6 D dA b0 ad S0 0 [some (.ref k), some (.int x0), some (.ref k1), some (.ref k2), none, none] [] h := by
  unfold fX5_agrees at hf
  refine w_iconst X dX5_agrees_0 rfl ci_0 ?_
  refine w_istore X dX5_agrees_1 rfl rfl (Nat.le_of_ble_eq_true rfl) (ls' := [some (.ref k), some (.int x0), some (.ref k1), some (.ref k2), some (.int 0), none]) rfl ?_
  obtain ⟨ye24, hye24, hf⟩ := wok_b hf
  refine pX5_agrees_l3 X hr hk hk1 hk2 (KE := fun z => ye24 = z) ?_ ?_ 3000 _ _ ⟨ye24, hye24, rfl⟩
  · intro yz25 hz
    subst hz
    refine w_iconst X dX5_agrees_74 rfl ci_1 ?_
    exact w_zret X dX5_agrees_75 hr rfl (hT true _ (wok_s hf))
  · intro z zh hz
    subst hz
    exact hT _ _ (wok_s hf)
set_option maxRecDepth 4000 in
theorem kX5_agrees (l : Launch) {h : wSt} {k : Nat} {x0 : Int32} {k1 : Nat} {k2 : Nat} (hk : wI5 k) (hk1 : wI4 k1) (hk2 : wI6 k2) {res : Bool × wSt} (hf : fX5_agrees h k x0 k1 k2 = some res) : wC l yX5_agrees cX5_agrees 6 (some .boolean) 4 S0 [.ref k, .int x0, .ref k1, .ref k2] h (wFZ (fun a b => res.1 = a ∧ res.2 = b)) := by
  refine w_meth2 2 (by decide) (Nat.le_of_ble_eq_true rfl) (ls := [some (.ref k), some (.int x0), some (.ref k1), some (.ref k2), none, none]) rfl ?_
  intro p e s m args below meth c D dA b0 ad X hr
  exact pX5_agrees_b0 X hr hk hk1 hk2 (K := fun z => res = z) (fun x h2 hz => ⟨x, rfl, by rw [hz], by rw [hz]⟩) ⟨res, hf, rfl⟩
set_option maxRecDepth 4000 in
theorem pX8_clear_b0 (X : wCx p s m args meth c RX8 cX8_clear 1 D dA b0 ad) (hr : meth.sig.returnType = none) {h : wSt} {K : wSt → Prop} (hT : ∀ (h2 : wSt), K h2 → F none h2) (hf : wok (fX8_clear h ) K) : wM p l e (wR 1) s m args below meth c 0 0 (wE below args s D dA b0 ad S0 F) 1 D dA b0 ad S0 0 [some (.ref 48)] [] h := by
  unfold fX8_clear at hf
  refine w_aload_n X dX8_clear_0 rfl rfl rfl ?_
  refine w_iconst X dX8_clear_1 rfl ci_0 ?_
  refine w_putI X dX8_clear_2 rfl fp_X8_18 S0_48 rfl ?_
  refine w_nmh (fun yh21 eyh21 => ?_)
  have hf := wok_l hf eyh21
  exact w_vret X dX8_clear_5 hr (hT _ (wok_s hf))
set_option maxRecDepth 4000 in
theorem kX8_clear (l : Launch) {h : wSt} {res : wSt} (hf : fX8_clear h  = some res) : wC l yX8_clear cX8_clear 1 none 1 S0 [.ref 48] h (wFV (fun b => res = b)) := by
  refine w_meth2 0 (by decide) (Nat.le_of_ble_eq_true rfl) (ls := [some (.ref 48)]) rfl ?_
  intro p e s m args below meth c D dA b0 ad X hr
  exact pX8_clear_b0 X hr  (K := fun z => res = z) (fun h2 hz => ⟨rfl, hz⟩) ⟨res, hf, rfl⟩
set_option maxRecDepth 4000 in
theorem pX8_keep_b0 (X : wCx p s m args meth c RX8 cX8_keep 2 D dA b0 ad) (hr : meth.sig.returnType = none) {h : wSt} {k0 : Nat} (hk0 : wI6 k0) {K : wSt → Prop} (hT : ∀ (h2 : wSt), K h2 → F none h2) (hf : wok (fX8_keep h k0) K) : wM p l e (wR 2) s m args below meth c 0 0 (wE below args s D dA b0 ad S0 F) 2 D dA b0 ad S0 0 [some (.ref 48), some (.ref k0)] [] h := by
  unfold fX8_keep at hf
  refine w_aload_n X dX8_keep_0 rfl rfl rfl ?_
  refine w_getR X dX8_keep_1 rfl fl_X8_11 S0_48 rfl ?_
  refine w_aload_n X dX8_keep_4 rfl rfl rfl ?_
  refine w_getI X dX8_keep_5 rfl fl_X8_22 S0_48 rfl ?_
  obtain ⟨yhg21, hf⟩ := wok_g hf
  refine w_aald5 X dX8_keep_8 rfl S0_49 yhg21 (wrow_49 yhg21) ?_
  refine w_aload_n X dX8_keep_9 rfl rfl rfl ?_
  obtain ⟨yr22, eyr22, hf⟩ := wok_b hf
  refine w_callV X dX8_keep_10 rfl vl_X8_25 (kX6_copyFrom l (win_49 yhg21) hk0 eyr22) ((win_49 yhg21).1) (As := [.ref k0]) (st := []) rfl rfl (Nat.le_of_ble_eq_true rfl) ⟨Nat.le_of_ble_eq_true rfl, Nat.le_of_ble_eq_true rfl⟩ ⟨Nat.zero_le _, Nat.zero_le _⟩ (fun r h2 hF => ?_)
  obtain ⟨rfl, rfl⟩ := hF
  show wM p l e (wR 2) s m args below meth c 0 0 (wE below args s D dA b0 ad S0 F) 2 D dA b0 ad S0 13 [some (.ref 48), some (.ref k0)] [] yr22
  refine w_aload_n X dX8_keep_13 rfl rfl rfl ?_
  refine w_aload_n X dX8_keep_14 rfl rfl rfl ?_
  refine w_getI X dX8_keep_15 rfl fl_X8_22 S0_48 rfl ?_
  refine w_iconst X dX8_keep_18 rfl ci_1 ?_
  refine w_iadd X dX8_keep_19 rfl ?_
  refine w_bipush X dX8_keep_20 rfl cb_16 ?_
  refine w_irem X dX8_keep_22 rfl (by decide) ?_
  refine w_putI X dX8_keep_23 rfl fp_X8_22 S0_48 rfl ?_
  refine w_nmh (fun yh23 eyh23 => ?_)
  have hf := wok_l hf eyh23
  refine w_aload_n X dX8_keep_26 rfl rfl rfl ?_
  refine w_aload_n X dX8_keep_27 rfl rfl rfl ?_
  refine w_getI X dX8_keep_28 rfl fl_X8_18 S0_48 rfl ?_
  refine w_iconst X dX8_keep_31 rfl ci_1 ?_
  refine w_iadd X dX8_keep_32 rfl ?_
  refine w_bipush X dX8_keep_33 rfl cb_16 ?_
  refine w_mmin X dX8_keep_35 rfl wd_821 wd_425 wd_15 wd_426 (Nat.le_of_ble_eq_true rfl) (Nat.le_of_ble_eq_true rfl) (Nat.zero_le _) (Nat.zero_le _) ?_
  refine w_putI X dX8_keep_38 rfl fp_X8_18 S0_48 rfl ?_
  refine w_nmh (fun yh24 eyh24 => ?_)
  have hf := wok_l hf eyh24
  exact w_vret X dX8_keep_41 hr (hT _ (wok_s hf))
set_option maxRecDepth 4000 in
theorem kX8_keep (l : Launch) {h : wSt} {k0 : Nat} (hk0 : wI6 k0) {res : wSt} (hf : fX8_keep h k0 = some res) : wC l yX8_keep cX8_keep 2 none 2 S0 [.ref 48, .ref k0] h (wFV (fun b => res = b)) := by
  refine w_meth2 0 (by decide) (Nat.le_of_ble_eq_true rfl) (ls := [some (.ref 48), some (.ref k0)]) rfl ?_
  intro p e s m args below meth c D dA b0 ad X hr
  exact pX8_keep_b0 X hr hk0 (K := fun z => res = z) (fun h2 hz => ⟨rfl, hz⟩) ⟨res, hf, rfl⟩
set_option maxRecDepth 4000 in
theorem pX8_takeBack_b0 (X : wCx p s m args meth c RX8 cX8_takeBack 2 D dA b0 ad) (hr : meth.sig.returnType = (some .boolean)) {h : wSt} {k0 : Nat} (hk0 : wI6 k0) {K : Bool × wSt → Prop} (hT : ∀ (x : Bool) (h2 : wSt), K (x, h2) → F (some (.int (wb x))) h2) (hf : wok (fX8_takeBack h k0) K) : wM p l e (wR 2) s m args below meth c 0 0 (wE below args s D dA b0 ad S0 F) 2 D dA b0 ad S0 0 [some (.ref 48), some (.ref k0)] [] h := by
  unfold fX8_takeBack at hf
  refine w_aload_n X dX8_takeBack_0 rfl rfl rfl ?_
  refine w_getI X dX8_takeBack_1 rfl fl_X8_18 S0_48 rfl ?_
  refine w_if_ne X dX8_takeBack_4 rfl (t := 9) rfl (fun hc => ?_) (fun hc => ?_)
  · have hf := wok_f hf hc
    refine w_aload_n X dX8_takeBack_9 rfl rfl rfl ?_
    refine w_dup X dX8_takeBack_10 rfl rfl ?_
    refine w_getI X dX8_takeBack_11 rfl fl_X8_18 S0_48 rfl ?_
    refine w_iconst X dX8_takeBack_14 rfl ci_1 ?_
    refine w_isub X dX8_takeBack_15 rfl ?_
    refine w_putI X dX8_takeBack_16 rfl fp_X8_18 S0_48 rfl ?_
    refine w_nmh (fun yh21 eyh21 => ?_)
    have hf := wok_l hf eyh21
    refine w_aload_n X dX8_takeBack_19 rfl rfl rfl ?_
    refine w_aload_n X dX8_takeBack_20 rfl rfl rfl ?_
    refine w_getI X dX8_takeBack_21 rfl fl_X8_22 S0_48 rfl ?_
    refine w_bipush X dX8_takeBack_24 rfl cb_16 ?_
    refine w_iadd X dX8_takeBack_26 rfl ?_
    refine w_iconst X dX8_takeBack_27 rfl ci_1 ?_
    refine w_isub X dX8_takeBack_28 rfl ?_
    refine w_bipush X dX8_takeBack_29 rfl cb_16 ?_
    refine w_irem X dX8_takeBack_31 rfl (by decide) ?_
    refine w_putI X dX8_takeBack_32 rfl fp_X8_22 S0_48 rfl ?_
    refine w_nmh (fun yh22 eyh22 => ?_)
    have hf := wok_l hf eyh22
    refine w_aload_n X dX8_takeBack_35 rfl rfl rfl ?_
    refine w_aload_n X dX8_takeBack_36 rfl rfl rfl ?_
    refine w_getR X dX8_takeBack_37 rfl fl_X8_11 S0_48 rfl ?_
    refine w_aload_n X dX8_takeBack_40 rfl rfl rfl ?_
    refine w_getI X dX8_takeBack_41 rfl fl_X8_22 S0_48 rfl ?_
    obtain ⟨yhg23, hf⟩ := wok_g hf
    refine w_aald5 X dX8_takeBack_44 rfl S0_49 yhg23 (wrow_49 yhg23) ?_
    obtain ⟨yr24, eyr24, hf⟩ := wok_b hf
    refine w_callV X dX8_takeBack_45 rfl vl_X8_25 (kX6_copyFrom l hk0 (win_49 yhg23) eyr24) hk0.1 (As := [.ref (50 + 5 * (yh22.1 48 1).toNatClampNeg)]) (st := []) rfl rfl (Nat.le_of_ble_eq_true rfl) ⟨Nat.le_of_ble_eq_true rfl, Nat.le_of_ble_eq_true rfl⟩ ⟨Nat.zero_le _, Nat.zero_le _⟩ (fun r h2 hF => ?_)
    obtain ⟨rfl, rfl⟩ := hF
    show wM p l e (wR 2) s m args below meth c 0 0 (wE below args s D dA b0 ad S0 F) 2 D dA b0 ad S0 48 [some (.ref 48), some (.ref k0)] [] yr24
    refine w_iconst X dX8_takeBack_48 rfl ci_1 ?_
    exact w_zret X dX8_takeBack_49 hr rfl (hT true _ (wok_s hf))
  · have hf := wok_t hf hc
    refine w_iconst X dX8_takeBack_7 rfl ci_0 ?_
    exact w_zret X dX8_takeBack_8 hr rfl (hT false _ (wok_s hf))
set_option maxRecDepth 4000 in
theorem kX8_takeBack (l : Launch) {h : wSt} {k0 : Nat} (hk0 : wI6 k0) {res : Bool × wSt} (hf : fX8_takeBack h k0 = some res) : wC l yX8_takeBack cX8_takeBack 2 (some .boolean) 2 S0 [.ref 48, .ref k0] h (wFZ (fun a b => res.1 = a ∧ res.2 = b)) := by
  refine w_meth2 0 (by decide) (Nat.le_of_ble_eq_true rfl) (ls := [some (.ref 48), some (.ref k0)]) rfl ?_
  intro p e s m args below meth c D dA b0 ad X hr
  exact pX8_takeBack_b0 X hr hk0 (K := fun z => res = z) (fun x h2 hz => ⟨x, rfl, by rw [hz], by rw [hz]⟩) ⟨res, hf, rfl⟩
set_option maxRecDepth 4000 in
theorem pX0_keep_b0 (X : wCx p s m args meth c RX0 cX0_keep 4 D dA b0 ad) (hr : meth.sig.returnType = none) {h : wSt} {k : Nat} {k0 : Nat} {k1 : Nat} {k2 : Nat} (hk : wI0 k) (hk0 : wI6 k0) (hk1 : wI9 k1) (hk2 : wI5 k2) {K : wSt → Prop} (hT : ∀ (h2 : wSt), K h2 → F none h2) (hf : wok (fX0_keep h k k0 k1 k2) K) : wM p l e (wR 2) s m args below meth c 0 0 (wE below args s D dA b0 ad S0 F) 4 D dA b0 ad S0 0 [some (.ref k), some (.ref k0), some (.ref k1), some (.ref k2)] [] h := by
  unfold fX0_keep at hf
  refine w_aload_n X dX0_keep_0 rfl rfl rfl ?_
  refine w_getR X dX0_keep_1 rfl fl_X0_28 hk.1 rfl ?_
  refine w_aload_n X dX0_keep_4 rfl rfl rfl ?_
  obtain ⟨yr21, eyr21, hf⟩ := wok_b hf
  refine w_callV X dX0_keep_5 rfl vl_X0_32 (kX6_copyFrom l hk.2.2.2 hk0 eyr21) hk.2.2.2.1 (As := [.ref k0]) (st := []) rfl rfl (Nat.le_of_ble_eq_true rfl) ⟨Nat.le_of_ble_eq_true rfl, Nat.le_of_ble_eq_true rfl⟩ ⟨Nat.zero_le _, Nat.zero_le _⟩ (fun r h2 hF => ?_)
  obtain ⟨rfl, rfl⟩ := hF
  show wM p l e (wR 2) s m args below meth c 0 0 (wE below args s D dA b0 ad S0 F) 4 D dA b0 ad S0 8 [some (.ref k), some (.ref k0), some (.ref k1), some (.ref k2)] [] yr21
  refine w_aload_n X dX0_keep_8 rfl rfl rfl ?_
  refine w_getR X dX0_keep_9 rfl fl_X0_10 hk.1 rfl ?_
  refine w_aload_n X dX0_keep_12 rfl rfl rfl ?_
  obtain ⟨yr22, eyr22, hf⟩ := wok_b hf
  refine w_callV X dX0_keep_13 rfl vl_X0_36 (kX9_copyFrom l hk.2.1 hk1 eyr22) hk.2.1.1 (As := [.ref k1]) (st := []) rfl rfl (Nat.le_of_ble_eq_true rfl) ⟨Nat.le_of_ble_eq_true rfl, Nat.le_of_ble_eq_true rfl⟩ ⟨Nat.zero_le _, Nat.zero_le _⟩ (fun r h2 hF => ?_)
  obtain ⟨rfl, rfl⟩ := hF
  show wM p l e (wR 2) s m args below meth c 0 0 (wE below args s D dA b0 ad S0 F) 4 D dA b0 ad S0 16 [some (.ref k), some (.ref k0), some (.ref k1), some (.ref k2)] [] yr22
  refine w_aload_n X dX0_keep_16 rfl rfl rfl ?_
  refine w_getR X dX0_keep_17 rfl fl_X0_19 hk.1 rfl ?_
  refine w_aload_n X dX0_keep_20 rfl rfl rfl ?_
  obtain ⟨yr23, eyr23, hf⟩ := wok_b hf
  refine w_callV X dX0_keep_21 rfl vl_X0_39 (kX5_copyFrom l hk.2.2.1 hk2 eyr23) hk.2.2.1.1 (As := [.ref k2]) (st := []) rfl rfl (Nat.le_of_ble_eq_true rfl) ⟨Nat.le_of_ble_eq_true rfl, Nat.le_of_ble_eq_true rfl⟩ ⟨Nat.zero_le _, Nat.zero_le _⟩ (fun r h2 hF => ?_)
  obtain ⟨rfl, rfl⟩ := hF
  show wM p l e (wR 2) s m args below meth c 0 0 (wE below args s D dA b0 ad S0 F) 4 D dA b0 ad S0 24 [some (.ref k), some (.ref k0), some (.ref k1), some (.ref k2)] [] yr23
  refine w_aload_n X dX0_keep_24 rfl rfl rfl ?_
  refine w_iconst X dX0_keep_25 rfl ci_1 ?_
  refine w_putZ X dX0_keep_26 rfl (hx := rfl) fp_X0_42 hk.1 rfl ?_
  refine w_nmh (fun yh24 eyh24 => ?_)
  have hf := wok_l hf eyh24
  exact w_vret X dX0_keep_29 hr (hT _ (wok_s hf))
set_option maxRecDepth 4000 in
theorem kX0_keep (l : Launch) {h : wSt} {k : Nat} {k0 : Nat} {k1 : Nat} {k2 : Nat} (hk : wI0 k) (hk0 : wI6 k0) (hk1 : wI9 k1) (hk2 : wI5 k2) {res : wSt} (hf : fX0_keep h k k0 k1 k2 = some res) : wC l yX0_keep cX0_keep 4 none 2 S0 [.ref k, .ref k0, .ref k1, .ref k2] h (wFV (fun b => res = b)) := by
  refine w_meth2 0 (by decide) (Nat.le_of_ble_eq_true rfl) (ls := [some (.ref k), some (.ref k0), some (.ref k1), some (.ref k2)]) rfl ?_
  intro p e s m args below meth c D dA b0 ad X hr
  exact pX0_keep_b0 X hr hk hk0 hk1 hk2 (K := fun z => res = z) (fun h2 hz => ⟨rfl, hz⟩) ⟨res, hf, rfl⟩
set_option maxRecDepth 4000 in
theorem pX3_gatherShortest_b70_16 (X : wCx p s m args meth c RX3 cX3_gatherShortest 5 D dA b0 ad) (hr : meth.sig.returnType = none) {h : wSt} {v1 : Int32} {v2 : Int32} {v3 : Int32} {v4 : Int32} {K : (Int32 × wSt) ⊕ ((wSt)) → Prop} (hN : ∀ (n4 : Int32) (nh : wSt), K (.inl (n4, nh)) → wM p l e (wR 1) s m args below meth c 0 0 (wE below args s D dA b0 ad S0 F) 5 D dA b0 ad S0 16 [some (.ref 130), some (.int v1), some (.int v2), some (.int v3), some (.int n4)] [] nh) (hX0 : ∀ (nh : wSt), K (.inr nh) → wM p l e (wR 1) s m args below meth c 0 0 (wE below args s D dA b0 ad S0 F) 5 D dA b0 ad S0 76 [some (.ref 130), some (.int v1), some (.int v2), some (.int v3), none] [] nh) (hf : wok (fX3_gatherShortest_b70_16 h v1 v2 v3 v4) K) : wM p l e (wR 1) s m args below meth c 0 0 (wE below args s D dA b0 ad S0 F) 5 D dA b0 ad S0 70 [some (.ref 130), some (.int v1), some (.int v2), some (.int v3), some (.int v4)] [] h := by
  unfold fX3_gatherShortest_b70_16 at hf
  refine w_iinc X dX3_gatherShortest_70 rfl (v := (v4 + 1)) rfl rfl (Nat.le_of_ble_eq_true rfl) (cinc_1 _) (ls' := [some (.ref 130), some (.int v1), some (.int v2), some (.int v3), some (.int (v4 + 1))]) rfl ?_
  refine w_goto X dX3_gatherShortest_73 (t := 16) rfl ?_
  exact hN _ _ (wok_s hf)
set_option maxRecDepth 4000 in
theorem pX3_gatherShortest_l16b (X : wCx p s m args meth c RX3 cX3_gatherShortest 5 D dA b0 ad) (hr : meth.sig.returnType = none) {h : wSt} {v1 : Int32} {v2 : Int32} {v3 : Int32} {v4 : Int32} {K : (Int32 × wSt) ⊕ ((wSt)) → Prop} (hN : ∀ (n4 : Int32) (nh : wSt), K (.inl (n4, nh)) → wM p l e (wR 1) s m args below meth c 0 0 (wE below args s D dA b0 ad S0 F) 5 D dA b0 ad S0 16 [some (.ref 130), some (.int v1), some (.int v2), some (.int v3), some (.int n4)] [] nh) (hX0 : ∀ (nh : wSt), K (.inr nh) → wM p l e (wR 1) s m args below meth c 0 0 (wE below args s D dA b0 ad S0 F) 5 D dA b0 ad S0 76 [some (.ref 130), some (.int v1), some (.int v2), some (.int v3), none] [] nh) (hf : wok (fX3_gatherShortest_l16 h v1 v2 v3 v4) K) : wM p l e (wR 1) s m args below meth c 0 0 (wE below args s D dA b0 ad S0 F) 5 D dA b0 ad S0 16 [some (.ref 130), some (.int v1), some (.int v2), some (.int v3), some (.int v4)] [] h := by
  unfold fX3_gatherShortest_l16 at hf
  refine w_iload X dX3_gatherShortest_16 rfl rfl ?_
  refine w_aload_n X dX3_gatherShortest_18 rfl rfl rfl ?_
  refine w_getR X dX3_gatherShortest_19 rfl fl_X3_21 S0_130 rfl ?_
  refine w_getI X dX3_gatherShortest_22 rfl fl_X3_25 S0_3 rfl ?_
  refine w_icmp_ge X dX3_gatherShortest_25 rfl (t := 76) rfl (fun hc => ?_) (fun hc => ?_)
  · have hf := wok_t hf hc
    refine w_fg (ls2 := [some (.ref 130), some (.int v1), some (.int v2), some (.int v3), none]) ⟨rfl, rfl, rfl, rfl, trivial⟩ ?_
    exact hX0 _ (wok_s hf)
  · have hf := wok_f hf hc
    refine w_aload_n X dX3_gatherShortest_28 rfl rfl rfl ?_
    refine w_getI X dX3_gatherShortest_29 rfl fl_X3_53 S0_130 rfl ?_
    refine w_iload_n X dX3_gatherShortest_32 rfl rfl rfl ?_
    refine w_icmp_ge X dX3_gatherShortest_33 rfl (t := 76) rfl (fun hc => ?_) (fun hc => ?_)
    · have hf := wok_t hf hc
      refine w_fg (ls2 := [some (.ref 130), some (.int v1), some (.int v2), some (.int v3), none]) ⟨rfl, rfl, rfl, rfl, trivial⟩ ?_
      exact hX0 _ (wok_s hf)
    · have hf := wok_f hf hc
      refine w_aload_n X dX3_gatherShortest_36 rfl rfl rfl ?_
      refine w_getR X dX3_gatherShortest_37 rfl fl_X3_21 S0_130 rfl ?_
      refine w_getR X dX3_gatherShortest_40 rfl fl_X3_46 S0_3 rfl ?_
      refine w_iload X dX3_gatherShortest_43 rfl rfl ?_
      obtain ⟨yhg22, hf⟩ := wok_g hf
      refine w_iald X dX3_gatherShortest_45 rfl (j := v4.toNatClampNeg) rfl S0_11 yhg22 ?_
      refine w_iload_n X dX3_gatherShortest_46 rfl rfl rfl ?_
      refine w_icmp_ne X dX3_gatherShortest_47 rfl (t := 70) rfl (fun hc => ?_) (fun hc => ?_)
      · have hf := wok_f hf hc
        exact pX3_gatherShortest_b70_16 X hr  hN hX0 hf
      · have hf := wok_t hf hc
        refine w_aload_n X dX3_gatherShortest_50 rfl rfl rfl ?_
        refine w_getR X dX3_gatherShortest_51 rfl fl_X3_15 S0_130 rfl ?_
        refine w_aload_n X dX3_gatherShortest_54 rfl rfl rfl ?_
        refine w_getI X dX3_gatherShortest_55 rfl fl_X3_53 S0_130 rfl ?_
        refine w_iload_n X dX3_gatherShortest_58 rfl rfl rfl ?_
        obtain ⟨yhg23, hf⟩ := wok_g hf
        refine w_iast X dX3_gatherShortest_59 rfl (j := (h.1 130 4).toNatClampNeg) rfl S0_132 yhg23 ?_
        refine w_nmh (fun yh24 eyh24 => ?_)
        have hf := wok_l hf eyh24
        refine w_aload_n X dX3_gatherShortest_60 rfl rfl rfl ?_
        refine w_dup X dX3_gatherShortest_61 rfl rfl ?_
        refine w_getI X dX3_gatherShortest_62 rfl fl_X3_53 S0_130 rfl ?_
        refine w_iconst X dX3_gatherShortest_65 rfl ci_1 ?_
        refine w_iadd X dX3_gatherShortest_66 rfl ?_
        refine w_putI X dX3_gatherShortest_67 rfl fp_X3_53 S0_130 rfl ?_
        refine w_nmh (fun yh25 eyh25 => ?_)
        have hf := wok_l hf eyh25
        exact pX3_gatherShortest_b70_16 X hr  hN hX0 hf
set_option maxRecDepth 4000 in
theorem pX3_gatherShortest_l16 (X : wCx p s m args meth c RX3 cX3_gatherShortest 5 D dA b0 ad) (hr : meth.sig.returnType = none)  {v1 : Int32} {v2 : Int32} {v3 : Int32} {KE : (wSt) → Prop} (hX0 : ∀ (nh : wSt), KE (nh) → wM p l e (wR 1) s m args below meth c 0 0 (wE below args s D dA b0 ad S0 F) 5 D dA b0 ad S0 76 [some (.ref 130), some (.int v1), some (.int v2), some (.int v3), none] [] nh) : ∀ (n : Nat) (v4 : Int32) (h : wSt), wok (wit (fun v : (Int32 × wSt) => fX3_gatherShortest_l16 v.2 v1 v2 v3 v.1) n (v4, h)) KE → wM p l e (wR 1) s m args below meth c 0 0 (wE below args s D dA b0 ad S0 F) 5 D dA b0 ad S0 16 [some (.ref 130), some (.int v1), some (.int v2), some (.int v3), some (.int v4)] [] h := by
  have key := wit_M (b := (fun v : (Int32 × wSt) => fX3_gatherShortest_l16 v.2 v1 v2 v3 v.1)) (KE := KE) (G := fun v => wM p l e (wR 1) s m args below meth c 0 0 (wE below args s D dA b0 ad S0 F) 5 D dA b0 ad S0 16 [some (.ref 130), some (.int v1), some (.int v2), some (.int v3), some (.int v.1)] [] v.2) (fun v K hN hE hf => pX3_gatherShortest_l16b X hr  (fun n4 nh hz => hN (n4, nh) hz) (fun z0 hz => hX0 z0 (hE _ hz)) hf)
  exact fun n v4 h hf => key n (v4, h) hf
set_option maxRecDepth 4000 in
theorem pX3_gatherShortest_l7b (X : wCx p s m args meth c RX3 cX3_gatherShortest 5 D dA b0 ad) (hr : meth.sig.returnType = none) {h : wSt} {v1 : Int32} {v2 : Int32} {v3 : Int32} {K : (Int32 × wSt) ⊕ ((wSt)) → Prop} (hN : ∀ (n3 : Int32) (nh : wSt), K (.inl (n3, nh)) → wM p l e (wR 1) s m args below meth c 0 0 (wE below args s D dA b0 ad S0 F) 5 D dA b0 ad S0 7 [some (.ref 130), some (.int v1), some (.int v2), some (.int n3), none] [] nh) (hX0 : ∀ (nh : wSt), K (.inr nh) → wM p l e (wR 1) s m args below meth c 0 0 (wE below args s D dA b0 ad S0 F) 5 D dA b0 ad S0 82 [none, none, none, none, none] [] nh) (hf : wok (fX3_gatherShortest_l7 h v1 v2 v3) K) : wM p l e (wR 1) s m args below meth c 0 0 (wE below args s D dA b0 ad S0 F) 5 D dA b0 ad S0 7 [some (.ref 130), some (.int v1), some (.int v2), some (.int v3), none] [] h := by
  unfold fX3_gatherShortest_l7 at hf
  refine w_iload_n X dX3_gatherShortest_7 rfl rfl rfl ?_
  refine w_bipush X dX3_gatherShortest_8 rfl cb_6 ?_
  refine w_icmp_gt X dX3_gatherShortest_10 rfl (t := 82) rfl (fun hc => ?_) (fun hc => ?_)
  · have hf := wok_t hf hc
    refine w_fg (ls2 := [none, none, none, none, none]) trivial ?_
    exact hX0 _ (wok_s hf)
  · have hf := wok_f hf hc
    refine w_iload_n X dX3_gatherShortest_13 rfl rfl rfl ?_
    refine w_istore X dX3_gatherShortest_14 rfl rfl (Nat.le_of_ble_eq_true rfl) (ls' := [some (.ref 130), some (.int v1), some (.int v2), some (.int v3), some (.int v2)]) rfl ?_
    obtain ⟨ye26, hye26, hf⟩ := wok_b hf
    refine pX3_gatherShortest_l16 X hr  (KE := fun z => ye26 = z) ?_ 3000 _ _ ⟨ye26, hye26, rfl⟩
    · intro yz27 hz
      subst hz
      refine w_iinc X dX3_gatherShortest_76 rfl (v := (v3 + 1)) rfl rfl (Nat.le_of_ble_eq_true rfl) (cinc_1 _) (ls' := [some (.ref 130), some (.int v1), some (.int v2), some (.int (v3 + 1)), none]) rfl ?_
      refine w_goto X dX3_gatherShortest_79 (t := 7) rfl ?_
      exact hN _ _ (wok_s hf)
set_option maxRecDepth 4000 in
theorem pX3_gatherShortest_l7 (X : wCx p s m args meth c RX3 cX3_gatherShortest 5 D dA b0 ad) (hr : meth.sig.returnType = none)  {v1 : Int32} {v2 : Int32} {KE : (wSt) → Prop} (hX0 : ∀ (nh : wSt), KE (nh) → wM p l e (wR 1) s m args below meth c 0 0 (wE below args s D dA b0 ad S0 F) 5 D dA b0 ad S0 82 [none, none, none, none, none] [] nh) : ∀ (n : Nat) (v3 : Int32) (h : wSt), wok (wit (fun v : (Int32 × wSt) => fX3_gatherShortest_l7 v.2 v1 v2 v.1) n (v3, h)) KE → wM p l e (wR 1) s m args below meth c 0 0 (wE below args s D dA b0 ad S0 F) 5 D dA b0 ad S0 7 [some (.ref 130), some (.int v1), some (.int v2), some (.int v3), none] [] h := by
  have key := wit_M (b := (fun v : (Int32 × wSt) => fX3_gatherShortest_l7 v.2 v1 v2 v.1)) (KE := KE) (G := fun v => wM p l e (wR 1) s m args below meth c 0 0 (wE below args s D dA b0 ad S0 F) 5 D dA b0 ad S0 7 [some (.ref 130), some (.int v1), some (.int v2), some (.int v.1), none] [] v.2) (fun v K hN hE hf => pX3_gatherShortest_l7b X hr  (fun n3 nh hz => hN (n3, nh) hz) (fun z0 hz => hX0 z0 (hE _ hz)) hf)
  exact fun n v3 h hf => key n (v3, h) hf
set_option maxRecDepth 4000 in
theorem pX3_gatherShortest_b0 (X : wCx p s m args meth c RX3 cX3_gatherShortest 5 D dA b0 ad) (hr : meth.sig.returnType = none) {h : wSt} {x0 : Int32} {x1 : Int32} {K : wSt → Prop} (hT : ∀ (h2 : wSt), K h2 → F none h2) (hf : wok (fX3_gatherShortest h x0 x1) K) : wM p l e (wR 1) s m args below meth c 0 0 (wE below args s D dA b0 ad S0 F) 5 D dA b0 ad S0 0 [some (.ref 130), some (.int x0), some (.int x1), none, none] [] h := by
  unfold fX3_gatherShortest at hf
  refine w_aload_n X dX3_gatherShortest_0 rfl rfl rfl ?_
  refine w_iconst X dX3_gatherShortest_1 rfl ci_0 ?_
  refine w_putI X dX3_gatherShortest_2 rfl fp_X3_53 S0_130 rfl ?_
  refine w_nmh (fun yh21 eyh21 => ?_)
  have hf := wok_l hf eyh21
  refine w_iconst X dX3_gatherShortest_5 rfl ci_1 ?_
  refine w_istore_n X dX3_gatherShortest_6 rfl rfl rfl (Nat.le_of_ble_eq_true rfl) (ls' := [some (.ref 130), some (.int x0), some (.int x1), some (.int 1), none]) rfl ?_
  obtain ⟨ye28, hye28, hf⟩ := wok_b hf
  refine pX3_gatherShortest_l7 X hr  (KE := fun z => ye28 = z) ?_ 3000 _ _ ⟨ye28, hye28, rfl⟩
  · intro yz29 hz
    subst hz
    exact w_vret X dX3_gatherShortest_82 hr (hT _ (wok_s hf))
set_option maxRecDepth 4000 in
theorem kX3_gatherShortest (l : Launch) {h : wSt} {x0 : Int32} {x1 : Int32} {res : wSt} (hf : fX3_gatherShortest h x0 x1 = some res) : wC l yX3_gatherShortest cX3_gatherShortest 5 none 1 S0 [.ref 130, .int x0, .int x1] h (wFV (fun b => res = b)) := by
  refine w_meth2 2 (by decide) (Nat.le_of_ble_eq_true rfl) (ls := [some (.ref 130), some (.int x0), some (.int x1), none, none]) rfl ?_
  intro p e s m args below meth c D dA b0 ad X hr
  exact pX3_gatherShortest_b0 X hr  (K := fun z => res = z) (fun h2 hz => ⟨rfl, hz⟩) ⟨res, hf, rfl⟩
set_option maxRecDepth 4000 in
theorem pX3_gatherStretches_b99_9 (X : wCx p s m args meth c RX3 cX3_gatherStretches 6 D dA b0 ad) (hr : meth.sig.returnType = none) {h : wSt} {v1 : Int32} {v2 : Int32} {v3 : Int32} {K : (Int32 × Int32 × wSt) ⊕ ((wSt)) → Prop} (hN : ∀ (n2 : Int32) (n3 : Int32) (nh : wSt), K (.inl (n2, n3, nh)) → wM p l e (wR 1) s m args below meth c 0 0 (wE below args s D dA b0 ad S0 F) 6 D dA b0 ad S0 9 [some (.ref 130), some (.int v1), some (.int n2), some (.int n3), none, none] [] nh) (hX0 : ∀ (nh : wSt), K (.inr nh) → wM p l e (wR 1) s m args below meth c 0 0 (wE below args s D dA b0 ad S0 F) 6 D dA b0 ad S0 105 [none, none, none, none, none, none] [] nh) (hf : wok (fX3_gatherStretches_b99_9 h v1 v2 v3) K) : wM p l e (wR 1) s m args below meth c 0 0 (wE below args s D dA b0 ad S0 F) 6 D dA b0 ad S0 99 [some (.ref 130), some (.int v1), some (.int v2), some (.int v3), none, none] [] h := by
  unfold fX3_gatherStretches_b99_9 at hf
  refine w_iinc X dX3_gatherStretches_99 rfl (v := (v3 + 1)) rfl rfl (Nat.le_of_ble_eq_true rfl) (cinc_1 _) (ls' := [some (.ref 130), some (.int v1), some (.int v2), some (.int (v3 + 1)), none, none]) rfl ?_
  refine w_goto X dX3_gatherStretches_102 (t := 9) rfl ?_
  exact hN _ _ _ (wok_s hf)
set_option maxRecDepth 4000 in
theorem pX3_gatherStretches_b66_9 (X : wCx p s m args meth c RX3 cX3_gatherStretches 6 D dA b0 ad) (hr : meth.sig.returnType = none) {h : wSt} {v1 : Int32} {v2 : Int32} {v3 : Int32} {w0 : Int32} {K : (Int32 × Int32 × wSt) ⊕ ((wSt)) → Prop} (hN : ∀ (n2 : Int32) (n3 : Int32) (nh : wSt), K (.inl (n2, n3, nh)) → wM p l e (wR 1) s m args below meth c 0 0 (wE below args s D dA b0 ad S0 F) 6 D dA b0 ad S0 9 [some (.ref 130), some (.int v1), some (.int n2), some (.int n3), none, none] [] nh) (hX0 : ∀ (nh : wSt), K (.inr nh) → wM p l e (wR 1) s m args below meth c 0 0 (wE below args s D dA b0 ad S0 F) 6 D dA b0 ad S0 105 [none, none, none, none, none, none] [] nh) (hf : wok (fX3_gatherStretches_b66_9 h v1 v2 v3 w0) K) : wM p l e (wR 1) s m args below meth c 0 0 (wE below args s D dA b0 ad S0 F) 6 D dA b0 ad S0 66 [some (.ref 130), some (.int v1), some (.int v2), some (.int v3), none, none] [.int w0] h := by
  unfold fX3_gatherStretches_b66_9 at hf
  refine w_istore X dX3_gatherStretches_66 rfl rfl (Nat.le_of_ble_eq_true rfl) (ls' := [some (.ref 130), some (.int v1), some (.int v2), some (.int v3), none, some (.int w0)]) rfl ?_
  refine w_iload_n X dX3_gatherStretches_68 rfl rfl rfl ?_
  refine w_if_le X dX3_gatherStretches_69 rfl (t := 99) rfl (fun hc => ?_) (fun hc => ?_)
  · have hf := wok_t hf hc
    refine w_fg (ls2 := [some (.ref 130), some (.int v1), some (.int v2), some (.int v3), none, none]) ⟨rfl, rfl, rfl, rfl, trivial⟩ ?_
    exact pX3_gatherStretches_b99_9 X hr  hN hX0 hf
  · have hf := wok_f hf hc
    refine w_iload X dX3_gatherStretches_72 rfl rfl ?_
    refine w_if_eq X dX3_gatherStretches_74 rfl (t := 99) rfl (fun hc => ?_) (fun hc => ?_)
    · have hf := wok_t hf hc
      refine w_fg (ls2 := [some (.ref 130), some (.int v1), some (.int v2), some (.int v3), none, none]) ⟨rfl, rfl, rfl, rfl, trivial⟩ ?_
      exact pX3_gatherStretches_b99_9 X hr  hN hX0 hf
    · have hf := wok_f hf hc
      refine w_aload_n X dX3_gatherStretches_77 rfl rfl rfl ?_
      refine w_getR X dX3_gatherStretches_78 rfl fl_X3_18 S0_130 rfl ?_
      refine w_aload_n X dX3_gatherStretches_81 rfl rfl rfl ?_
      refine w_getI X dX3_gatherStretches_82 rfl fl_X3_64 S0_130 rfl ?_
      refine w_iload_n X dX3_gatherStretches_85 rfl rfl rfl ?_
      obtain ⟨yhg22, hf⟩ := wok_g hf
      refine w_iast X dX3_gatherStretches_86 rfl (j := (h.1 130 6).toNatClampNeg) rfl S0_133 yhg22 ?_
      refine w_nmh (fun yh23 eyh23 => ?_)
      have hf := wok_l hf eyh23
      refine w_aload_n X dX3_gatherStretches_87 rfl rfl rfl ?_
      refine w_dup X dX3_gatherStretches_88 rfl rfl ?_
      refine w_getI X dX3_gatherStretches_89 rfl fl_X3_64 S0_130 rfl ?_
      refine w_iconst X dX3_gatherStretches_92 rfl ci_1 ?_
      refine w_iadd X dX3_gatherStretches_93 rfl ?_
      refine w_putI X dX3_gatherStretches_94 rfl fp_X3_64 S0_130 rfl ?_
      refine w_nmh (fun yh24 eyh24 => ?_)
      have hf := wok_l hf eyh24
      refine w_iconst X dX3_gatherStretches_97 rfl ci_0 ?_
      refine w_istore_n X dX3_gatherStretches_98 rfl rfl rfl (Nat.le_of_ble_eq_true rfl) (ls' := [some (.ref 130), some (.int v1), some (.int 0), some (.int v3), none, some (.int w0)]) rfl ?_
      refine w_fg (ls2 := [some (.ref 130), some (.int v1), some (.int 0), some (.int v3), none, none]) ⟨rfl, rfl, rfl, rfl, trivial⟩ ?_
      exact pX3_gatherStretches_b99_9 X hr  hN hX0 hf
set_option maxRecDepth 4000 in
theorem pX3_gatherStretches_b61_9 (X : wCx p s m args meth c RX3 cX3_gatherStretches 6 D dA b0 ad) (hr : meth.sig.returnType = none) {h : wSt} {v1 : Int32} {v2 : Int32} {v3 : Int32} {K : (Int32 × Int32 × wSt) ⊕ ((wSt)) → Prop} (hN : ∀ (n2 : Int32) (n3 : Int32) (nh : wSt), K (.inl (n2, n3, nh)) → wM p l e (wR 1) s m args below meth c 0 0 (wE below args s D dA b0 ad S0 F) 6 D dA b0 ad S0 9 [some (.ref 130), some (.int v1), some (.int n2), some (.int n3), none, none] [] nh) (hX0 : ∀ (nh : wSt), K (.inr nh) → wM p l e (wR 1) s m args below meth c 0 0 (wE below args s D dA b0 ad S0 F) 6 D dA b0 ad S0 105 [none, none, none, none, none, none] [] nh) (hf : wok (fX3_gatherStretches_b61_9 h v1 v2 v3) K) : wM p l e (wR 1) s m args below meth c 0 0 (wE below args s D dA b0 ad S0 F) 6 D dA b0 ad S0 61 [some (.ref 130), some (.int v1), some (.int v2), some (.int v3), none, none] [] h := by
  unfold fX3_gatherStretches_b61_9 at hf
  refine w_iconst X dX3_gatherStretches_61 rfl ci_1 ?_
  refine w_goto X dX3_gatherStretches_62 (t := 66) rfl ?_
  exact pX3_gatherStretches_b66_9 X hr  hN hX0 hf
set_option maxRecDepth 4000 in
theorem pX3_gatherStretches_b44_9 (X : wCx p s m args meth c RX3 cX3_gatherStretches 6 D dA b0 ad) (hr : meth.sig.returnType = none) {h : wSt} {v1 : Int32} {v2 : Int32} {v3 : Int32} {w0 : Int32} {K : (Int32 × Int32 × wSt) ⊕ ((wSt)) → Prop} (hN : ∀ (n2 : Int32) (n3 : Int32) (nh : wSt), K (.inl (n2, n3, nh)) → wM p l e (wR 1) s m args below meth c 0 0 (wE below args s D dA b0 ad S0 F) 6 D dA b0 ad S0 9 [some (.ref 130), some (.int v1), some (.int n2), some (.int n3), none, none] [] nh) (hX0 : ∀ (nh : wSt), K (.inr nh) → wM p l e (wR 1) s m args below meth c 0 0 (wE below args s D dA b0 ad S0 F) 6 D dA b0 ad S0 105 [none, none, none, none, none, none] [] nh) (hf : wok (fX3_gatherStretches_b44_9 h v1 v2 v3 w0) K) : wM p l e (wR 1) s m args below meth c 0 0 (wE below args s D dA b0 ad S0 F) 6 D dA b0 ad S0 44 [some (.ref 130), some (.int v1), some (.int v2), some (.int v3), none, none] [.int w0] h := by
  unfold fX3_gatherStretches_b44_9 at hf
  refine w_istore X dX3_gatherStretches_44 rfl rfl (Nat.le_of_ble_eq_true rfl) (ls' := [some (.ref 130), some (.int v1), some (.int v2), some (.int v3), some (.int w0), none]) rfl ?_
  refine w_iload X dX3_gatherStretches_46 rfl rfl ?_
  refine w_if_ne X dX3_gatherStretches_48 rfl (t := 61) rfl (fun hc => ?_) (fun hc => ?_)
  · have hf := wok_f hf hc
    refine w_fg (ls2 := [some (.ref 130), some (.int v1), some (.int v2), some (.int v3), none, none]) ⟨rfl, rfl, rfl, rfl, trivial⟩ ?_
    exact pX3_gatherStretches_b61_9 X hr  hN hX0 hf
  · have hf := wok_t hf hc
    refine w_iload_n X dX3_gatherStretches_51 rfl rfl rfl ?_
    refine w_iload_n X dX3_gatherStretches_52 rfl rfl rfl ?_
    refine w_iconst X dX3_gatherStretches_53 rfl ci_1 ?_
    refine w_iadd X dX3_gatherStretches_54 rfl ?_
    refine w_ishr X dX3_gatherStretches_55 rfl ?_
    refine w_iconst X dX3_gatherStretches_56 rfl ci_1 ?_
    refine w_iand X dX3_gatherStretches_57 rfl ?_
    refine w_if_ne X dX3_gatherStretches_58 rfl (t := 65) rfl (fun hc => ?_) (fun hc => ?_)
    · have hf := wok_f hf hc
      refine w_iconst X dX3_gatherStretches_65 rfl ci_0 ?_
      refine w_fg (ls2 := [some (.ref 130), some (.int v1), some (.int v2), some (.int v3), none, none]) ⟨rfl, rfl, rfl, rfl, trivial⟩ ?_
      exact pX3_gatherStretches_b66_9 X hr  hN hX0 hf
    · have hf := wok_t hf hc
      refine w_fg (ls2 := [some (.ref 130), some (.int v1), some (.int v2), some (.int v3), none, none]) ⟨rfl, rfl, rfl, rfl, trivial⟩ ?_
      exact pX3_gatherStretches_b61_9 X hr  hN hX0 hf
set_option maxRecDepth 4000 in
theorem pX3_gatherStretches_b30_9 (X : wCx p s m args meth c RX3 cX3_gatherStretches 6 D dA b0 ad) (hr : meth.sig.returnType = none) {h : wSt} {v1 : Int32} {v3 : Int32} {w0 : Int32} {K : (Int32 × Int32 × wSt) ⊕ ((wSt)) → Prop} (hN : ∀ (n2 : Int32) (n3 : Int32) (nh : wSt), K (.inl (n2, n3, nh)) → wM p l e (wR 1) s m args below meth c 0 0 (wE below args s D dA b0 ad S0 F) 6 D dA b0 ad S0 9 [some (.ref 130), some (.int v1), some (.int n2), some (.int n3), none, none] [] nh) (hX0 : ∀ (nh : wSt), K (.inr nh) → wM p l e (wR 1) s m args below meth c 0 0 (wE below args s D dA b0 ad S0 F) 6 D dA b0 ad S0 105 [none, none, none, none, none, none] [] nh) (hf : wok (fX3_gatherStretches_b30_9 h v1 v3 w0) K) : wM p l e (wR 1) s m args below meth c 0 0 (wE below args s D dA b0 ad S0 F) 6 D dA b0 ad S0 30 [some (.ref 130), some (.int v1), none, some (.int v3), none, none] [.int w0] h := by
  unfold fX3_gatherStretches_b30_9 at hf
  refine w_istore_n X dX3_gatherStretches_30 rfl rfl rfl (Nat.le_of_ble_eq_true rfl) (ls' := [some (.ref 130), some (.int v1), some (.int w0), some (.int v3), none, none]) rfl ?_
  refine w_iload_n X dX3_gatherStretches_31 rfl rfl rfl ?_
  refine w_bipush X dX3_gatherStretches_32 rfl cb_6 ?_
  refine w_irem X dX3_gatherStretches_34 rfl (by decide) ?_
  refine w_iconst X dX3_gatherStretches_35 rfl ci_5 ?_
  refine w_icmp_ne X dX3_gatherStretches_36 rfl (t := 43) rfl (fun hc => ?_) (fun hc => ?_)
  · have hf := wok_f hf hc
    refine w_iconst X dX3_gatherStretches_43 rfl ci_0 ?_
    exact pX3_gatherStretches_b44_9 X hr  hN hX0 hf
  · have hf := wok_t hf hc
    refine w_iconst X dX3_gatherStretches_39 rfl ci_1 ?_
    refine w_goto X dX3_gatherStretches_40 (t := 44) rfl ?_
    exact pX3_gatherStretches_b44_9 X hr  hN hX0 hf
set_option maxRecDepth 4000 in
theorem pX3_gatherStretches_l9b (X : wCx p s m args meth c RX3 cX3_gatherStretches 6 D dA b0 ad) (hr : meth.sig.returnType = none) {h : wSt} {v1 : Int32} {v2 : Int32} {v3 : Int32} {K : (Int32 × Int32 × wSt) ⊕ ((wSt)) → Prop} (hN : ∀ (n2 : Int32) (n3 : Int32) (nh : wSt), K (.inl (n2, n3, nh)) → wM p l e (wR 1) s m args below meth c 0 0 (wE below args s D dA b0 ad S0 F) 6 D dA b0 ad S0 9 [some (.ref 130), some (.int v1), some (.int n2), some (.int n3), none, none] [] nh) (hX0 : ∀ (nh : wSt), K (.inr nh) → wM p l e (wR 1) s m args below meth c 0 0 (wE below args s D dA b0 ad S0 F) 6 D dA b0 ad S0 105 [none, none, none, none, none, none] [] nh) (hf : wok (fX3_gatherStretches_l9 h v1 v2 v3) K) : wM p l e (wR 1) s m args below meth c 0 0 (wE below args s D dA b0 ad S0 F) 6 D dA b0 ad S0 9 [some (.ref 130), some (.int v1), some (.int v2), some (.int v3), none, none] [] h := by
  unfold fX3_gatherStretches_l9 at hf
  refine w_iload_n X dX3_gatherStretches_9 rfl rfl rfl ?_
  refine w_bipush X dX3_gatherStretches_10 rfl cb_18 ?_
  refine w_icmp_ge X dX3_gatherStretches_12 rfl (t := 105) rfl (fun hc => ?_) (fun hc => ?_)
  · have hf := wok_t hf hc
    refine w_fg (ls2 := [none, none, none, none, none, none]) trivial ?_
    exact hX0 _ (wok_s hf)
  · have hf := wok_f hf hc
    refine w_iload_n X dX3_gatherStretches_15 rfl rfl rfl ?_
    refine w_iload_n X dX3_gatherStretches_16 rfl rfl rfl ?_
    refine w_ishr X dX3_gatherStretches_17 rfl ?_
    refine w_iconst X dX3_gatherStretches_18 rfl ci_1 ?_
    refine w_iand X dX3_gatherStretches_19 rfl ?_
    refine w_if_eq X dX3_gatherStretches_20 rfl (t := 29) rfl (fun hc => ?_) (fun hc => ?_)
    · have hf := wok_t hf hc
      refine w_iconst X dX3_gatherStretches_29 rfl ci_0 ?_
      refine w_fg (ls2 := [some (.ref 130), some (.int v1), none, some (.int v3), none, none]) ⟨rfl, rfl, rfl, trivial⟩ ?_
      exact pX3_gatherStretches_b30_9 X hr  hN hX0 hf
    · have hf := wok_f hf hc
      refine w_iload_n X dX3_gatherStretches_23 rfl rfl rfl ?_
      refine w_iconst X dX3_gatherStretches_24 rfl ci_1 ?_
      refine w_iadd X dX3_gatherStretches_25 rfl ?_
      refine w_goto X dX3_gatherStretches_26 (t := 30) rfl ?_
      refine w_fg (ls2 := [some (.ref 130), some (.int v1), none, some (.int v3), none, none]) ⟨rfl, rfl, rfl, trivial⟩ ?_
      exact pX3_gatherStretches_b30_9 X hr  hN hX0 hf
set_option maxRecDepth 4000 in
theorem pX3_gatherStretches_l9 (X : wCx p s m args meth c RX3 cX3_gatherStretches 6 D dA b0 ad) (hr : meth.sig.returnType = none)  {v1 : Int32} {KE : (wSt) → Prop} (hX0 : ∀ (nh : wSt), KE (nh) → wM p l e (wR 1) s m args below meth c 0 0 (wE below args s D dA b0 ad S0 F) 6 D dA b0 ad S0 105 [none, none, none, none, none, none] [] nh) : ∀ (n : Nat) (v2 : Int32) (v3 : Int32) (h : wSt), wok (wit (fun v : (Int32 × Int32 × wSt) => fX3_gatherStretches_l9 v.2.2 v1 v.1 v.2.1) n (v2, v3, h)) KE → wM p l e (wR 1) s m args below meth c 0 0 (wE below args s D dA b0 ad S0 F) 6 D dA b0 ad S0 9 [some (.ref 130), some (.int v1), some (.int v2), some (.int v3), none, none] [] h := by
  have key := wit_M (b := (fun v : (Int32 × Int32 × wSt) => fX3_gatherStretches_l9 v.2.2 v1 v.1 v.2.1)) (KE := KE) (G := fun v => wM p l e (wR 1) s m args below meth c 0 0 (wE below args s D dA b0 ad S0 F) 6 D dA b0 ad S0 9 [some (.ref 130), some (.int v1), some (.int v.1), some (.int v.2.1), none, none] [] v.2.2) (fun v K hN hE hf => pX3_gatherStretches_l9b X hr  (fun n2 n3 nh hz => hN (n2, n3, nh) hz) (fun z0 hz => hX0 z0 (hE _ hz)) hf)
  exact fun n v2 v3 h hf => key n (v2, v3, h) hf
set_option maxRecDepth 4000 in
theorem pX3_gatherStretches_b0 (X : wCx p s m args meth c RX3 cX3_gatherStretches 6 D dA b0 ad) (hr : meth.sig.returnType = none) {h : wSt} {x0 : Int32} {K : wSt → Prop} (hT : ∀ (h2 : wSt), K h2 → F none h2) (hf : wok (fX3_gatherStretches h x0) K) : wM p l e (wR 1) s m args below meth c 0 0 (wE below args s D dA b0 ad S0 F) 6 D dA b0 ad S0 0 [some (.ref 130), some (.int x0), none, none, none, none] [] h := by
  unfold fX3_gatherStretches at hf
  refine w_aload_n X dX3_gatherStretches_0 rfl rfl rfl ?_
  refine w_iconst X dX3_gatherStretches_1 rfl ci_0 ?_
  refine w_putI X dX3_gatherStretches_2 rfl fp_X3_64 S0_130 rfl ?_
  refine w_nmh (fun yh21 eyh21 => ?_)
  have hf := wok_l hf eyh21
  refine w_iconst X dX3_gatherStretches_5 rfl ci_0 ?_
  refine w_istore_n X dX3_gatherStretches_6 rfl rfl rfl (Nat.le_of_ble_eq_true rfl) (ls' := [some (.ref 130), some (.int x0), some (.int 0), none, none, none]) rfl ?_
  refine w_iconst X dX3_gatherStretches_7 rfl ci_0 ?_
  refine w_istore_n X dX3_gatherStretches_8 rfl rfl rfl (Nat.le_of_ble_eq_true rfl) (ls' := [some (.ref 130), some (.int x0), some (.int 0), some (.int 0), none, none]) rfl ?_
  obtain ⟨ye25, hye25, hf⟩ := wok_b hf
  refine pX3_gatherStretches_l9 X hr  (KE := fun z => ye25 = z) ?_ 3000 _ _ _ ⟨ye25, hye25, rfl⟩
  · intro yz26 hz
    subst hz
    exact w_vret X dX3_gatherStretches_105 hr (hT _ (wok_s hf))
set_option maxRecDepth 4000 in
theorem kX3_gatherStretches (l : Launch) {h : wSt} {x0 : Int32} {res : wSt} (hf : fX3_gatherStretches h x0 = some res) : wC l yX3_gatherStretches cX3_gatherStretches 6 none 1 S0 [.ref 130, .int x0] h (wFV (fun b => res = b)) := by
  refine w_meth2 4 (by decide) (Nat.le_of_ble_eq_true rfl) (ls := [some (.ref 130), some (.int x0), none, none, none, none]) rfl ?_
  intro p e s m args below meth c D dA b0 ad X hr
  exact pX3_gatherStretches_b0 X hr  (K := fun z => res = z) (fun h2 hz => ⟨rfl, hz⟩) ⟨res, hf, rfl⟩
end WX
def fX3_fill_b123_35 (rec0 : wSt → Int32 → Option (Bool × wSt)) (h : wSt) (v1 : Int32) (v2 : Int32) (v3 : Int32) (v4 : Int32) : Option ((Int32 × Int32 × wSt) ⊕ ((wSt) ⊕ (Bool × wSt))) :=
some (.inl (v3, (v4 + 1), h))
def fX3_fill_b67_35 (rec0 : wSt → Int32 → Option (Bool × wSt)) (h : wSt) (v1 : Int32) (v2 : Int32) (v3 : Int32) (v4 : Int32) (v5 : Int32) (w0 : Int32) : Option ((Int32 × Int32 × wSt) ⊕ ((wSt) ⊕ (Bool × wSt))) :=
if v5 < v2 then
fX3_fill_b123_35 rec0 h v1 v2 v3 v4
else
if w0 = 0 then
if wib v4 18 then
wlet (wuI h 133 v4.toNatClampNeg (v5 - v2)) (fun yh25 =>
(rec0 yh25 (v1 + 1)).bind (fun yr26 =>
wlet (wuI yr26.2 133 v4.toNatClampNeg v5) (fun yh27 =>
if yr26.1 = true then
some (.inr (.inr (true, yh27)))
else
fX3_fill_b123_35 rec0 yh27 v1 v2 (v3 ||| (1 <<< (v5 &&& 31))) v4)))
else none
else
fX3_fill_b123_35 rec0 h v1 v2 v3 v4
def fX3_fill_l35 (rec0 : wSt → Int32 → Option (Bool × wSt)) (h : wSt) (v1 : Int32) (v2 : Int32) (v3 : Int32) (v4 : Int32) : Option ((Int32 × Int32 × wSt) ⊕ ((wSt) ⊕ (Bool × wSt))) :=
if (h.1 130 6) ≤ v4 then
some (.inr (.inl h))
else
if wib v4 18 then
if ((v3 >>> ((h.1 133 v4.toNatClampNeg) &&& 31)) &&& 1) = 0 then
fX3_fill_b67_35 rec0 h v1 v2 v3 v4 (h.1 133 v4.toNatClampNeg) (0 : Int32)
else
fX3_fill_b67_35 rec0 h v1 v2 v3 v4 (h.1 133 v4.toNatClampNeg) (1 : Int32)
else none
def fX3_fill_b0 (rec0 : wSt → Int32 → Option (Bool × wSt)) (h : wSt) (x0 : Int32) : Option (Bool × wSt) :=
if (h.1 130 4) ≤ x0 then
some (true, h)
else
if x0 < 6 then
if wib (((h.1 130 4) - 1) - x0) 6 then
wlet (h.1 132 (((h.1 130 4) - 1) - x0).toNatClampNeg) (fun yx22 =>
(wit (fun v : (Int32 × Int32 × wSt) => fX3_fill_l35 rec0 v.2.2 x0 yx22 v.1 v.2.1) 3000 ((0 : Int32), (0 : Int32), h)).bind (fun ye28 => match ye28 with
| .inl ye28v =>
some (false, ye28v)
| .inr ye28r =>
some ye28r))
else none
else
some (true, h)
section WX
variable {p : Program} {l : Launch} {e : Env} {s : State} {m : MethodId} {args : Array Value} {below : List Frame} {meth : Method} {c : Code} {D : va_G} {dA : Nat → ClassId} {b0 : Nat} {ad : Nat → Nat} {F : Option Value → wSt → Prop}
set_option maxRecDepth 4000 in
theorem pX3_fill_b123_35 (X : wCx p s m args meth c RX3 cX3_fill 8 D dA b0 ad) (hr : meth.sig.returnType = (some .boolean)) {h : wSt} {v1 : Int32} {v2 : Int32} {v3 : Int32} {v4 : Int32} {rec0 : wSt → Int32 → Option (Bool × wSt)} {d : Nat} (hd0 : 1 ≤ d) (hrec0 : ∀ (h : wSt) (x0 : Int32) (res : Bool × wSt), rec0 h x0 = some res → wC l yX3_fill cX3_fill 8 (some .boolean) d S0 [.ref 130, .int x0] h (wFZ (fun a b => res.1 = a ∧ res.2 = b))) {K : (Int32 × Int32 × wSt) ⊕ ((wSt) ⊕ (Bool × wSt)) → Prop} (hN : ∀ (n3 : Int32) (n4 : Int32) (nh : wSt), K (.inl (n3, n4, nh)) → wM p l e (wR (d + 1)) s m args below meth c 0 0 (wE below args s D dA b0 ad S0 F) 8 D dA b0 ad S0 35 [some (.ref 130), some (.int v1), some (.int v2), some (.int n3), some (.int n4), none, none, none] [] nh) (hX0 : ∀ (nh : wSt), K (.inr (.inl nh)) → wM p l e (wR (d + 1)) s m args below meth c 0 0 (wE below args s D dA b0 ad S0 F) 8 D dA b0 ad S0 129 [none, none, none, none, none, none, none, none] [] nh) (hT : ∀ (x : Bool) (h2 : wSt), K (.inr (.inr (x, h2))) → F (some (.int (wb x))) h2) (hf : wok (fX3_fill_b123_35 rec0 h v1 v2 v3 v4) K) : wM p l e (wR (d + 1)) s m args below meth c 0 0 (wE below args s D dA b0 ad S0 F) 8 D dA b0 ad S0 123 [some (.ref 130), some (.int v1), some (.int v2), some (.int v3), some (.int v4), none, none, none] [] h := by
  unfold fX3_fill_b123_35 at hf
  refine w_iinc X dX3_fill_123 rfl (v := (v4 + 1)) rfl rfl (Nat.le_of_ble_eq_true rfl) (cinc_1 _) (ls' := [some (.ref 130), some (.int v1), some (.int v2), some (.int v3), some (.int (v4 + 1)), none, none, none]) rfl ?_
  refine w_goto X dX3_fill_126 (t := 35) rfl ?_
  exact hN _ _ _ (wok_s hf)
set_option maxRecDepth 4000 in
theorem pX3_fill_b67_35 (X : wCx p s m args meth c RX3 cX3_fill 8 D dA b0 ad) (hr : meth.sig.returnType = (some .boolean)) {h : wSt} {v1 : Int32} {v2 : Int32} {v3 : Int32} {v4 : Int32} {v5 : Int32} {w0 : Int32} {rec0 : wSt → Int32 → Option (Bool × wSt)} {d : Nat} (hd0 : 1 ≤ d) (hrec0 : ∀ (h : wSt) (x0 : Int32) (res : Bool × wSt), rec0 h x0 = some res → wC l yX3_fill cX3_fill 8 (some .boolean) d S0 [.ref 130, .int x0] h (wFZ (fun a b => res.1 = a ∧ res.2 = b))) {K : (Int32 × Int32 × wSt) ⊕ ((wSt) ⊕ (Bool × wSt)) → Prop} (hN : ∀ (n3 : Int32) (n4 : Int32) (nh : wSt), K (.inl (n3, n4, nh)) → wM p l e (wR (d + 1)) s m args below meth c 0 0 (wE below args s D dA b0 ad S0 F) 8 D dA b0 ad S0 35 [some (.ref 130), some (.int v1), some (.int v2), some (.int n3), some (.int n4), none, none, none] [] nh) (hX0 : ∀ (nh : wSt), K (.inr (.inl nh)) → wM p l e (wR (d + 1)) s m args below meth c 0 0 (wE below args s D dA b0 ad S0 F) 8 D dA b0 ad S0 129 [none, none, none, none, none, none, none, none] [] nh) (hT : ∀ (x : Bool) (h2 : wSt), K (.inr (.inr (x, h2))) → F (some (.int (wb x))) h2) (hf : wok (fX3_fill_b67_35 rec0 h v1 v2 v3 v4 v5 w0) K) : wM p l e (wR (d + 1)) s m args below meth c 0 0 (wE below args s D dA b0 ad S0 F) 8 D dA b0 ad S0 67 [some (.ref 130), some (.int v1), some (.int v2), some (.int v3), some (.int v4), some (.int v5), none, none] [.int w0] h := by
  unfold fX3_fill_b67_35 at hf
  refine w_istore X dX3_fill_67 rfl rfl (Nat.le_of_ble_eq_true rfl) (ls' := [some (.ref 130), some (.int v1), some (.int v2), some (.int v3), some (.int v4), some (.int v5), some (.int w0), none]) rfl ?_
  refine w_iload X dX3_fill_69 rfl rfl ?_
  refine w_iload_n X dX3_fill_71 rfl rfl rfl ?_
  refine w_icmp_lt X dX3_fill_72 rfl (t := 123) rfl (fun hc => ?_) (fun hc => ?_)
  · have hf := wok_t hf hc
    refine w_fg (ls2 := [some (.ref 130), some (.int v1), some (.int v2), some (.int v3), some (.int v4), none, none, none]) ⟨rfl, rfl, rfl, rfl, rfl, trivial⟩ ?_
    exact pX3_fill_b123_35 X hr  hd0 hrec0 hN hX0 hT hf
  · have hf := wok_f hf hc
    refine w_iload X dX3_fill_75 rfl rfl ?_
    refine w_if_ne X dX3_fill_77 rfl (t := 123) rfl (fun hc => ?_) (fun hc => ?_)
    · have hf := wok_f hf hc
      refine w_fg (ls2 := [some (.ref 130), some (.int v1), some (.int v2), some (.int v3), some (.int v4), none, none, none]) ⟨rfl, rfl, rfl, rfl, rfl, trivial⟩ ?_
      exact pX3_fill_b123_35 X hr  hd0 hrec0 hN hX0 hT hf
    · have hf := wok_t hf hc
      refine w_iload_n X dX3_fill_80 rfl rfl rfl ?_
      refine w_iconst X dX3_fill_81 rfl ci_1 ?_
      refine w_iload X dX3_fill_82 rfl rfl ?_
      refine w_ishl X dX3_fill_84 rfl ?_
      refine w_ior X dX3_fill_85 rfl ?_
      refine w_istore_n X dX3_fill_86 rfl rfl rfl (Nat.le_of_ble_eq_true rfl) (ls' := [some (.ref 130), some (.int v1), some (.int v2), some (.int (v3 ||| (1 <<< (v5 &&& 31)))), some (.int v4), some (.int v5), some (.int w0), none]) rfl ?_
      refine w_aload_n X dX3_fill_87 rfl rfl rfl ?_
      refine w_getR X dX3_fill_88 rfl fl_X3_18 S0_130 rfl ?_
      refine w_iload X dX3_fill_91 rfl rfl ?_
      refine w_iload X dX3_fill_93 rfl rfl ?_
      refine w_iload_n X dX3_fill_95 rfl rfl rfl ?_
      refine w_isub X dX3_fill_96 rfl ?_
      obtain ⟨yhg24, hf⟩ := wok_g hf
      refine w_iast X dX3_fill_97 rfl (j := v4.toNatClampNeg) rfl S0_133 yhg24 ?_
      refine w_nmh (fun yh25 eyh25 => ?_)
      have hf := wok_l hf eyh25
      refine w_aload_n X dX3_fill_98 rfl rfl rfl ?_
      refine w_iload_n X dX3_fill_99 rfl rfl rfl ?_
      refine w_iconst X dX3_fill_100 rfl ci_1 ?_
      refine w_iadd X dX3_fill_101 rfl ?_
      obtain ⟨yr26, eyr26, hf⟩ := wok_b hf
      refine w_callV X dX3_fill_102 rfl vl_X3_60 (hrec0 _ _  _ eyr26) S0_130 (As := [.int (v1 + 1)]) (st := []) rfl rfl (Nat.le_of_ble_eq_true rfl) ⟨Nat.le_refl _, by show 8 + (_ + 11) + 64 * d ≤ 64 * (d + 1); omega⟩ ⟨Nat.zero_le _, Nat.zero_le _⟩ (fun r h2 hF => ?_)
      obtain ⟨_, rfl, rfl, rfl⟩ := hF
      show wM p l e (wR (d + 1)) s m args below meth c 0 0 (wE below args s D dA b0 ad S0 F) 8 D dA b0 ad S0 105 [some (.ref 130), some (.int v1), some (.int v2), some (.int (v3 ||| (1 <<< (v5 &&& 31)))), some (.int v4), some (.int v5), some (.int w0), none] [.int (wb yr26.1)] yr26.2
      refine w_istore X dX3_fill_105 rfl rfl (Nat.le_of_ble_eq_true rfl) (ls' := [some (.ref 130), some (.int v1), some (.int v2), some (.int (v3 ||| (1 <<< (v5 &&& 31)))), some (.int v4), some (.int v5), some (.int w0), some (.int (wb yr26.1))]) rfl ?_
      refine w_aload_n X dX3_fill_107 rfl rfl rfl ?_
      refine w_getR X dX3_fill_108 rfl fl_X3_18 S0_130 rfl ?_
      refine w_iload X dX3_fill_111 rfl rfl ?_
      refine w_iload X dX3_fill_113 rfl rfl ?_
      refine w_iast X dX3_fill_115 rfl (j := v4.toNatClampNeg) rfl S0_133 yhg24 ?_
      refine w_nmh (fun yh27 eyh27 => ?_)
      have hf := wok_l hf eyh27
      refine w_iload X dX3_fill_116 rfl rfl ?_
      refine w_if_eq X dX3_fill_118 rfl (t := 123) rfl (fun hc => ?_) (fun hc => ?_)
      · have hf := wok_f hf (wb_0 hc)
        refine w_fg (ls2 := [some (.ref 130), some (.int v1), some (.int v2), some (.int (v3 ||| (1 <<< (v5 &&& 31)))), some (.int v4), none, none, none]) ⟨rfl, rfl, rfl, rfl, rfl, trivial⟩ ?_
        exact pX3_fill_b123_35 X hr  hd0 hrec0 hN hX0 hT hf
      · have hf := wok_t hf (wb_n0 hc)
        refine w_iconst X dX3_fill_121 rfl ci_1 ?_
        exact w_zret X dX3_fill_122 hr rfl (hT true _ (wok_s hf))
set_option maxRecDepth 4000 in
theorem pX3_fill_l35b (X : wCx p s m args meth c RX3 cX3_fill 8 D dA b0 ad) (hr : meth.sig.returnType = (some .boolean)) {h : wSt} {v1 : Int32} {v2 : Int32} {v3 : Int32} {v4 : Int32} {rec0 : wSt → Int32 → Option (Bool × wSt)} {d : Nat} (hd0 : 1 ≤ d) (hrec0 : ∀ (h : wSt) (x0 : Int32) (res : Bool × wSt), rec0 h x0 = some res → wC l yX3_fill cX3_fill 8 (some .boolean) d S0 [.ref 130, .int x0] h (wFZ (fun a b => res.1 = a ∧ res.2 = b))) {K : (Int32 × Int32 × wSt) ⊕ ((wSt) ⊕ (Bool × wSt)) → Prop} (hN : ∀ (n3 : Int32) (n4 : Int32) (nh : wSt), K (.inl (n3, n4, nh)) → wM p l e (wR (d + 1)) s m args below meth c 0 0 (wE below args s D dA b0 ad S0 F) 8 D dA b0 ad S0 35 [some (.ref 130), some (.int v1), some (.int v2), some (.int n3), some (.int n4), none, none, none] [] nh) (hX0 : ∀ (nh : wSt), K (.inr (.inl nh)) → wM p l e (wR (d + 1)) s m args below meth c 0 0 (wE below args s D dA b0 ad S0 F) 8 D dA b0 ad S0 129 [none, none, none, none, none, none, none, none] [] nh) (hT : ∀ (x : Bool) (h2 : wSt), K (.inr (.inr (x, h2))) → F (some (.int (wb x))) h2) (hf : wok (fX3_fill_l35 rec0 h v1 v2 v3 v4) K) : wM p l e (wR (d + 1)) s m args below meth c 0 0 (wE below args s D dA b0 ad S0 F) 8 D dA b0 ad S0 35 [some (.ref 130), some (.int v1), some (.int v2), some (.int v3), some (.int v4), none, none, none] [] h := by
  unfold fX3_fill_l35 at hf
  refine w_iload X dX3_fill_35 rfl rfl ?_
  refine w_aload_n X dX3_fill_37 rfl rfl rfl ?_
  refine w_getI X dX3_fill_38 rfl fl_X3_64 S0_130 rfl ?_
  refine w_icmp_ge X dX3_fill_41 rfl (t := 129) rfl (fun hc => ?_) (fun hc => ?_)
  · have hf := wok_t hf hc
    refine w_fg (ls2 := [none, none, none, none, none, none, none, none]) trivial ?_
    exact hX0 _ (wok_s hf)
  · have hf := wok_f hf hc
    refine w_aload_n X dX3_fill_44 rfl rfl rfl ?_
    refine w_getR X dX3_fill_45 rfl fl_X3_18 S0_130 rfl ?_
    refine w_iload X dX3_fill_48 rfl rfl ?_
    obtain ⟨yhg23, hf⟩ := wok_g hf
    refine w_iald X dX3_fill_50 rfl (j := v4.toNatClampNeg) rfl S0_133 yhg23 ?_
    refine w_istore X dX3_fill_51 rfl rfl (Nat.le_of_ble_eq_true rfl) (ls' := [some (.ref 130), some (.int v1), some (.int v2), some (.int v3), some (.int v4), some (.int (h.1 133 v4.toNatClampNeg)), none, none]) rfl ?_
    refine w_iload_n X dX3_fill_53 rfl rfl rfl ?_
    refine w_iload X dX3_fill_54 rfl rfl ?_
    refine w_ishr X dX3_fill_56 rfl ?_
    refine w_iconst X dX3_fill_57 rfl ci_1 ?_
    refine w_iand X dX3_fill_58 rfl ?_
    refine w_if_eq X dX3_fill_59 rfl (t := 66) rfl (fun hc => ?_) (fun hc => ?_)
    · have hf := wok_t hf hc
      refine w_iconst X dX3_fill_66 rfl ci_0 ?_
      exact pX3_fill_b67_35 X hr  hd0 hrec0 hN hX0 hT hf
    · have hf := wok_f hf hc
      refine w_iconst X dX3_fill_62 rfl ci_1 ?_
      refine w_goto X dX3_fill_63 (t := 67) rfl ?_
      exact pX3_fill_b67_35 X hr  hd0 hrec0 hN hX0 hT hf
set_option maxRecDepth 4000 in
theorem pX3_fill_l35 (X : wCx p s m args meth c RX3 cX3_fill 8 D dA b0 ad) (hr : meth.sig.returnType = (some .boolean))  {v1 : Int32} {v2 : Int32} {rec0 : wSt → Int32 → Option (Bool × wSt)} {d : Nat} (hd0 : 1 ≤ d) (hrec0 : ∀ (h : wSt) (x0 : Int32) (res : Bool × wSt), rec0 h x0 = some res → wC l yX3_fill cX3_fill 8 (some .boolean) d S0 [.ref 130, .int x0] h (wFZ (fun a b => res.1 = a ∧ res.2 = b))) {KE : (wSt) ⊕ (Bool × wSt) → Prop} (hX0 : ∀ (nh : wSt), KE ((.inl nh)) → wM p l e (wR (d + 1)) s m args below meth c 0 0 (wE below args s D dA b0 ad S0 F) 8 D dA b0 ad S0 129 [none, none, none, none, none, none, none, none] [] nh) (hT : ∀ (x : Bool) (h2 : wSt), KE ((.inr (x, h2))) → F (some (.int (wb x))) h2) : ∀ (n : Nat) (v3 : Int32) (v4 : Int32) (h : wSt), wok (wit (fun v : (Int32 × Int32 × wSt) => fX3_fill_l35 rec0 v.2.2 v1 v2 v.1 v.2.1) n (v3, v4, h)) KE → wM p l e (wR (d + 1)) s m args below meth c 0 0 (wE below args s D dA b0 ad S0 F) 8 D dA b0 ad S0 35 [some (.ref 130), some (.int v1), some (.int v2), some (.int v3), some (.int v4), none, none, none] [] h := by
  have key := wit_M (b := (fun v : (Int32 × Int32 × wSt) => fX3_fill_l35 rec0 v.2.2 v1 v2 v.1 v.2.1)) (KE := KE) (G := fun v => wM p l e (wR (d + 1)) s m args below meth c 0 0 (wE below args s D dA b0 ad S0 F) 8 D dA b0 ad S0 35 [some (.ref 130), some (.int v1), some (.int v2), some (.int v.1), some (.int v.2.1), none, none, none] [] v.2.2) (fun v K hN hE hf => pX3_fill_l35b X hr  hd0 hrec0 (fun n3 n4 nh hz => hN (n3, n4, nh) hz) (fun z0 hz => hX0 z0 (hE _ hz)) (fun z0 z1 hz => hT z0 z1 (hE _ hz)) hf)
  exact fun n v3 v4 h hf => key n (v3, v4, h) hf
set_option maxRecDepth 4000 in
theorem pX3_fill_b0 (X : wCx p s m args meth c RX3 cX3_fill 8 D dA b0 ad) (hr : meth.sig.returnType = (some .boolean)) {h : wSt} {x0 : Int32} {rec0 : wSt → Int32 → Option (Bool × wSt)} {d : Nat} (hd0 : 1 ≤ d) (hrec0 : ∀ (h : wSt) (x0 : Int32) (res : Bool × wSt), rec0 h x0 = some res → wC l yX3_fill cX3_fill 8 (some .boolean) d S0 [.ref 130, .int x0] h (wFZ (fun a b => res.1 = a ∧ res.2 = b))) {K : Bool × wSt → Prop} (hT : ∀ (x : Bool) (h2 : wSt), K (x, h2) → F (some (.int (wb x))) h2) (hf : wok (fX3_fill_b0 rec0 h x0) K) : wM p l e (wR (d + 1)) s m args below meth c 0 0 (wE below args s D dA b0 ad S0 F) 8 D dA b0 ad S0 0 [some (.ref 130), some (.int x0), none, none, none, none, none, none] [] h := by
  unfold fX3_fill_b0 at hf
  refine w_iload_n X dX3_fill_0 rfl rfl rfl ?_
  refine w_aload_n X dX3_fill_1 rfl rfl rfl ?_
  refine w_getI X dX3_fill_2 rfl fl_X3_53 S0_130 rfl ?_
  refine w_icmp_ge X dX3_fill_5 rfl (t := 14) rfl (fun hc => ?_) (fun hc => ?_)
  · have hf := wok_t hf hc
    refine w_iconst X dX3_fill_14 rfl ci_1 ?_
    exact w_zret X dX3_fill_15 hr rfl (hT true _ (wok_s hf))
  · have hf := wok_f hf hc
    refine w_iload_n X dX3_fill_8 rfl rfl rfl ?_
    refine w_bipush X dX3_fill_9 rfl cb_6 ?_
    refine w_icmp_lt X dX3_fill_11 rfl (t := 16) rfl (fun hc => ?_) (fun hc => ?_)
    · have hf := wok_t hf hc
      refine w_aload_n X dX3_fill_16 rfl rfl rfl ?_
      refine w_getR X dX3_fill_17 rfl fl_X3_15 S0_130 rfl ?_
      refine w_aload_n X dX3_fill_20 rfl rfl rfl ?_
      refine w_getI X dX3_fill_21 rfl fl_X3_53 S0_130 rfl ?_
      refine w_iconst X dX3_fill_24 rfl ci_1 ?_
      refine w_isub X dX3_fill_25 rfl ?_
      refine w_iload_n X dX3_fill_26 rfl rfl rfl ?_
      refine w_isub X dX3_fill_27 rfl ?_
      obtain ⟨yhg21, hf⟩ := wok_g hf
      refine w_iald X dX3_fill_28 rfl (j := (((h.1 130 4) - 1) - x0).toNatClampNeg) rfl S0_132 yhg21 ?_
      refine w_topi (fun yx22 eyx22 => ?_)
      have hf := wok_l hf eyx22
      refine w_istore_n X dX3_fill_29 rfl rfl rfl (Nat.le_of_ble_eq_true rfl) (ls' := [some (.ref 130), some (.int x0), some (.int yx22), none, none, none, none, none]) rfl ?_
      refine w_iconst X dX3_fill_30 rfl ci_0 ?_
      refine w_istore_n X dX3_fill_31 rfl rfl rfl (Nat.le_of_ble_eq_true rfl) (ls' := [some (.ref 130), some (.int x0), some (.int yx22), some (.int 0), none, none, none, none]) rfl ?_
      refine w_iconst X dX3_fill_32 rfl ci_0 ?_
      refine w_istore X dX3_fill_33 rfl rfl (Nat.le_of_ble_eq_true rfl) (ls' := [some (.ref 130), some (.int x0), some (.int yx22), some (.int 0), some (.int 0), none, none, none]) rfl ?_
      obtain ⟨ye28, hye28, hf⟩ := wok_b hf
      refine pX3_fill_l35 X hr  hd0 hrec0 (KE := fun z => ye28 = z) ?_ ?_ 3000 _ _ _ ⟨ye28, hye28, rfl⟩
      · intro yz29 hz
        subst hz
        refine w_iconst X dX3_fill_129 rfl ci_0 ?_
        exact w_zret X dX3_fill_130 hr rfl (hT false _ (wok_s hf))
      · intro z zh hz
        subst hz
        exact hT _ _ (wok_s hf)
    · have hf := wok_f hf hc
      refine w_iconst X dX3_fill_14 rfl ci_1 ?_
      exact w_zret X dX3_fill_15 hr rfl (hT true _ (wok_s hf))
end WX
def fX3_fill : Nat → wSt → Int32 → Option (Bool × wSt)
  | 0, _, _ => none
  | n + 1, h, x0 => fX3_fill_b0 (fX3_fill n) h x0
theorem kX3_fill_n (l : Launch) : ∀ (n : Nat) {h : wSt} {x0 : Int32} {res : Bool × wSt}, fX3_fill n h x0 = some res → wC l yX3_fill cX3_fill 8 (some .boolean) (1 + n) S0 [.ref 130, .int x0] h (wFZ (fun a b => res.1 = a ∧ res.2 = b)) := by
  intro n
  induction n with
  | zero =>
    intro h x0  res hf
    have hf : none = some res := hf
    cases hf
  | succ n ih =>
    intro h x0  res hf
    refine w_meth2 6 (by decide) (Nat.le_of_ble_eq_true rfl) (ls := [some (.ref 130), some (.int x0), none, none, none, none, none, none]) rfl ?_
    intro p e s m args below meth c D dA b0 ad X hr
    exact pX3_fill_b0 X hr  (d := 1 + n) (by omega) (rec0 := fX3_fill n) (fun h x0  res hz => ih  hz) (K := fun z => res = z) (fun x h2 hz => ⟨x, rfl, by rw [hz], by rw [hz]⟩) ⟨res, hf, rfl⟩
theorem kX3_fill (l : Launch) {h : wSt} {x0 : Int32} {res : Bool × wSt} (hf : fX3_fill 64 h x0 = some res) : wC l yX3_fill cX3_fill 8 (some .boolean) 65 S0 [.ref 130, .int x0] h (wFZ (fun a b => res.1 = a ∧ res.2 = b)) := kX3_fill_n l 64  hf
def fX3_canLay (h : wSt) (x0 : Int32) (x1 : Int32) (x2 : Int32) : Option (Bool × wSt) :=
(fX3_gatherShortest h x0 x1).bind (fun yr21 =>
if x0 ≤ (yr21.1 130 4) then
(fX3_gatherStretches yr21 x2).bind (fun yr22 =>
(fX3_fill 64 yr22 (0 : Int32)).bind (fun yr23 =>
some (yr23.1, yr23.2)))
else
some (false, yr21))
def fX3_linesOf (h : wSt) (x0 : Int32) (x1 : Int32) : Option (Int32) :=
if wib x0 6 then
some (((1 <<< ((h.1 11 x0.toNatClampNeg) &&& 31)) - 1) <<< (x1 &&& 31))
else none
def fX3_firstPlaceLeaving_b80_3 (h : wSt) (v1 : Int32) (v2 : Int32) (v3 : Int32) (v4 : Int32) : Option ((Int32 × wSt) ⊕ ((wSt) ⊕ (Int32 × wSt))) :=
some (.inl ((v4 + 1), h))
def fX3_firstPlaceLeaving_b44_3 (h : wSt) (v1 : Int32) (v2 : Int32) (v3 : Int32) (v4 : Int32) (v5 : Int32) (w0 : Int32) : Option ((Int32 × wSt) ⊕ ((wSt) ⊕ (Int32 × wSt))) :=
if w0 = 0 then
fX3_firstPlaceLeaving_b80_3 h v1 v2 v3 v4
else
if (v5 &&& (v3 ^^^ (-1))) = 0 then
(fX3_canLay h v1 (v2 + 1) (v3 &&& (v5 ^^^ (-1)))).bind (fun yr23 =>
if yr23.1 = true then
some (.inr (.inr (v4, yr23.2)))
else
fX3_firstPlaceLeaving_b80_3 yr23.2 v1 v2 v3 v4)
else
fX3_firstPlaceLeaving_b80_3 h v1 v2 v3 v4
def fX3_firstPlaceLeaving_l3 (h : wSt) (v1 : Int32) (v2 : Int32) (v3 : Int32) (v4 : Int32) : Option ((Int32 × wSt) ⊕ ((wSt) ⊕ (Int32 × wSt))) :=
if 18 ≤ v4 then
some (.inr (.inl h))
else
(fX3_linesOf h v2 v4).bind (fun yr21 =>
if wib v2 6 then
if 6 < ((v4 - v4 / 6 * 6) + (h.1 11 v2.toNatClampNeg)) then
fX3_firstPlaceLeaving_b44_3 h v1 v2 v3 v4 yr21 (0 : Int32)
else
fX3_firstPlaceLeaving_b44_3 h v1 v2 v3 v4 yr21 (1 : Int32)
else none)
def fX3_firstPlaceLeaving (h : wSt) (x0 : Int32) (x1 : Int32) (x2 : Int32) : Option (Int32 × wSt) :=
(wit (fun v : (Int32 × wSt) => fX3_firstPlaceLeaving_l3 v.2 x0 x1 x2 v.1) 3000 ((0 : Int32), h)).bind (fun ye24 => match ye24 with
| .inl ye24v =>
some ((-1 : Int32), ye24v)
| .inr ye24r =>
some ye24r)
def fX3_find_l13 (h : wSt) (v2 : Int32) : Option ((wSt) ⊕ ((wSt))) :=
if (h.1 130 1) ≤ 0 then
some (.inr h)
else
(fX3_canLay h (h.1 130 1) (0 : Int32) v2).bind (fun yr22 =>
if yr22.1 = true then
some (.inr yr22.2)
else
wlet (wuI yr22.2 130 1 ((yr22.2.1 130 1) - 1)) (fun yh23 =>
some (.inl yh23)))
def fX3_find_b123_54 (h : wSt) (v2 : Int32) (v3 : Int32) (v4 : Int32) : Option ((Int32 × Int32 × Int32 × wSt) ⊕ ((wSt))) :=
some (.inl (v2, v3, (v4 + 1), h))
def fX3_find_b90_54 (h : wSt) (v2 : Int32) (v3 : Int32) (v4 : Int32) (w1 : Int32) (w2 : Int32) : Option ((Int32 × Int32 × Int32 × wSt) ⊕ ((wSt))) :=
if wib w1 6 then
wlet (wuI h 131 w1.toNatClampNeg w2) (fun yh27 =>
if wib v4 6 then
if (yh27.1 131 v4.toNatClampNeg) = (-1) then
fX3_find_b123_54 yh27 v2 v3 v4
else
(fX3_linesOf yh27 v4 (yh27.1 131 v4.toNatClampNeg)).bind (fun yr29 =>
fX3_find_b123_54 yh27 (v2 &&& (yr29 ^^^ (-1))) (v3 + (-1)) v4)
else none)
else none
def fX3_find_l54 (h : wSt) (v2 : Int32) (v3 : Int32) (v4 : Int32) : Option ((Int32 × Int32 × Int32 × wSt) ⊕ ((wSt))) :=
if (h.1 3 5) ≤ v4 then
some (.inr h)
else
if v3 ≤ 0 then
fX3_find_b90_54 h v2 v3 v4 v4 (-1 : Int32)
else
(fX3_firstPlaceLeaving h (v3 - 1) v4 v2).bind (fun yr30 =>
fX3_find_b90_54 yr30.2 v2 v3 v4 v4 yr30.1)
def fX3_find (h : wSt) (x0 : Int32) : Option (wSt) :=
wlet (wuI h 130 1 (h.1 3 5)) (fun yh21 =>
(wit (fun v : (wSt) => fX3_find_l13 v x0) 3000 yh21).bind (fun ye24 =>
(wit (fun v : (Int32 × Int32 × Int32 × wSt) => fX3_find_l54 v.2.2.2 v.1 v.2.1 v.2.2.1) 3000 (x0, (ye24.1 130 1), (0 : Int32), ye24)).bind (fun ye31 =>
some ye31)))
section WX
variable {p : Program} {l : Launch} {e : Env} {s : State} {m : MethodId} {args : Array Value} {below : List Frame} {meth : Method} {c : Code} {D : va_G} {dA : Nat → ClassId} {b0 : Nat} {ad : Nat → Nat} {F : Option Value → wSt → Prop}
set_option maxRecDepth 4000 in
theorem pX3_canLay_b0 (X : wCx p s m args meth c RX3 cX3_canLay 4 D dA b0 ad) (hr : meth.sig.returnType = (some .boolean)) {h : wSt} {x0 : Int32} {x1 : Int32} {x2 : Int32} {K : Bool × wSt → Prop} (hT : ∀ (x : Bool) (h2 : wSt), K (x, h2) → F (some (.int (wb x))) h2) (hf : wok (fX3_canLay h x0 x1 x2) K) : wM p l e (wR 66) s m args below meth c 0 0 (wE below args s D dA b0 ad S0 F) 4 D dA b0 ad S0 0 [some (.ref 130), some (.int x0), some (.int x1), some (.int x2)] [] h := by
  unfold fX3_canLay at hf
  refine w_aload_n X dX3_canLay_0 rfl rfl rfl ?_
  refine w_iload_n X dX3_canLay_1 rfl rfl rfl ?_
  refine w_iload_n X dX3_canLay_2 rfl rfl rfl ?_
  obtain ⟨yr21, eyr21, hf⟩ := wok_b hf
  refine w_callV X dX3_canLay_3 rfl vl_X3_49 (kX3_gatherShortest l  eyr21) S0_130 (As := [.int x0, .int x1]) (st := []) rfl rfl (Nat.le_of_ble_eq_true rfl) ⟨Nat.le_of_ble_eq_true rfl, Nat.le_of_ble_eq_true rfl⟩ ⟨Nat.zero_le _, Nat.zero_le _⟩ (fun r h2 hF => ?_)
  obtain ⟨rfl, rfl⟩ := hF
  show wM p l e (wR 66) s m args below meth c 0 0 (wE below args s D dA b0 ad S0 F) 4 D dA b0 ad S0 6 [some (.ref 130), some (.int x0), some (.int x1), some (.int x2)] [] yr21
  refine w_aload_n X dX3_canLay_6 rfl rfl rfl ?_
  refine w_getI X dX3_canLay_7 rfl fl_X3_53 S0_130 rfl ?_
  refine w_iload_n X dX3_canLay_10 rfl rfl rfl ?_
  refine w_icmp_ge X dX3_canLay_11 rfl (t := 16) rfl (fun hc => ?_) (fun hc => ?_)
  · have hf := wok_t hf hc
    refine w_aload_n X dX3_canLay_16 rfl rfl rfl ?_
    refine w_iload_n X dX3_canLay_17 rfl rfl rfl ?_
    obtain ⟨yr22, eyr22, hf⟩ := wok_b hf
    refine w_callV X dX3_canLay_18 rfl vl_X3_56 (kX3_gatherStretches l  eyr22) S0_130 (As := [.int x2]) (st := []) rfl rfl (Nat.le_of_ble_eq_true rfl) ⟨Nat.le_of_ble_eq_true rfl, Nat.le_of_ble_eq_true rfl⟩ ⟨Nat.zero_le _, Nat.zero_le _⟩ (fun r h2 hF => ?_)
    obtain ⟨rfl, rfl⟩ := hF
    show wM p l e (wR 66) s m args below meth c 0 0 (wE below args s D dA b0 ad S0 F) 4 D dA b0 ad S0 21 [some (.ref 130), some (.int x0), some (.int x1), some (.int x2)] [] yr22
    refine w_aload_n X dX3_canLay_21 rfl rfl rfl ?_
    refine w_iconst X dX3_canLay_22 rfl ci_0 ?_
    obtain ⟨yr23, eyr23, hf⟩ := wok_b hf
    refine w_callV X dX3_canLay_23 rfl vl_X3_60 (kX3_fill l  eyr23) S0_130 (As := [.int 0]) (st := []) rfl rfl (Nat.le_of_ble_eq_true rfl) ⟨Nat.le_of_ble_eq_true rfl, Nat.le_of_ble_eq_true rfl⟩ ⟨Nat.zero_le _, Nat.zero_le _⟩ (fun r h2 hF => ?_)
    obtain ⟨_, rfl, rfl, rfl⟩ := hF
    show wM p l e (wR 66) s m args below meth c 0 0 (wE below args s D dA b0 ad S0 F) 4 D dA b0 ad S0 26 [some (.ref 130), some (.int x0), some (.int x1), some (.int x2)] [.int (wb yr23.1)] yr23.2
    exact w_zret X dX3_canLay_26 hr (wb_n _) (hT _ _ (wok_s hf))
  · have hf := wok_f hf hc
    refine w_iconst X dX3_canLay_14 rfl ci_0 ?_
    exact w_zret X dX3_canLay_15 hr rfl (hT false _ (wok_s hf))
set_option maxRecDepth 4000 in
theorem kX3_canLay (l : Launch) {h : wSt} {x0 : Int32} {x1 : Int32} {x2 : Int32} {res : Bool × wSt} (hf : fX3_canLay h x0 x1 x2 = some res) : wC l yX3_canLay cX3_canLay 4 (some .boolean) 66 S0 [.ref 130, .int x0, .int x1, .int x2] h (wFZ (fun a b => res.1 = a ∧ res.2 = b)) := by
  refine w_meth2 0 (by decide) (Nat.le_of_ble_eq_true rfl) (ls := [some (.ref 130), some (.int x0), some (.int x1), some (.int x2)]) rfl ?_
  intro p e s m args below meth c D dA b0 ad X hr
  exact pX3_canLay_b0 X hr  (K := fun z => res = z) (fun x h2 hz => ⟨x, rfl, by rw [hz], by rw [hz]⟩) ⟨res, hf, rfl⟩
set_option maxRecDepth 4000 in
theorem pX3_linesOf_b0 (X : wCx p s m args meth c RX3 cX3_linesOf 3 D dA b0 ad) (hr : meth.sig.returnType = (some .int)) {h : wSt} {x0 : Int32} {x1 : Int32} {K : Int32 → Prop} (hT : ∀ (x : Int32), K x → F (some (.int x)) h) (hf : wok (fX3_linesOf h x0 x1) K) : wM p l e (wR 1) s m args below meth c 0 0 (wE below args s D dA b0 ad S0 F) 3 D dA b0 ad S0 0 [some (.ref 130), some (.int x0), some (.int x1)] [] h := by
  unfold fX3_linesOf at hf
  refine w_iconst X dX3_linesOf_0 rfl ci_1 ?_
  refine w_aload_n X dX3_linesOf_1 rfl rfl rfl ?_
  refine w_getR X dX3_linesOf_2 rfl fl_X3_21 S0_130 rfl ?_
  refine w_getR X dX3_linesOf_5 rfl fl_X3_46 S0_3 rfl ?_
  refine w_iload_n X dX3_linesOf_8 rfl rfl rfl ?_
  obtain ⟨yhg21, hf⟩ := wok_g hf
  refine w_iald X dX3_linesOf_9 rfl (j := x0.toNatClampNeg) rfl S0_11 yhg21 ?_
  refine w_ishl X dX3_linesOf_10 rfl ?_
  refine w_iconst X dX3_linesOf_11 rfl ci_1 ?_
  refine w_isub X dX3_linesOf_12 rfl ?_
  refine w_iload_n X dX3_linesOf_13 rfl rfl rfl ?_
  refine w_ishl X dX3_linesOf_14 rfl ?_
  exact w_iret X dX3_linesOf_15 hr (hT _ (wok_s hf))
set_option maxRecDepth 4000 in
theorem kX3_linesOf (l : Launch) {h : wSt} {x0 : Int32} {x1 : Int32} {res : Int32} (hf : fX3_linesOf h x0 x1 = some res) : wC l yX3_linesOf cX3_linesOf 3 (some .int) 1 S0 [.ref 130, .int x0, .int x1] h (wFI (fun a b => res = a ∧ h = b)) := by
  refine w_meth2 0 (by decide) (Nat.le_of_ble_eq_true rfl) (ls := [some (.ref 130), some (.int x0), some (.int x1)]) rfl ?_
  intro p e s m args below meth c D dA b0 ad X hr
  exact pX3_linesOf_b0 X hr  (K := fun z => res = z) (fun x hz => ⟨x, rfl, hz, rfl⟩) ⟨res, hf, rfl⟩
set_option maxRecDepth 4000 in
theorem pX3_firstPlaceLeaving_b80_3 (X : wCx p s m args meth c RX3 cX3_firstPlaceLeaving 7 D dA b0 ad) (hr : meth.sig.returnType = (some .int)) {h : wSt} {v1 : Int32} {v2 : Int32} {v3 : Int32} {v4 : Int32} {K : (Int32 × wSt) ⊕ ((wSt) ⊕ (Int32 × wSt)) → Prop} (hN : ∀ (n4 : Int32) (nh : wSt), K (.inl (n4, nh)) → wM p l e (wR 67) s m args below meth c 0 0 (wE below args s D dA b0 ad S0 F) 7 D dA b0 ad S0 3 [some (.ref 130), some (.int v1), some (.int v2), some (.int v3), some (.int n4), none, none] [] nh) (hX0 : ∀ (nh : wSt), K (.inr (.inl nh)) → wM p l e (wR 67) s m args below meth c 0 0 (wE below args s D dA b0 ad S0 F) 7 D dA b0 ad S0 86 [none, none, none, none, none, none, none] [] nh) (hT : ∀ (x : Int32) (h2 : wSt), K (.inr (.inr (x, h2))) → F (some (.int x)) h2) (hf : wok (fX3_firstPlaceLeaving_b80_3 h v1 v2 v3 v4) K) : wM p l e (wR 67) s m args below meth c 0 0 (wE below args s D dA b0 ad S0 F) 7 D dA b0 ad S0 80 [some (.ref 130), some (.int v1), some (.int v2), some (.int v3), some (.int v4), none, none] [] h := by
  unfold fX3_firstPlaceLeaving_b80_3 at hf
  refine w_iinc X dX3_firstPlaceLeaving_80 rfl (v := (v4 + 1)) rfl rfl (Nat.le_of_ble_eq_true rfl) (cinc_1 _) (ls' := [some (.ref 130), some (.int v1), some (.int v2), some (.int v3), some (.int (v4 + 1)), none, none]) rfl ?_
  refine w_goto X dX3_firstPlaceLeaving_83 (t := 3) rfl ?_
  exact hN _ _ (wok_s hf)
set_option maxRecDepth 4000 in
theorem pX3_firstPlaceLeaving_b44_3 (X : wCx p s m args meth c RX3 cX3_firstPlaceLeaving 7 D dA b0 ad) (hr : meth.sig.returnType = (some .int)) {h : wSt} {v1 : Int32} {v2 : Int32} {v3 : Int32} {v4 : Int32} {v5 : Int32} {w0 : Int32} {K : (Int32 × wSt) ⊕ ((wSt) ⊕ (Int32 × wSt)) → Prop} (hN : ∀ (n4 : Int32) (nh : wSt), K (.inl (n4, nh)) → wM p l e (wR 67) s m args below meth c 0 0 (wE below args s D dA b0 ad S0 F) 7 D dA b0 ad S0 3 [some (.ref 130), some (.int v1), some (.int v2), some (.int v3), some (.int n4), none, none] [] nh) (hX0 : ∀ (nh : wSt), K (.inr (.inl nh)) → wM p l e (wR 67) s m args below meth c 0 0 (wE below args s D dA b0 ad S0 F) 7 D dA b0 ad S0 86 [none, none, none, none, none, none, none] [] nh) (hT : ∀ (x : Int32) (h2 : wSt), K (.inr (.inr (x, h2))) → F (some (.int x)) h2) (hf : wok (fX3_firstPlaceLeaving_b44_3 h v1 v2 v3 v4 v5 w0) K) : wM p l e (wR 67) s m args below meth c 0 0 (wE below args s D dA b0 ad S0 F) 7 D dA b0 ad S0 44 [some (.ref 130), some (.int v1), some (.int v2), some (.int v3), some (.int v4), some (.int v5), none] [.int w0] h := by
  unfold fX3_firstPlaceLeaving_b44_3 at hf
  refine w_istore X dX3_firstPlaceLeaving_44 rfl rfl (Nat.le_of_ble_eq_true rfl) (ls' := [some (.ref 130), some (.int v1), some (.int v2), some (.int v3), some (.int v4), some (.int v5), some (.int w0)]) rfl ?_
  refine w_iload X dX3_firstPlaceLeaving_46 rfl rfl ?_
  refine w_if_eq X dX3_firstPlaceLeaving_48 rfl (t := 80) rfl (fun hc => ?_) (fun hc => ?_)
  · have hf := wok_t hf hc
    refine w_fg (ls2 := [some (.ref 130), some (.int v1), some (.int v2), some (.int v3), some (.int v4), none, none]) ⟨rfl, rfl, rfl, rfl, rfl, trivial⟩ ?_
    exact pX3_firstPlaceLeaving_b80_3 X hr  hN hX0 hT hf
  · have hf := wok_f hf hc
    refine w_iload X dX3_firstPlaceLeaving_51 rfl rfl ?_
    refine w_iload_n X dX3_firstPlaceLeaving_53 rfl rfl rfl ?_
    refine w_iconst X dX3_firstPlaceLeaving_54 rfl ci_m1 ?_
    refine w_ixor X dX3_firstPlaceLeaving_55 rfl ?_
    refine w_iand X dX3_firstPlaceLeaving_56 rfl ?_
    refine w_if_ne X dX3_firstPlaceLeaving_57 rfl (t := 80) rfl (fun hc => ?_) (fun hc => ?_)
    · have hf := wok_f hf hc
      refine w_fg (ls2 := [some (.ref 130), some (.int v1), some (.int v2), some (.int v3), some (.int v4), none, none]) ⟨rfl, rfl, rfl, rfl, rfl, trivial⟩ ?_
      exact pX3_firstPlaceLeaving_b80_3 X hr  hN hX0 hT hf
    · have hf := wok_t hf hc
      refine w_aload_n X dX3_firstPlaceLeaving_60 rfl rfl rfl ?_
      refine w_iload_n X dX3_firstPlaceLeaving_61 rfl rfl rfl ?_
      refine w_iload_n X dX3_firstPlaceLeaving_62 rfl rfl rfl ?_
      refine w_iconst X dX3_firstPlaceLeaving_63 rfl ci_1 ?_
      refine w_iadd X dX3_firstPlaceLeaving_64 rfl ?_
      refine w_iload_n X dX3_firstPlaceLeaving_65 rfl rfl rfl ?_
      refine w_iload X dX3_firstPlaceLeaving_66 rfl rfl ?_
      refine w_iconst X dX3_firstPlaceLeaving_68 rfl ci_m1 ?_
      refine w_ixor X dX3_firstPlaceLeaving_69 rfl ?_
      refine w_iand X dX3_firstPlaceLeaving_70 rfl ?_
      obtain ⟨yr23, eyr23, hf⟩ := wok_b hf
      refine w_callV X dX3_firstPlaceLeaving_71 rfl vl_X3_34 (kX3_canLay l  eyr23) S0_130 (As := [.int v1, .int (v2 + 1), .int (v3 &&& (v5 ^^^ (-1)))]) (st := []) rfl rfl (Nat.le_of_ble_eq_true rfl) ⟨Nat.le_of_ble_eq_true rfl, Nat.le_of_ble_eq_true rfl⟩ ⟨Nat.zero_le _, Nat.zero_le _⟩ (fun r h2 hF => ?_)
      obtain ⟨_, rfl, rfl, rfl⟩ := hF
      show wM p l e (wR 67) s m args below meth c 0 0 (wE below args s D dA b0 ad S0 F) 7 D dA b0 ad S0 74 [some (.ref 130), some (.int v1), some (.int v2), some (.int v3), some (.int v4), some (.int v5), some (.int w0)] [.int (wb yr23.1)] yr23.2
      refine w_if_eq X dX3_firstPlaceLeaving_74 rfl (t := 80) rfl (fun hc => ?_) (fun hc => ?_)
      · have hf := wok_f hf (wb_0 hc)
        refine w_fg (ls2 := [some (.ref 130), some (.int v1), some (.int v2), some (.int v3), some (.int v4), none, none]) ⟨rfl, rfl, rfl, rfl, rfl, trivial⟩ ?_
        exact pX3_firstPlaceLeaving_b80_3 X hr  hN hX0 hT hf
      · have hf := wok_t hf (wb_n0 hc)
        refine w_iload X dX3_firstPlaceLeaving_77 rfl rfl ?_
        exact w_iret X dX3_firstPlaceLeaving_79 hr (hT _ _ (wok_s hf))
set_option maxRecDepth 4000 in
theorem pX3_firstPlaceLeaving_l3b (X : wCx p s m args meth c RX3 cX3_firstPlaceLeaving 7 D dA b0 ad) (hr : meth.sig.returnType = (some .int)) {h : wSt} {v1 : Int32} {v2 : Int32} {v3 : Int32} {v4 : Int32} {K : (Int32 × wSt) ⊕ ((wSt) ⊕ (Int32 × wSt)) → Prop} (hN : ∀ (n4 : Int32) (nh : wSt), K (.inl (n4, nh)) → wM p l e (wR 67) s m args below meth c 0 0 (wE below args s D dA b0 ad S0 F) 7 D dA b0 ad S0 3 [some (.ref 130), some (.int v1), some (.int v2), some (.int v3), some (.int n4), none, none] [] nh) (hX0 : ∀ (nh : wSt), K (.inr (.inl nh)) → wM p l e (wR 67) s m args below meth c 0 0 (wE below args s D dA b0 ad S0 F) 7 D dA b0 ad S0 86 [none, none, none, none, none, none, none] [] nh) (hT : ∀ (x : Int32) (h2 : wSt), K (.inr (.inr (x, h2))) → F (some (.int x)) h2) (hf : wok (fX3_firstPlaceLeaving_l3 h v1 v2 v3 v4) K) : wM p l e (wR 67) s m args below meth c 0 0 (wE below args s D dA b0 ad S0 F) 7 D dA b0 ad S0 3 [some (.ref 130), some (.int v1), some (.int v2), some (.int v3), some (.int v4), none, none] [] h := by
  unfold fX3_firstPlaceLeaving_l3 at hf
  refine w_iload X dX3_firstPlaceLeaving_3 rfl rfl ?_
  refine w_bipush X dX3_firstPlaceLeaving_5 rfl cb_18 ?_
  refine w_icmp_ge X dX3_firstPlaceLeaving_7 rfl (t := 86) rfl (fun hc => ?_) (fun hc => ?_)
  · have hf := wok_t hf hc
    refine w_fg (ls2 := [none, none, none, none, none, none, none]) trivial ?_
    exact hX0 _ (wok_s hf)
  · have hf := wok_f hf hc
    refine w_aload_n X dX3_firstPlaceLeaving_10 rfl rfl rfl ?_
    refine w_iload_n X dX3_firstPlaceLeaving_11 rfl rfl rfl ?_
    refine w_iload X dX3_firstPlaceLeaving_12 rfl rfl ?_
    obtain ⟨yr21, eyr21, hf⟩ := wok_b hf
    refine w_callV X dX3_firstPlaceLeaving_14 rfl vl_X3_42 (kX3_linesOf l  eyr21) S0_130 (As := [.int v2, .int v4]) (st := []) rfl rfl (Nat.le_of_ble_eq_true rfl) ⟨Nat.le_of_ble_eq_true rfl, Nat.le_of_ble_eq_true rfl⟩ ⟨Nat.zero_le _, Nat.zero_le _⟩ (fun r h2 hF => ?_)
    obtain ⟨_, rfl, rfl, rfl⟩ := hF
    show wM p l e (wR 67) s m args below meth c 0 0 (wE below args s D dA b0 ad S0 F) 7 D dA b0 ad S0 17 [some (.ref 130), some (.int v1), some (.int v2), some (.int v3), some (.int v4), none, none] [.int yr21] h
    refine w_istore X dX3_firstPlaceLeaving_17 rfl rfl (Nat.le_of_ble_eq_true rfl) (ls' := [some (.ref 130), some (.int v1), some (.int v2), some (.int v3), some (.int v4), some (.int yr21), none]) rfl ?_
    refine w_iload X dX3_firstPlaceLeaving_19 rfl rfl ?_
    refine w_bipush X dX3_firstPlaceLeaving_21 rfl cb_6 ?_
    refine w_irem X dX3_firstPlaceLeaving_23 rfl (by decide) ?_
    refine w_aload_n X dX3_firstPlaceLeaving_24 rfl rfl rfl ?_
    refine w_getR X dX3_firstPlaceLeaving_25 rfl fl_X3_21 S0_130 rfl ?_
    refine w_getR X dX3_firstPlaceLeaving_28 rfl fl_X3_46 S0_3 rfl ?_
    refine w_iload_n X dX3_firstPlaceLeaving_31 rfl rfl rfl ?_
    obtain ⟨yhg22, hf⟩ := wok_g hf
    refine w_iald X dX3_firstPlaceLeaving_32 rfl (j := v2.toNatClampNeg) rfl S0_11 yhg22 ?_
    refine w_iadd X dX3_firstPlaceLeaving_33 rfl ?_
    refine w_bipush X dX3_firstPlaceLeaving_34 rfl cb_6 ?_
    refine w_icmp_gt X dX3_firstPlaceLeaving_36 rfl (t := 43) rfl (fun hc => ?_) (fun hc => ?_)
    · have hf := wok_t hf hc
      refine w_iconst X dX3_firstPlaceLeaving_43 rfl ci_0 ?_
      exact pX3_firstPlaceLeaving_b44_3 X hr  hN hX0 hT hf
    · have hf := wok_f hf hc
      refine w_iconst X dX3_firstPlaceLeaving_39 rfl ci_1 ?_
      refine w_goto X dX3_firstPlaceLeaving_40 (t := 44) rfl ?_
      exact pX3_firstPlaceLeaving_b44_3 X hr  hN hX0 hT hf
set_option maxRecDepth 4000 in
theorem pX3_firstPlaceLeaving_l3 (X : wCx p s m args meth c RX3 cX3_firstPlaceLeaving 7 D dA b0 ad) (hr : meth.sig.returnType = (some .int))  {v1 : Int32} {v2 : Int32} {v3 : Int32} {KE : (wSt) ⊕ (Int32 × wSt) → Prop} (hX0 : ∀ (nh : wSt), KE ((.inl nh)) → wM p l e (wR 67) s m args below meth c 0 0 (wE below args s D dA b0 ad S0 F) 7 D dA b0 ad S0 86 [none, none, none, none, none, none, none] [] nh) (hT : ∀ (x : Int32) (h2 : wSt), KE ((.inr (x, h2))) → F (some (.int x)) h2) : ∀ (n : Nat) (v4 : Int32) (h : wSt), wok (wit (fun v : (Int32 × wSt) => fX3_firstPlaceLeaving_l3 v.2 v1 v2 v3 v.1) n (v4, h)) KE → wM p l e (wR 67) s m args below meth c 0 0 (wE below args s D dA b0 ad S0 F) 7 D dA b0 ad S0 3 [some (.ref 130), some (.int v1), some (.int v2), some (.int v3), some (.int v4), none, none] [] h := by
  have key := wit_M (b := (fun v : (Int32 × wSt) => fX3_firstPlaceLeaving_l3 v.2 v1 v2 v3 v.1)) (KE := KE) (G := fun v => wM p l e (wR 67) s m args below meth c 0 0 (wE below args s D dA b0 ad S0 F) 7 D dA b0 ad S0 3 [some (.ref 130), some (.int v1), some (.int v2), some (.int v3), some (.int v.1), none, none] [] v.2) (fun v K hN hE hf => pX3_firstPlaceLeaving_l3b X hr  (fun n4 nh hz => hN (n4, nh) hz) (fun z0 hz => hX0 z0 (hE _ hz)) (fun z0 z1 hz => hT z0 z1 (hE _ hz)) hf)
  exact fun n v4 h hf => key n (v4, h) hf
set_option maxRecDepth 4000 in
theorem pX3_firstPlaceLeaving_b0 (X : wCx p s m args meth c RX3 cX3_firstPlaceLeaving 7 D dA b0 ad) (hr : meth.sig.returnType = (some .int)) {h : wSt} {x0 : Int32} {x1 : Int32} {x2 : Int32} {K : Int32 × wSt → Prop} (hT : ∀ (x : Int32) (h2 : wSt), K (x, h2) → F (some (.int x)) h2) (hf : wok (fX3_firstPlaceLeaving h x0 x1 x2) K) : wM p l e (wR 67) s m args below meth c 0 0 (wE below args s D dA b0 ad S0 F) 7 D dA b0 ad S0 0 [some (.ref 130), some (.int x0), some (.int x1), some (.int x2), none, none, none] [] h := by
  unfold fX3_firstPlaceLeaving at hf
  refine w_iconst X dX3_firstPlaceLeaving_0 rfl ci_0 ?_
  refine w_istore X dX3_firstPlaceLeaving_1 rfl rfl (Nat.le_of_ble_eq_true rfl) (ls' := [some (.ref 130), some (.int x0), some (.int x1), some (.int x2), some (.int 0), none, none]) rfl ?_
  obtain ⟨ye24, hye24, hf⟩ := wok_b hf
  refine pX3_firstPlaceLeaving_l3 X hr  (KE := fun z => ye24 = z) ?_ ?_ 3000 _ _ ⟨ye24, hye24, rfl⟩
  · intro yz25 hz
    subst hz
    refine w_iconst X dX3_firstPlaceLeaving_86 rfl ci_m1 ?_
    exact w_iret X dX3_firstPlaceLeaving_87 hr (hT _ _ (wok_s hf))
  · intro z zh hz
    subst hz
    exact hT _ _ (wok_s hf)
set_option maxRecDepth 4000 in
theorem kX3_firstPlaceLeaving (l : Launch) {h : wSt} {x0 : Int32} {x1 : Int32} {x2 : Int32} {res : Int32 × wSt} (hf : fX3_firstPlaceLeaving h x0 x1 x2 = some res) : wC l yX3_firstPlaceLeaving cX3_firstPlaceLeaving 7 (some .int) 67 S0 [.ref 130, .int x0, .int x1, .int x2] h (wFI (fun a b => res.1 = a ∧ res.2 = b)) := by
  refine w_meth2 3 (by decide) (Nat.le_of_ble_eq_true rfl) (ls := [some (.ref 130), some (.int x0), some (.int x1), some (.int x2), none, none, none]) rfl ?_
  intro p e s m args below meth c D dA b0 ad X hr
  exact pX3_firstPlaceLeaving_b0 X hr  (K := fun z => res = z) (fun x h2 hz => ⟨x, rfl, by rw [hz], by rw [hz]⟩) ⟨res, hf, rfl⟩
set_option maxRecDepth 4000 in
theorem pX3_find_l13b (X : wCx p s m args meth c RX3 cX3_find 5 D dA b0 ad) (hr : meth.sig.returnType = none) {h : wSt} {v2 : Int32} {K : (wSt) ⊕ ((wSt)) → Prop} (hN : ∀ (nh : wSt), K (.inl nh) → wM p l e (wR 68) s m args below meth c 0 0 (wE below args s D dA b0 ad S0 F) 5 D dA b0 ad S0 13 [some (.ref 130), none, some (.int v2), none, none] [] nh) (hX0 : ∀ (nh : wSt), K (.inr nh) → wM p l e (wR 68) s m args below meth c 0 0 (wE below args s D dA b0 ad S0 F) 5 D dA b0 ad S0 46 [some (.ref 130), none, some (.int v2), none, none] [] nh) (hf : wok (fX3_find_l13 h v2) K) : wM p l e (wR 68) s m args below meth c 0 0 (wE below args s D dA b0 ad S0 F) 5 D dA b0 ad S0 13 [some (.ref 130), none, some (.int v2), none, none] [] h := by
  unfold fX3_find_l13 at hf
  refine w_aload_n X dX3_find_13 rfl rfl rfl ?_
  refine w_getI X dX3_find_14 rfl fl_X3_31 S0_130 rfl ?_
  refine w_if_le X dX3_find_17 rfl (t := 46) rfl (fun hc => ?_) (fun hc => ?_)
  · have hf := wok_t hf hc
    exact hX0 _ (wok_s hf)
  · have hf := wok_f hf hc
    refine w_aload_n X dX3_find_20 rfl rfl rfl ?_
    refine w_aload_n X dX3_find_21 rfl rfl rfl ?_
    refine w_getI X dX3_find_22 rfl fl_X3_31 S0_130 rfl ?_
    refine w_iconst X dX3_find_25 rfl ci_0 ?_
    refine w_iload_n X dX3_find_26 rfl rfl rfl ?_
    obtain ⟨yr22, eyr22, hf⟩ := wok_b hf
    refine w_callV X dX3_find_27 rfl vl_X3_34 (kX3_canLay l  eyr22) S0_130 (As := [.int (h.1 130 1), .int 0, .int v2]) (st := []) rfl rfl (Nat.le_of_ble_eq_true rfl) ⟨Nat.le_of_ble_eq_true rfl, Nat.le_of_ble_eq_true rfl⟩ ⟨Nat.zero_le _, Nat.zero_le _⟩ (fun r h2 hF => ?_)
    obtain ⟨_, rfl, rfl, rfl⟩ := hF
    show wM p l e (wR 68) s m args below meth c 0 0 (wE below args s D dA b0 ad S0 F) 5 D dA b0 ad S0 30 [some (.ref 130), none, some (.int v2), none, none] [.int (wb yr22.1)] yr22.2
    refine w_if_ne X dX3_find_30 rfl (t := 46) rfl (fun hc => ?_) (fun hc => ?_)
    · have hf := wok_t hf (wb_n0 hc)
      exact hX0 _ (wok_s hf)
    · have hf := wok_f hf (wb_0 hc)
      refine w_aload_n X dX3_find_33 rfl rfl rfl ?_
      refine w_dup X dX3_find_34 rfl rfl ?_
      refine w_getI X dX3_find_35 rfl fl_X3_31 S0_130 rfl ?_
      refine w_iconst X dX3_find_38 rfl ci_1 ?_
      refine w_isub X dX3_find_39 rfl ?_
      refine w_putI X dX3_find_40 rfl fp_X3_31 S0_130 rfl ?_
      refine w_nmh (fun yh23 eyh23 => ?_)
      have hf := wok_l hf eyh23
      refine w_goto X dX3_find_43 (t := 13) rfl ?_
      exact hN _ (wok_s hf)
set_option maxRecDepth 4000 in
theorem pX3_find_l13 (X : wCx p s m args meth c RX3 cX3_find 5 D dA b0 ad) (hr : meth.sig.returnType = none)  {v2 : Int32} {KE : (wSt) → Prop} (hX0 : ∀ (nh : wSt), KE (nh) → wM p l e (wR 68) s m args below meth c 0 0 (wE below args s D dA b0 ad S0 F) 5 D dA b0 ad S0 46 [some (.ref 130), none, some (.int v2), none, none] [] nh) : ∀ (n : Nat) (h : wSt), wok (wit (fun v : (wSt) => fX3_find_l13 v v2) n h) KE → wM p l e (wR 68) s m args below meth c 0 0 (wE below args s D dA b0 ad S0 F) 5 D dA b0 ad S0 13 [some (.ref 130), none, some (.int v2), none, none] [] h := by
  have key := wit_M (b := (fun v : (wSt) => fX3_find_l13 v v2)) (KE := KE) (G := fun v => wM p l e (wR 68) s m args below meth c 0 0 (wE below args s D dA b0 ad S0 F) 5 D dA b0 ad S0 13 [some (.ref 130), none, some (.int v2), none, none] [] v) (fun v K hN hE hf => pX3_find_l13b X hr  (fun  nh hz => hN nh hz) (fun z0 hz => hX0 z0 (hE _ hz)) hf)
  exact fun n h hf => key n h hf
set_option maxRecDepth 4000 in
theorem pX3_find_b123_54 (X : wCx p s m args meth c RX3 cX3_find 5 D dA b0 ad) (hr : meth.sig.returnType = none) {h : wSt} {v2 : Int32} {v3 : Int32} {v4 : Int32} {K : (Int32 × Int32 × Int32 × wSt) ⊕ ((wSt)) → Prop} (hN : ∀ (n2 : Int32) (n3 : Int32) (n4 : Int32) (nh : wSt), K (.inl (n2, n3, n4, nh)) → wM p l e (wR 68) s m args below meth c 0 0 (wE below args s D dA b0 ad S0 F) 5 D dA b0 ad S0 54 [some (.ref 130), none, some (.int n2), some (.int n3), some (.int n4)] [] nh) (hX0 : ∀ (nh : wSt), K (.inr nh) → wM p l e (wR 68) s m args below meth c 0 0 (wE below args s D dA b0 ad S0 F) 5 D dA b0 ad S0 129 [none, none, none, none, none] [] nh) (hf : wok (fX3_find_b123_54 h v2 v3 v4) K) : wM p l e (wR 68) s m args below meth c 0 0 (wE below args s D dA b0 ad S0 F) 5 D dA b0 ad S0 123 [some (.ref 130), none, some (.int v2), some (.int v3), some (.int v4)] [] h := by
  unfold fX3_find_b123_54 at hf
  refine w_iinc X dX3_find_123 rfl (v := (v4 + 1)) rfl rfl (Nat.le_of_ble_eq_true rfl) (cinc_1 _) (ls' := [some (.ref 130), none, some (.int v2), some (.int v3), some (.int (v4 + 1))]) rfl ?_
  refine w_goto X dX3_find_126 (t := 54) rfl ?_
  exact hN _ _ _ _ (wok_s hf)
set_option maxRecDepth 4000 in
theorem pX3_find_b90_54 (X : wCx p s m args meth c RX3 cX3_find 5 D dA b0 ad) (hr : meth.sig.returnType = none) {h : wSt} {v2 : Int32} {v3 : Int32} {v4 : Int32} {w1 : Int32} {w2 : Int32} {K : (Int32 × Int32 × Int32 × wSt) ⊕ ((wSt)) → Prop} (hN : ∀ (n2 : Int32) (n3 : Int32) (n4 : Int32) (nh : wSt), K (.inl (n2, n3, n4, nh)) → wM p l e (wR 68) s m args below meth c 0 0 (wE below args s D dA b0 ad S0 F) 5 D dA b0 ad S0 54 [some (.ref 130), none, some (.int n2), some (.int n3), some (.int n4)] [] nh) (hX0 : ∀ (nh : wSt), K (.inr nh) → wM p l e (wR 68) s m args below meth c 0 0 (wE below args s D dA b0 ad S0 F) 5 D dA b0 ad S0 129 [none, none, none, none, none] [] nh) (hf : wok (fX3_find_b90_54 h v2 v3 v4 w1 w2) K) : wM p l e (wR 68) s m args below meth c 0 0 (wE below args s D dA b0 ad S0 F) 5 D dA b0 ad S0 90 [some (.ref 130), none, some (.int v2), some (.int v3), some (.int v4)] [.int w2, .int w1, .ref 131] h := by
  unfold fX3_find_b90_54 at hf
  obtain ⟨yhg26, hf⟩ := wok_g hf
  refine w_iast X dX3_find_90 rfl (j := w1.toNatClampNeg) rfl S0_131 yhg26 ?_
  refine w_nmh (fun yh27 eyh27 => ?_)
  have hf := wok_l hf eyh27
  refine w_aload_n X dX3_find_91 rfl rfl rfl ?_
  refine w_getR X dX3_find_92 rfl fl_X3_9 S0_130 rfl ?_
  refine w_iload X dX3_find_95 rfl rfl ?_
  obtain ⟨yhg28, hf⟩ := wok_g hf
  refine w_iald X dX3_find_97 rfl (j := v4.toNatClampNeg) rfl S0_131 yhg28 ?_
  refine w_iconst X dX3_find_98 rfl ci_m1 ?_
  refine w_icmp_eq X dX3_find_99 rfl (t := 123) rfl (fun hc => ?_) (fun hc => ?_)
  · have hf := wok_t hf hc
    exact pX3_find_b123_54 X hr  hN hX0 hf
  · have hf := wok_f hf hc
    refine w_iload_n X dX3_find_102 rfl rfl rfl ?_
    refine w_aload_n X dX3_find_103 rfl rfl rfl ?_
    refine w_iload X dX3_find_104 rfl rfl ?_
    refine w_aload_n X dX3_find_106 rfl rfl rfl ?_
    refine w_getR X dX3_find_107 rfl fl_X3_9 S0_130 rfl ?_
    refine w_iload X dX3_find_110 rfl rfl ?_
    refine w_iald X dX3_find_112 rfl (j := v4.toNatClampNeg) rfl S0_131 yhg28 ?_
    obtain ⟨yr29, eyr29, hf⟩ := wok_b hf
    refine w_callV X dX3_find_113 rfl vl_X3_42 (kX3_linesOf l  eyr29) S0_130 (As := [.int v4, .int (yh27.1 131 v4.toNatClampNeg)]) (st := [.int v2]) rfl rfl (Nat.le_of_ble_eq_true rfl) ⟨Nat.le_of_ble_eq_true rfl, Nat.le_of_ble_eq_true rfl⟩ ⟨Nat.zero_le _, Nat.zero_le _⟩ (fun r h2 hF => ?_)
    obtain ⟨_, rfl, rfl, rfl⟩ := hF
    show wM p l e (wR 68) s m args below meth c 0 0 (wE below args s D dA b0 ad S0 F) 5 D dA b0 ad S0 116 [some (.ref 130), none, some (.int v2), some (.int v3), some (.int v4)] [.int yr29, .int v2] yh27
    refine w_iconst X dX3_find_116 rfl ci_m1 ?_
    refine w_ixor X dX3_find_117 rfl ?_
    refine w_iand X dX3_find_118 rfl ?_
    refine w_istore_n X dX3_find_119 rfl rfl rfl (Nat.le_of_ble_eq_true rfl) (ls' := [some (.ref 130), none, some (.int (v2 &&& (yr29 ^^^ (-1)))), some (.int v3), some (.int v4)]) rfl ?_
    refine w_iinc X dX3_find_120 rfl (v := (v3 + (-1))) rfl rfl (Nat.le_of_ble_eq_true rfl) (cinc_m1 _) (ls' := [some (.ref 130), none, some (.int (v2 &&& (yr29 ^^^ (-1)))), some (.int (v3 + (-1))), some (.int v4)]) rfl ?_
    exact pX3_find_b123_54 X hr  hN hX0 hf
set_option maxRecDepth 4000 in
theorem pX3_find_l54b (X : wCx p s m args meth c RX3 cX3_find 5 D dA b0 ad) (hr : meth.sig.returnType = none) {h : wSt} {v2 : Int32} {v3 : Int32} {v4 : Int32} {K : (Int32 × Int32 × Int32 × wSt) ⊕ ((wSt)) → Prop} (hN : ∀ (n2 : Int32) (n3 : Int32) (n4 : Int32) (nh : wSt), K (.inl (n2, n3, n4, nh)) → wM p l e (wR 68) s m args below meth c 0 0 (wE below args s D dA b0 ad S0 F) 5 D dA b0 ad S0 54 [some (.ref 130), none, some (.int n2), some (.int n3), some (.int n4)] [] nh) (hX0 : ∀ (nh : wSt), K (.inr nh) → wM p l e (wR 68) s m args below meth c 0 0 (wE below args s D dA b0 ad S0 F) 5 D dA b0 ad S0 129 [none, none, none, none, none] [] nh) (hf : wok (fX3_find_l54 h v2 v3 v4) K) : wM p l e (wR 68) s m args below meth c 0 0 (wE below args s D dA b0 ad S0 F) 5 D dA b0 ad S0 54 [some (.ref 130), none, some (.int v2), some (.int v3), some (.int v4)] [] h := by
  unfold fX3_find_l54 at hf
  refine w_iload X dX3_find_54 rfl rfl ?_
  refine w_aload_n X dX3_find_56 rfl rfl rfl ?_
  refine w_getR X dX3_find_57 rfl fl_X3_21 S0_130 rfl ?_
  refine w_getI X dX3_find_60 rfl fl_X3_25 S0_3 rfl ?_
  refine w_icmp_ge X dX3_find_63 rfl (t := 129) rfl (fun hc => ?_) (fun hc => ?_)
  · have hf := wok_t hf hc
    refine w_fg (ls2 := [none, none, none, none, none]) trivial ?_
    exact hX0 _ (wok_s hf)
  · have hf := wok_f hf hc
    refine w_aload_n X dX3_find_66 rfl rfl rfl ?_
    refine w_getR X dX3_find_67 rfl fl_X3_9 S0_130 rfl ?_
    refine w_iload X dX3_find_70 rfl rfl ?_
    refine w_iload_n X dX3_find_72 rfl rfl rfl ?_
    refine w_if_le X dX3_find_73 rfl (t := 89) rfl (fun hc => ?_) (fun hc => ?_)
    · have hf := wok_t hf hc
      refine w_iconst X dX3_find_89 rfl ci_m1 ?_
      exact pX3_find_b90_54 X hr  hN hX0 hf
    · have hf := wok_f hf hc
      refine w_aload_n X dX3_find_76 rfl rfl rfl ?_
      refine w_iload_n X dX3_find_77 rfl rfl rfl ?_
      refine w_iconst X dX3_find_78 rfl ci_1 ?_
      refine w_isub X dX3_find_79 rfl ?_
      refine w_iload X dX3_find_80 rfl rfl ?_
      refine w_iload_n X dX3_find_82 rfl rfl rfl ?_
      obtain ⟨yr30, eyr30, hf⟩ := wok_b hf
      refine w_callV X dX3_find_83 rfl vl_X3_38 (kX3_firstPlaceLeaving l  eyr30) S0_130 (As := [.int (v3 - 1), .int v4, .int v2]) (st := [.int v4, .ref 131]) rfl rfl (Nat.le_of_ble_eq_true rfl) ⟨Nat.le_of_ble_eq_true rfl, Nat.le_of_ble_eq_true rfl⟩ ⟨Nat.zero_le _, Nat.zero_le _⟩ (fun r h2 hF => ?_)
      obtain ⟨_, rfl, rfl, rfl⟩ := hF
      show wM p l e (wR 68) s m args below meth c 0 0 (wE below args s D dA b0 ad S0 F) 5 D dA b0 ad S0 86 [some (.ref 130), none, some (.int v2), some (.int v3), some (.int v4)] [.int yr30.1, .int v4, .ref 131] yr30.2
      refine w_goto X dX3_find_86 (t := 90) rfl ?_
      exact pX3_find_b90_54 X hr  hN hX0 hf
set_option maxRecDepth 4000 in
theorem pX3_find_l54 (X : wCx p s m args meth c RX3 cX3_find 5 D dA b0 ad) (hr : meth.sig.returnType = none)  {KE : (wSt) → Prop} (hX0 : ∀ (nh : wSt), KE (nh) → wM p l e (wR 68) s m args below meth c 0 0 (wE below args s D dA b0 ad S0 F) 5 D dA b0 ad S0 129 [none, none, none, none, none] [] nh) : ∀ (n : Nat) (v2 : Int32) (v3 : Int32) (v4 : Int32) (h : wSt), wok (wit (fun v : (Int32 × Int32 × Int32 × wSt) => fX3_find_l54 v.2.2.2 v.1 v.2.1 v.2.2.1) n (v2, v3, v4, h)) KE → wM p l e (wR 68) s m args below meth c 0 0 (wE below args s D dA b0 ad S0 F) 5 D dA b0 ad S0 54 [some (.ref 130), none, some (.int v2), some (.int v3), some (.int v4)] [] h := by
  have key := wit_M (b := (fun v : (Int32 × Int32 × Int32 × wSt) => fX3_find_l54 v.2.2.2 v.1 v.2.1 v.2.2.1)) (KE := KE) (G := fun v => wM p l e (wR 68) s m args below meth c 0 0 (wE below args s D dA b0 ad S0 F) 5 D dA b0 ad S0 54 [some (.ref 130), none, some (.int v.1), some (.int v.2.1), some (.int v.2.2.1)] [] v.2.2.2) (fun v K hN hE hf => pX3_find_l54b X hr  (fun n2 n3 n4 nh hz => hN (n2, n3, n4, nh) hz) (fun z0 hz => hX0 z0 (hE _ hz)) hf)
  exact fun n v2 v3 v4 h hf => key n (v2, v3, v4, h) hf
set_option maxRecDepth 4000 in
theorem pX3_find_b0 (X : wCx p s m args meth c RX3 cX3_find 5 D dA b0 ad) (hr : meth.sig.returnType = none) {h : wSt} {x0 : Int32} {K : wSt → Prop} (hT : ∀ (h2 : wSt), K h2 → F none h2) (hf : wok (fX3_find h x0) K) : wM p l e (wR 68) s m args below meth c 0 0 (wE below args s D dA b0 ad S0 F) 5 D dA b0 ad S0 0 [some (.ref 130), some (.int x0), none, none, none] [] h := by
  unfold fX3_find at hf
  refine w_iload_n X dX3_find_0 rfl rfl rfl ?_
  refine w_istore_n X dX3_find_1 rfl rfl rfl (Nat.le_of_ble_eq_true rfl) (ls' := [some (.ref 130), some (.int x0), some (.int x0), none, none]) rfl ?_
  refine w_aload_n X dX3_find_2 rfl rfl rfl ?_
  refine w_aload_n X dX3_find_3 rfl rfl rfl ?_
  refine w_getR X dX3_find_4 rfl fl_X3_21 S0_130 rfl ?_
  refine w_getI X dX3_find_7 rfl fl_X3_25 S0_3 rfl ?_
  refine w_putI X dX3_find_10 rfl fp_X3_31 S0_130 rfl ?_
  refine w_nmh (fun yh21 eyh21 => ?_)
  have hf := wok_l hf eyh21
  refine w_fg (ls2 := [some (.ref 130), none, some (.int x0), none, none]) ⟨rfl, rfl, trivial⟩ ?_
  obtain ⟨ye24, hye24, hf⟩ := wok_b hf
  refine pX3_find_l13 X hr  (KE := fun z => ye24 = z) ?_ 3000 _ ⟨ye24, hye24, rfl⟩
  · intro yz25 hz
    subst hz
    refine w_aload_n X dX3_find_46 rfl rfl rfl ?_
    refine w_getI X dX3_find_47 rfl fl_X3_31 S0_130 rfl ?_
    refine w_istore_n X dX3_find_50 rfl rfl rfl (Nat.le_of_ble_eq_true rfl) (ls' := [some (.ref 130), none, some (.int x0), some (.int (ye24.1 130 1)), none]) rfl ?_
    refine w_iconst X dX3_find_51 rfl ci_0 ?_
    refine w_istore X dX3_find_52 rfl rfl (Nat.le_of_ble_eq_true rfl) (ls' := [some (.ref 130), none, some (.int x0), some (.int (ye24.1 130 1)), some (.int 0)]) rfl ?_
    obtain ⟨ye31, hye31, hf⟩ := wok_b hf
    refine pX3_find_l54 X hr  (KE := fun z => ye31 = z) ?_ 3000 _ _ _ _ ⟨ye31, hye31, rfl⟩
    · intro yz32 hz
      subst hz
      exact w_vret X dX3_find_129 hr (hT _ (wok_s hf))
set_option maxRecDepth 4000 in
theorem kX3_find (l : Launch) {h : wSt} {x0 : Int32} {res : wSt} (hf : fX3_find h x0 = some res) : wC l yX3_find cX3_find 5 none 68 S0 [.ref 130, .int x0] h (wFV (fun b => res = b)) := by
  refine w_meth2 3 (by decide) (Nat.le_of_ble_eq_true rfl) (ls := [some (.ref 130), some (.int x0), none, none, none]) rfl ?_
  intro p e s m args below meth c D dA b0 ad X hr
  exact pX3_find_b0 X hr  (K := fun z => res = z) (fun h2 hz => ⟨rfl, hz⟩) ⟨res, hf, rfl⟩
end WX

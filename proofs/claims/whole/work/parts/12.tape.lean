def fJ6_bitCount_0f7a4 (h : wSt) (x0 : Int32) : Option (Int32) :=
wlet (x0 - (((x0.toUInt32 >>> ((1 : Int32).toUInt32 &&& Int32.toUInt32 31)).toInt32) &&& 1431655765)) (fun yx21 =>
wlet ((yx21 &&& 858993459) + (((yx21.toUInt32 >>> ((2 : Int32).toUInt32 &&& Int32.toUInt32 31)).toInt32) &&& 858993459)) (fun yx22 =>
wlet ((yx22 + ((yx22.toUInt32 >>> ((4 : Int32).toUInt32 &&& Int32.toUInt32 31)).toInt32)) &&& 252645135) (fun yx23 =>
wlet (yx23 + ((yx23.toUInt32 >>> ((8 : Int32).toUInt32 &&& Int32.toUInt32 31)).toInt32)) (fun yx24 =>
wlet (yx24 + ((yx24.toUInt32 >>> ((16 : Int32).toUInt32 &&& Int32.toUInt32 31)).toInt32)) (fun yx25 =>
some (yx25 &&& 63))))))
def fX7_fail (h : wSt) (x0 : Int32) : Option (wSt) :=
if (h.1 1 7) = 0 then
wlet (wuI h 1 7 (x0 + (16 * (h.1 1 3)))) (fun yh21 =>
some yh21)
else
some h
def fX7_takeLetters_l5 (h : wSt) : Option ((wSt) ⊕ ((wSt))) :=
if (h.1 1 1) ≤ (h.1 1 4) then
some (.inr h)
else
if wib (h.1 1 4) 1000 then
if (h.1 2 (h.1 1 4).toNatClampNeg) < 97 then
some (.inr h)
else
if 122 < (h.1 2 (h.1 1 4).toNatClampNeg) then
some (.inr h)
else
wlet (wuJ h 1 6 (((h.2 1 6) * 32) + ((((h.1 2 (h.1 1 4).toNatClampNeg) - 97) + 1).toInt64))) (fun yh23 =>
wlet (wuI yh23 1 4 ((yh23.1 1 4) + 1)) (fun yh24 =>
some (.inl yh24)))
else none
def fX7_takeLetters_b105 (h : wSt) (w1 : Int32) : Option (wSt) :=
wlet (wuI h 1 2 w1) (fun yh27 =>
some yh27)
def fX7_takeLetters (h : wSt) : Option (wSt) :=
wlet (wuJ h 1 6 0) (fun yh21 =>
(wit (fun v : (wSt) => fX7_takeLetters_l5 v ) 3000 yh21).bind (fun ye25 =>
if 8 < ((ye25.1 1 4) - (ye25.1 1 3)) then
fX7_takeLetters_b105 ye25 (4 : Int32)
else
fX7_takeLetters_b105 ye25 (1 : Int32)))
def fX7_takeDigits_l5 (h : wSt) : Option ((wSt) ⊕ ((wSt))) :=
if (h.1 1 1) ≤ (h.1 1 4) then
some (.inr h)
else
if wib (h.1 1 4) 1000 then
if (h.1 2 (h.1 1 4).toNatClampNeg) < 48 then
some (.inr h)
else
if 57 < (h.1 2 (h.1 1 4).toNatClampNeg) then
some (.inr h)
else
wlet (wuI h 1 5 (((h.1 1 5) * 10) + ((h.1 2 (h.1 1 4).toNatClampNeg) - 48))) (fun yh23 =>
wlet (wuI yh23 1 4 ((yh23.1 1 4) + 1)) (fun yh24 =>
some (.inl yh24)))
else none
def fX7_takeDigits_b100 (h : wSt) (w1 : Int32) : Option (wSt) :=
wlet (wuI h 1 2 w1) (fun yh27 =>
some yh27)
def fX7_takeDigits (h : wSt) : Option (wSt) :=
wlet (wuI h 1 5 0) (fun yh21 =>
(wit (fun v : (wSt) => fX7_takeDigits_l5 v ) 3000 yh21).bind (fun ye25 =>
if 4 < ((ye25.1 1 4) - (ye25.1 1 3)) then
fX7_takeDigits_b100 ye25 (4 : Int32)
else
fX7_takeDigits_b100 ye25 (2 : Int32)))
def fX7_next_b55_16 (h : wSt) : Option ((wSt) ⊕ ((wSt))) :=
wlet (wuI h 1 3 ((h.1 1 3) + 1)) (fun yh23 =>
some (.inl yh23))
def fX7_next_l16 (h : wSt) : Option ((wSt) ⊕ ((wSt))) :=
if (h.1 1 1) ≤ (h.1 1 3) then
some (.inr h)
else
if wib (h.1 1 3) 1000 then
if (h.1 2 (h.1 1 3).toNatClampNeg) = 10 then
fX7_next_b55_16 h
else
if (h.1 2 (h.1 1 3).toNatClampNeg) = 32 then
fX7_next_b55_16 h
else
some (.inr h)
else none
def fX7_next_b157 (h : wSt) (w1 : Int32) : Option (wSt) :=
wlet (wuI h 1 2 w1) (fun yh30 =>
wlet (wuI yh30 1 4 ((yh30.1 1 3) + 1)) (fun yh31 =>
some yh31))
def fX7_next_b141 (h : wSt) (v1 : Int32) : Option (wSt) :=
(fJ0_indexOf_0f7a4 h 0 ((v1.toUInt32 % 65536).toInt32)).bind (fun yr29 =>
if yr29 < 0 then
fX7_next_b157 h (4 : Int32)
else
fX7_next_b157 h (3 : Int32))
def fX7_next_b122 (h : wSt) (v1 : Int32) : Option (wSt) :=
if v1 < 48 then
fX7_next_b141 h v1
else
if 57 < v1 then
fX7_next_b141 h v1
else
(fX7_takeDigits h ).bind (fun yr32 =>
some yr32)
def fX7_next (h : wSt) : Option (wSt) :=
if (h.1 1 7) = 0 then
wlet (wuI h 1 3 (h.1 1 4)) (fun yh21 =>
(wit (fun v : (wSt) => fX7_next_l16 v ) 3000 yh21).bind (fun ye24 =>
wlet (wuI ye24 1 4 (ye24.1 1 3)) (fun yh26 =>
if (yh26.1 1 3) < (yh26.1 1 1) then
if wib (yh26.1 1 3) 1000 then
wlet (yh26.1 2 (yh26.1 1 3).toNatClampNeg) (fun yx28 =>
if yx28 < 97 then
fX7_next_b122 yh26 yx28
else
if 122 < yx28 then
fX7_next_b122 yh26 yx28
else
(fX7_takeLetters yh26 ).bind (fun yr33 =>
some yr33))
else none
else
wlet (wuI yh26 1 2 0) (fun yh34 =>
some yh34))))
else
some h
def fX7_isSound (h : wSt) : Option (Bool) :=
if (h.1 1 7) = 0 then
some true
else
some false
def fX7_isWord_l39 (h : wSt) (i0 : Nat) (v2 : Int32) : Option ((Int32) ⊕ ((Unit) ⊕ (Bool))) :=
(fJ0_length_8abf5 h i0).bind (fun yr22 =>
if yr22 ≤ v2 then
some (.inr (.inl ()))
else
if wib ((h.1 1 3) + v2) 1000 then
(fJ0_charAt_5068e h i0 v2).bind (fun yr24 =>
if (h.1 2 ((h.1 1 3) + v2).toNatClampNeg) = yr24 then
some (.inl (v2 + 1))
else
some (.inr (.inr false)))
else none)
def fX7_isWord (h : wSt) (i0 : Nat) : Option (Bool) :=
if (h.1 1 2) = 1 then
(fJ0_length_8abf5 h i0).bind (fun yr21 =>
if ((h.1 1 4) - (h.1 1 3)) = yr21 then
if (h.1 1 4) ≤ (h.1 1 1) then
(wit (fun v : (Int32) => fX7_isWord_l39 h i0 v) 3000 (0 : Int32)).bind (fun ye25 => match ye25 with
| .inl ye25v =>
some true
| .inr ye25r =>
some ye25r)
else
some false
else
some false)
else
some false
def fX7_isSign (h : wSt) (x0 : Int32) : Option (Bool) :=
if (h.1 1 2) = 3 then
if (h.1 1 1) ≤ (h.1 1 3) then
some false
else
if wib (h.1 1 3) 1000 then
if (h.1 2 (h.1 1 3).toNatClampNeg) = x0 then
some true
else
some false
else none
else
some false
def fX7_isNumber (h : wSt) : Option (Bool) :=
if (h.1 1 2) = 2 then
some true
else
some false
def fX7_takeSign (h : wSt) (x0 : Int32) : Option (wSt) :=
(fX7_isSign h x0).bind (fun yr21 =>
if yr21 = true then
(fX7_next h ).bind (fun yr23 =>
some yr23)
else
(fX7_fail h (1 : Int32)).bind (fun yr22 =>
some yr22))
def fX7_rewind (h : wSt) : Option (wSt) :=
wlet (wuI h 1 4 0) (fun yh21 =>
wlet (wuI yh21 1 7 0) (fun yh22 =>
(fX7_next yh22 ).bind (fun yr23 =>
some yr23)))
def fX7_isAtEnd (h : wSt) : Option (Bool) :=
if (h.1 1 2) = 0 then
some true
else
some false
def fX7_isName_b185 (h : wSt) (w0 : Int32) : Option (Bool) :=
if (h.1 1 2) = 1 then
if w0 = 0 then
some true
else
some false
else
some false
def fX7_isName_b180 (h : wSt) : Option (Bool) :=
fX7_isName_b185 h (1 : Int32)
def fX7_isName (h : wSt) : Option (Bool) :=
(fX7_isWord h 1).bind (fun yr21 =>
if yr21 = true then
fX7_isName_b180 h
else
(fX7_isWord h 2).bind (fun yr22 =>
if yr22 = true then
fX7_isName_b180 h
else
(fX7_isWord h 3).bind (fun yr23 =>
if yr23 = true then
fX7_isName_b180 h
else
(fX7_isWord h 4).bind (fun yr24 =>
if yr24 = true then
fX7_isName_b180 h
else
(fX7_isWord h 5).bind (fun yr25 =>
if yr25 = true then
fX7_isName_b180 h
else
(fX7_isWord h 6).bind (fun yr26 =>
if yr26 = true then
fX7_isName_b180 h
else
(fX7_isWord h 7).bind (fun yr27 =>
if yr27 = true then
fX7_isName_b180 h
else
(fX7_isWord h 8).bind (fun yr28 =>
if yr28 = true then
fX7_isName_b180 h
else
(fX7_isWord h 9).bind (fun yr29 =>
if yr29 = true then
fX7_isName_b180 h
else
(fX7_isWord h 10).bind (fun yr30 =>
if yr30 = true then
fX7_isName_b180 h
else
(fX7_isWord h 11).bind (fun yr31 =>
if yr31 = true then
fX7_isName_b180 h
else
(fX7_isWord h 12).bind (fun yr32 =>
if yr32 = true then
fX7_isName_b180 h
else
(fX7_isWord h 13).bind (fun yr33 =>
if yr33 = true then
fX7_isName_b180 h
else
(fX7_isWord h 14).bind (fun yr34 =>
if yr34 = true then
fX7_isName_b180 h
else
(fX7_isWord h 15).bind (fun yr35 =>
if yr35 = true then
fX7_isName_b180 h
else
(fX7_isWord h 16).bind (fun yr36 =>
if yr36 = true then
fX7_isName_b180 h
else
(fX7_isWord h 17).bind (fun yr37 =>
if yr37 = true then
fX7_isName_b180 h
else
(fX7_isWord h 18).bind (fun yr38 =>
if yr38 = true then
fX7_isName_b180 h
else
(fX7_isWord h 19).bind (fun yr39 =>
if yr39 = true then
fX7_isName_b180 h
else
(fX7_isWord h 20).bind (fun yr40 =>
if yr40 = true then
fX7_isName_b180 h
else
fX7_isName_b185 h (0 : Int32)))))))))))))))))))))
def fX7_takeWord (h : wSt) (i0 : Nat) : Option (wSt) :=
(fX7_isWord h i0).bind (fun yr21 =>
if yr21 = true then
(fX7_next h ).bind (fun yr23 =>
some yr23)
else
(fX7_fail h (1 : Int32)).bind (fun yr22 =>
some yr22))
def fX7_isNumberWithin_b37 (h : wSt) : Option (Bool × wSt) :=
if (h.1 1 7) = 0 then
some (true, h)
else
some (false, h)
def fX7_isNumberWithin_b32 (h : wSt) : Option (Bool × wSt) :=
(fX7_fail h (4 : Int32)).bind (fun yr21 =>
fX7_isNumberWithin_b37 yr21)
def fX7_isNumberWithin (h : wSt) (x0 : Int32) (x1 : Int32) : Option (Bool × wSt) :=
if (h.1 1 2) = 2 then
if (h.1 1 5) < x0 then
fX7_isNumberWithin_b32 h
else
if (h.1 1 5) ≤ x1 then
fX7_isNumberWithin_b37 h
else
fX7_isNumberWithin_b32 h
else
(fX7_fail h (1 : Int32)).bind (fun yr22 =>
fX7_isNumberWithin_b37 yr22)
def fX7_takeNumber (h : wSt) (x0 : Int32) (x1 : Int32) : Option (Int32 × wSt) :=
(fX7_isNumberWithin h x0 x1).bind (fun yr21 =>
if yr21.1 = true then
(fX7_next yr21.2 ).bind (fun yr22 =>
some ((h.1 1 5), yr22))
else
some ((h.1 1 5), yr21.2))
def fX7_clear (h : wSt) : Option (wSt) :=
wlet (wuI h 1 1 0) (fun yh21 =>
some yh21)
def fX7_addBytes_b70_3 (h : wSt) (v1 : Int64) (v3 : Int32) : Option ((Int32 × wSt) ⊕ ((wSt))) :=
some (.inl ((v3 + (-8)), h))
def fX7_addBytes_b48_3 (h : wSt) (v1 : Int64) (v3 : Int32) (v4 : Int32) : Option ((Int32 × wSt) ⊕ ((wSt))) :=
if wib (h.1 1 1) 1000 then
wlet (wuI h 2 (h.1 1 1).toNatClampNeg (vp_nar .byte v4.toInt8.toInt32)) (fun yh23 =>
wlet (wuI yh23 1 1 ((yh23.1 1 1) + 1)) (fun yh24 =>
fX7_addBytes_b70_3 yh24 v1 v3))
else none
def fX7_addBytes_l3 (h : wSt) (v1 : Int64) (v3 : Int32) : Option ((Int32 × wSt) ⊕ ((wSt))) :=
if v3 < 0 then
some (.inr h)
else
wlet ((((v1.toUInt64 >>> (v3.toInt64.toUInt64 &&& Int64.toUInt64 63)).toInt64).toInt32) &&& 255) (fun yx21 =>
if 1000 ≤ (h.1 1 1) then
fX7_addBytes_b70_3 h v1 v3
else
if yx21 = 10 then
fX7_addBytes_b48_3 h v1 v3 yx21
else
if yx21 < 32 then
fX7_addBytes_b70_3 h v1 v3
else
if 126 < yx21 then
fX7_addBytes_b70_3 h v1 v3
else
fX7_addBytes_b48_3 h v1 v3 yx21)
def fX7_addBytes (h : wSt) (x0 : Int64) : Option (wSt) :=
(wit (fun v : (Int32 × wSt) => fX7_addBytes_l3 v.2 x0 v.1) 3000 ((56 : Int32), h)).bind (fun ye25 =>
some ye25)
section WX
variable {p : Program} {l : Launch} {e : Env} {s : State} {m : MethodId} {args : Array Value} {below : List Frame} {meth : Method} {c : Code} {D : va_G} {dA : Nat → ClassId} {b0 : Nat} {ad : Nat → Nat} {F : Option Value → wSt → Prop}
set_option maxRecDepth 4000 in
theorem pJ6_bitCount_0f7a4_b0 (X : wCx p s m args meth c RJ6 cJ6_bitCount_0f7a4 1 D dA b0 ad) (hr : meth.sig.returnType = (some .int)) {h : wSt} {x0 : Int32} {K : Int32 → Prop} (hT : ∀ (x : Int32), K x → F (some (.int x)) h) (hf : wok (fJ6_bitCount_0f7a4 h x0) K) : wM p l e (wR 1) s m args below meth c 0 0 (wE below args s D dA b0 ad S0 F) 1 D dA b0 ad S0 0 [some (.int x0)] [] h := by
  unfold fJ6_bitCount_0f7a4 at hf
  refine w_iload_n X dJ6_bitCount_0f7a4_0 rfl rfl rfl ?_
  refine w_iload_n X dJ6_bitCount_0f7a4_1 rfl rfl rfl ?_
  refine w_iconst X dJ6_bitCount_0f7a4_2 rfl ci_1 ?_
  refine w_iushr X dJ6_bitCount_0f7a4_3 rfl ?_
  refine w_ldcw X dJ6_bitCount_0f7a4_4 rfl wd_888 ?_
  refine w_iand X dJ6_bitCount_0f7a4_7 rfl ?_
  refine w_isub X dJ6_bitCount_0f7a4_8 rfl ?_
  refine w_topi (fun yx21 eyx21 => ?_)
  have hf := wok_l hf eyx21
  refine w_istore_n X dJ6_bitCount_0f7a4_9 rfl rfl rfl (Nat.le_of_ble_eq_true rfl) (ls' := [some (.int yx21)]) rfl ?_
  refine w_iload_n X dJ6_bitCount_0f7a4_10 rfl rfl rfl ?_
  refine w_ldcw X dJ6_bitCount_0f7a4_11 rfl wd_889 ?_
  refine w_iand X dJ6_bitCount_0f7a4_14 rfl ?_
  refine w_iload_n X dJ6_bitCount_0f7a4_15 rfl rfl rfl ?_
  refine w_iconst X dJ6_bitCount_0f7a4_16 rfl ci_2 ?_
  refine w_iushr X dJ6_bitCount_0f7a4_17 rfl ?_
  refine w_ldcw X dJ6_bitCount_0f7a4_18 rfl wd_889 ?_
  refine w_iand X dJ6_bitCount_0f7a4_21 rfl ?_
  refine w_iadd X dJ6_bitCount_0f7a4_22 rfl ?_
  refine w_topi (fun yx22 eyx22 => ?_)
  have hf := wok_l hf eyx22
  refine w_istore_n X dJ6_bitCount_0f7a4_23 rfl rfl rfl (Nat.le_of_ble_eq_true rfl) (ls' := [some (.int yx22)]) rfl ?_
  refine w_iload_n X dJ6_bitCount_0f7a4_24 rfl rfl rfl ?_
  refine w_iload_n X dJ6_bitCount_0f7a4_25 rfl rfl rfl ?_
  refine w_iconst X dJ6_bitCount_0f7a4_26 rfl ci_4 ?_
  refine w_iushr X dJ6_bitCount_0f7a4_27 rfl ?_
  refine w_iadd X dJ6_bitCount_0f7a4_28 rfl ?_
  refine w_ldcw X dJ6_bitCount_0f7a4_29 rfl wd_890 ?_
  refine w_iand X dJ6_bitCount_0f7a4_32 rfl ?_
  refine w_topi (fun yx23 eyx23 => ?_)
  have hf := wok_l hf eyx23
  refine w_istore_n X dJ6_bitCount_0f7a4_33 rfl rfl rfl (Nat.le_of_ble_eq_true rfl) (ls' := [some (.int yx23)]) rfl ?_
  refine w_iload_n X dJ6_bitCount_0f7a4_34 rfl rfl rfl ?_
  refine w_iload_n X dJ6_bitCount_0f7a4_35 rfl rfl rfl ?_
  refine w_bipush X dJ6_bitCount_0f7a4_36 rfl cb_8 ?_
  refine w_iushr X dJ6_bitCount_0f7a4_38 rfl ?_
  refine w_iadd X dJ6_bitCount_0f7a4_39 rfl ?_
  refine w_topi (fun yx24 eyx24 => ?_)
  have hf := wok_l hf eyx24
  refine w_istore_n X dJ6_bitCount_0f7a4_40 rfl rfl rfl (Nat.le_of_ble_eq_true rfl) (ls' := [some (.int yx24)]) rfl ?_
  refine w_iload_n X dJ6_bitCount_0f7a4_41 rfl rfl rfl ?_
  refine w_iload_n X dJ6_bitCount_0f7a4_42 rfl rfl rfl ?_
  refine w_bipush X dJ6_bitCount_0f7a4_43 rfl cb_16 ?_
  refine w_iushr X dJ6_bitCount_0f7a4_45 rfl ?_
  refine w_iadd X dJ6_bitCount_0f7a4_46 rfl ?_
  refine w_topi (fun yx25 eyx25 => ?_)
  have hf := wok_l hf eyx25
  refine w_istore_n X dJ6_bitCount_0f7a4_47 rfl rfl rfl (Nat.le_of_ble_eq_true rfl) (ls' := [some (.int yx25)]) rfl ?_
  refine w_iload_n X dJ6_bitCount_0f7a4_48 rfl rfl rfl ?_
  refine w_bipush X dJ6_bitCount_0f7a4_49 rfl cb_63 ?_
  refine w_iand X dJ6_bitCount_0f7a4_51 rfl ?_
  exact w_iret X dJ6_bitCount_0f7a4_52 hr (hT _ (wok_s hf))
set_option maxRecDepth 4000 in
theorem kJ6_bitCount_0f7a4 (l : Launch) {h : wSt} {x0 : Int32} {res : Int32} (hf : fJ6_bitCount_0f7a4 h x0 = some res) : wC l yJ6_bitCount_0f7a4 cJ6_bitCount_0f7a4 1 (some .int) 1 S0 [.int x0] h (wFI (fun a b => res = a ∧ h = b)) := by
  refine w_meth2 0 (by decide) (Nat.le_of_ble_eq_true rfl) (ls := [some (.int x0)]) rfl ?_
  intro p e s m args below meth c D dA b0 ad X hr
  exact pJ6_bitCount_0f7a4_b0 X hr  (K := fun z => res = z) (fun x hz => ⟨x, rfl, hz, rfl⟩) ⟨res, hf, rfl⟩
set_option maxRecDepth 4000 in
theorem pX7_fail_b0 (X : wCx p s m args meth c RX7 cX7_fail 2 D dA b0 ad) (hr : meth.sig.returnType = none) {h : wSt} {x0 : Int32} {K : wSt → Prop} (hT : ∀ (h2 : wSt), K h2 → F none h2) (hf : wok (fX7_fail h x0) K) : wM p l e (wR 1) s m args below meth c 0 0 (wE below args s D dA b0 ad S0 F) 2 D dA b0 ad S0 0 [some (.ref 1), some (.int x0)] [] h := by
  unfold fX7_fail at hf
  refine w_aload_n X dX7_fail_0 rfl rfl rfl ?_
  refine w_getI X dX7_fail_1 rfl fl_X7_20 S0_1 rfl ?_
  refine w_if_ne X dX7_fail_4 rfl (t := 20) rfl (fun hc => ?_) (fun hc => ?_)
  · have hf := wok_f hf hc
    exact w_vret X dX7_fail_20 hr (hT _ (wok_s hf))
  · have hf := wok_t hf hc
    refine w_aload_n X dX7_fail_7 rfl rfl rfl ?_
    refine w_iload_n X dX7_fail_8 rfl rfl rfl ?_
    refine w_bipush X dX7_fail_9 rfl cb_16 ?_
    refine w_aload_n X dX7_fail_11 rfl rfl rfl ?_
    refine w_getI X dX7_fail_12 rfl fl_X7_29 S0_1 rfl ?_
    refine w_imul X dX7_fail_15 rfl ?_
    refine w_iadd X dX7_fail_16 rfl ?_
    refine w_putI X dX7_fail_17 rfl fp_X7_20 S0_1 rfl ?_
    refine w_nmh (fun yh21 eyh21 => ?_)
    have hf := wok_l hf eyh21
    exact w_vret X dX7_fail_20 hr (hT _ (wok_s hf))
set_option maxRecDepth 4000 in
theorem kX7_fail (l : Launch) {h : wSt} {x0 : Int32} {res : wSt} (hf : fX7_fail h x0 = some res) : wC l yX7_fail cX7_fail 2 none 1 S0 [.ref 1, .int x0] h (wFV (fun b => res = b)) := by
  refine w_meth2 0 (by decide) (Nat.le_of_ble_eq_true rfl) (ls := [some (.ref 1), some (.int x0)]) rfl ?_
  intro p e s m args below meth c D dA b0 ad X hr
  exact pX7_fail_b0 X hr  (K := fun z => res = z) (fun h2 hz => ⟨rfl, hz⟩) ⟨res, hf, rfl⟩
set_option maxRecDepth 4000 in
theorem pX7_takeLetters_l5b (X : wCx p s m args meth c RX7 cX7_takeLetters 1 D dA b0 ad) (hr : meth.sig.returnType = none) {h : wSt} {K : (wSt) ⊕ ((wSt)) → Prop} (hN : ∀ (nh : wSt), K (.inl nh) → wM p l e (wR 1) s m args below meth c 0 0 (wE below args s D dA b0 ad S0 F) 1 D dA b0 ad S0 5 [some (.ref 1)] [] nh) (hX0 : ∀ (nh : wSt), K (.inr nh) → wM p l e (wR 1) s m args below meth c 0 0 (wE below args s D dA b0 ad S0 F) 1 D dA b0 ad S0 85 [some (.ref 1)] [] nh) (hf : wok (fX7_takeLetters_l5 h ) K) : wM p l e (wR 1) s m args below meth c 0 0 (wE below args s D dA b0 ad S0 F) 1 D dA b0 ad S0 5 [some (.ref 1)] [] h := by
  unfold fX7_takeLetters_l5 at hf
  refine w_aload_n X dX7_takeLetters_5 rfl rfl rfl ?_
  refine w_getI X dX7_takeLetters_6 rfl fl_X7_17 S0_1 rfl ?_
  refine w_aload_n X dX7_takeLetters_9 rfl rfl rfl ?_
  refine w_getI X dX7_takeLetters_10 rfl fl_X7_13 S0_1 rfl ?_
  refine w_icmp_ge X dX7_takeLetters_13 rfl (t := 85) rfl (fun hc => ?_) (fun hc => ?_)
  · have hf := wok_t hf hc
    exact hX0 _ (wok_s hf)
  · have hf := wok_f hf hc
    refine w_aload_n X dX7_takeLetters_16 rfl rfl rfl ?_
    refine w_getR X dX7_takeLetters_17 rfl fl_X7_9 S0_1 rfl ?_
    refine w_aload_n X dX7_takeLetters_20 rfl rfl rfl ?_
    refine w_getI X dX7_takeLetters_21 rfl fl_X7_17 S0_1 rfl ?_
    obtain ⟨yhg22, hf⟩ := wok_g hf
    refine w_bald X dX7_takeLetters_24 rfl (j := (h.1 1 4).toNatClampNeg) rfl S0_2 yhg22 ?_
    refine w_bipush X dX7_takeLetters_25 rfl cb_97 ?_
    refine w_icmp_lt X dX7_takeLetters_27 rfl (t := 85) rfl (fun hc => ?_) (fun hc => ?_)
    · have hf := wok_t hf hc
      exact hX0 _ (wok_s hf)
    · have hf := wok_f hf hc
      refine w_aload_n X dX7_takeLetters_30 rfl rfl rfl ?_
      refine w_getR X dX7_takeLetters_31 rfl fl_X7_9 S0_1 rfl ?_
      refine w_aload_n X dX7_takeLetters_34 rfl rfl rfl ?_
      refine w_getI X dX7_takeLetters_35 rfl fl_X7_17 S0_1 rfl ?_
      refine w_bald X dX7_takeLetters_38 rfl (j := (h.1 1 4).toNatClampNeg) rfl S0_2 yhg22 ?_
      refine w_bipush X dX7_takeLetters_39 rfl cb_122 ?_
      refine w_icmp_gt X dX7_takeLetters_41 rfl (t := 85) rfl (fun hc => ?_) (fun hc => ?_)
      · have hf := wok_t hf hc
        exact hX0 _ (wok_s hf)
      · have hf := wok_f hf hc
        refine w_aload_n X dX7_takeLetters_44 rfl rfl rfl ?_
        refine w_aload_n X dX7_takeLetters_45 rfl rfl rfl ?_
        refine w_getJ X dX7_takeLetters_46 rfl fl_X7_46 S0_1 rfl ?_
        refine w_ldc2 X dX7_takeLetters_49 rfl wd_387 ?_
        refine w_lmul X dX7_takeLetters_52 rfl ?_
        refine w_aload_n X dX7_takeLetters_53 rfl rfl rfl ?_
        refine w_getR X dX7_takeLetters_54 rfl fl_X7_9 S0_1 rfl ?_
        refine w_aload_n X dX7_takeLetters_57 rfl rfl rfl ?_
        refine w_getI X dX7_takeLetters_58 rfl fl_X7_17 S0_1 rfl ?_
        refine w_bald X dX7_takeLetters_61 rfl (j := (h.1 1 4).toNatClampNeg) rfl S0_2 yhg22 ?_
        refine w_bipush X dX7_takeLetters_62 rfl cb_97 ?_
        refine w_isub X dX7_takeLetters_64 rfl ?_
        refine w_iconst X dX7_takeLetters_65 rfl ci_1 ?_
        refine w_iadd X dX7_takeLetters_66 rfl ?_
        refine w_i2l X dX7_takeLetters_67 rfl ?_
        refine w_ladd X dX7_takeLetters_68 rfl ?_
        refine w_putJ X dX7_takeLetters_69 rfl fp_X7_46 S0_1 rfl ?_
        refine w_nmh (fun yh23 eyh23 => ?_)
        have hf := wok_l hf eyh23
        refine w_aload_n X dX7_takeLetters_72 rfl rfl rfl ?_
        refine w_dup X dX7_takeLetters_73 rfl rfl ?_
        refine w_getI X dX7_takeLetters_74 rfl fl_X7_17 S0_1 rfl ?_
        refine w_iconst X dX7_takeLetters_77 rfl ci_1 ?_
        refine w_iadd X dX7_takeLetters_78 rfl ?_
        refine w_putI X dX7_takeLetters_79 rfl fp_X7_17 S0_1 rfl ?_
        refine w_nmh (fun yh24 eyh24 => ?_)
        have hf := wok_l hf eyh24
        refine w_goto X dX7_takeLetters_82 (t := 5) rfl ?_
        exact hN _ (wok_s hf)
set_option maxRecDepth 4000 in
theorem pX7_takeLetters_l5 (X : wCx p s m args meth c RX7 cX7_takeLetters 1 D dA b0 ad) (hr : meth.sig.returnType = none)  {KE : (wSt) → Prop} (hX0 : ∀ (nh : wSt), KE (nh) → wM p l e (wR 1) s m args below meth c 0 0 (wE below args s D dA b0 ad S0 F) 1 D dA b0 ad S0 85 [some (.ref 1)] [] nh) : ∀ (n : Nat) (h : wSt), wok (wit (fun v : (wSt) => fX7_takeLetters_l5 v ) n h) KE → wM p l e (wR 1) s m args below meth c 0 0 (wE below args s D dA b0 ad S0 F) 1 D dA b0 ad S0 5 [some (.ref 1)] [] h := by
  have key := wit_M (b := (fun v : (wSt) => fX7_takeLetters_l5 v )) (KE := KE) (G := fun v => wM p l e (wR 1) s m args below meth c 0 0 (wE below args s D dA b0 ad S0 F) 1 D dA b0 ad S0 5 [some (.ref 1)] [] v) (fun v K hN hE hf => pX7_takeLetters_l5b X hr  (fun  nh hz => hN nh hz) (fun z0 hz => hX0 z0 (hE _ hz)) hf)
  exact fun n h hf => key n h hf
set_option maxRecDepth 4000 in
theorem pX7_takeLetters_b105 (X : wCx p s m args meth c RX7 cX7_takeLetters 1 D dA b0 ad) (hr : meth.sig.returnType = none) {h : wSt} {w1 : Int32} {K : wSt → Prop} (hT : ∀ (h2 : wSt), K h2 → F none h2)  (hf : wok (fX7_takeLetters_b105 h w1) K) : wM p l e (wR 1) s m args below meth c 0 0 (wE below args s D dA b0 ad S0 F) 1 D dA b0 ad S0 105 [none] [.int w1, .ref 1] h := by
  unfold fX7_takeLetters_b105 at hf
  refine w_putI X dX7_takeLetters_105 rfl fp_X7_26 S0_1 rfl ?_
  refine w_nmh (fun yh27 eyh27 => ?_)
  have hf := wok_l hf eyh27
  exact w_vret X dX7_takeLetters_108 hr (hT _ (wok_s hf))
set_option maxRecDepth 4000 in
theorem pX7_takeLetters_b0 (X : wCx p s m args meth c RX7 cX7_takeLetters 1 D dA b0 ad) (hr : meth.sig.returnType = none) {h : wSt} {K : wSt → Prop} (hT : ∀ (h2 : wSt), K h2 → F none h2) (hf : wok (fX7_takeLetters h ) K) : wM p l e (wR 1) s m args below meth c 0 0 (wE below args s D dA b0 ad S0 F) 1 D dA b0 ad S0 0 [some (.ref 1)] [] h := by
  unfold fX7_takeLetters at hf
  refine w_aload_n X dX7_takeLetters_0 rfl rfl rfl ?_
  refine w_lconst X dX7_takeLetters_1 rfl rfl ?_
  refine w_putJ X dX7_takeLetters_2 rfl fp_X7_46 S0_1 rfl ?_
  refine w_nmh (fun yh21 eyh21 => ?_)
  have hf := wok_l hf eyh21
  obtain ⟨ye25, hye25, hf⟩ := wok_b hf
  refine pX7_takeLetters_l5 X hr  (KE := fun z => ye25 = z) ?_ 3000 _ ⟨ye25, hye25, rfl⟩
  · intro yz26 hz
    subst hz
    refine w_aload_n X dX7_takeLetters_85 rfl rfl rfl ?_
    refine w_aload_n X dX7_takeLetters_86 rfl rfl rfl ?_
    refine w_getI X dX7_takeLetters_87 rfl fl_X7_17 S0_1 rfl ?_
    refine w_aload_n X dX7_takeLetters_90 rfl rfl rfl ?_
    refine w_getI X dX7_takeLetters_91 rfl fl_X7_29 S0_1 rfl ?_
    refine w_isub X dX7_takeLetters_94 rfl ?_
    refine w_bipush X dX7_takeLetters_95 rfl cb_8 ?_
    refine w_icmp_gt X dX7_takeLetters_97 rfl (t := 104) rfl (fun hc => ?_) (fun hc => ?_)
    · have hf := wok_t hf hc
      refine w_iconst X dX7_takeLetters_104 rfl ci_4 ?_
      refine w_fg (ls2 := [none]) trivial ?_
      exact pX7_takeLetters_b105 X hr  hT hf
    · have hf := wok_f hf hc
      refine w_iconst X dX7_takeLetters_100 rfl ci_1 ?_
      refine w_goto X dX7_takeLetters_101 (t := 105) rfl ?_
      refine w_fg (ls2 := [none]) trivial ?_
      exact pX7_takeLetters_b105 X hr  hT hf
set_option maxRecDepth 4000 in
theorem kX7_takeLetters (l : Launch) {h : wSt} {res : wSt} (hf : fX7_takeLetters h  = some res) : wC l yX7_takeLetters cX7_takeLetters 1 none 1 S0 [.ref 1] h (wFV (fun b => res = b)) := by
  refine w_meth2 0 (by decide) (Nat.le_of_ble_eq_true rfl) (ls := [some (.ref 1)]) rfl ?_
  intro p e s m args below meth c D dA b0 ad X hr
  exact pX7_takeLetters_b0 X hr  (K := fun z => res = z) (fun h2 hz => ⟨rfl, hz⟩) ⟨res, hf, rfl⟩
set_option maxRecDepth 4000 in
theorem pX7_takeDigits_l5b (X : wCx p s m args meth c RX7 cX7_takeDigits 1 D dA b0 ad) (hr : meth.sig.returnType = none) {h : wSt} {K : (wSt) ⊕ ((wSt)) → Prop} (hN : ∀ (nh : wSt), K (.inl nh) → wM p l e (wR 1) s m args below meth c 0 0 (wE below args s D dA b0 ad S0 F) 1 D dA b0 ad S0 5 [some (.ref 1)] [] nh) (hX0 : ∀ (nh : wSt), K (.inr nh) → wM p l e (wR 1) s m args below meth c 0 0 (wE below args s D dA b0 ad S0 F) 1 D dA b0 ad S0 81 [some (.ref 1)] [] nh) (hf : wok (fX7_takeDigits_l5 h ) K) : wM p l e (wR 1) s m args below meth c 0 0 (wE below args s D dA b0 ad S0 F) 1 D dA b0 ad S0 5 [some (.ref 1)] [] h := by
  unfold fX7_takeDigits_l5 at hf
  refine w_aload_n X dX7_takeDigits_5 rfl rfl rfl ?_
  refine w_getI X dX7_takeDigits_6 rfl fl_X7_17 S0_1 rfl ?_
  refine w_aload_n X dX7_takeDigits_9 rfl rfl rfl ?_
  refine w_getI X dX7_takeDigits_10 rfl fl_X7_13 S0_1 rfl ?_
  refine w_icmp_ge X dX7_takeDigits_13 rfl (t := 81) rfl (fun hc => ?_) (fun hc => ?_)
  · have hf := wok_t hf hc
    exact hX0 _ (wok_s hf)
  · have hf := wok_f hf hc
    refine w_aload_n X dX7_takeDigits_16 rfl rfl rfl ?_
    refine w_getR X dX7_takeDigits_17 rfl fl_X7_9 S0_1 rfl ?_
    refine w_aload_n X dX7_takeDigits_20 rfl rfl rfl ?_
    refine w_getI X dX7_takeDigits_21 rfl fl_X7_17 S0_1 rfl ?_
    obtain ⟨yhg22, hf⟩ := wok_g hf
    refine w_bald X dX7_takeDigits_24 rfl (j := (h.1 1 4).toNatClampNeg) rfl S0_2 yhg22 ?_
    refine w_bipush X dX7_takeDigits_25 rfl cb_48 ?_
    refine w_icmp_lt X dX7_takeDigits_27 rfl (t := 81) rfl (fun hc => ?_) (fun hc => ?_)
    · have hf := wok_t hf hc
      exact hX0 _ (wok_s hf)
    · have hf := wok_f hf hc
      refine w_aload_n X dX7_takeDigits_30 rfl rfl rfl ?_
      refine w_getR X dX7_takeDigits_31 rfl fl_X7_9 S0_1 rfl ?_
      refine w_aload_n X dX7_takeDigits_34 rfl rfl rfl ?_
      refine w_getI X dX7_takeDigits_35 rfl fl_X7_17 S0_1 rfl ?_
      refine w_bald X dX7_takeDigits_38 rfl (j := (h.1 1 4).toNatClampNeg) rfl S0_2 yhg22 ?_
      refine w_bipush X dX7_takeDigits_39 rfl cb_57 ?_
      refine w_icmp_gt X dX7_takeDigits_41 rfl (t := 81) rfl (fun hc => ?_) (fun hc => ?_)
      · have hf := wok_t hf hc
        exact hX0 _ (wok_s hf)
      · have hf := wok_f hf hc
        refine w_aload_n X dX7_takeDigits_44 rfl rfl rfl ?_
        refine w_aload_n X dX7_takeDigits_45 rfl rfl rfl ?_
        refine w_getI X dX7_takeDigits_46 rfl fl_X7_52 S0_1 rfl ?_
        refine w_bipush X dX7_takeDigits_49 rfl cb_10 ?_
        refine w_imul X dX7_takeDigits_51 rfl ?_
        refine w_aload_n X dX7_takeDigits_52 rfl rfl rfl ?_
        refine w_getR X dX7_takeDigits_53 rfl fl_X7_9 S0_1 rfl ?_
        refine w_aload_n X dX7_takeDigits_56 rfl rfl rfl ?_
        refine w_getI X dX7_takeDigits_57 rfl fl_X7_17 S0_1 rfl ?_
        refine w_bald X dX7_takeDigits_60 rfl (j := (h.1 1 4).toNatClampNeg) rfl S0_2 yhg22 ?_
        refine w_bipush X dX7_takeDigits_61 rfl cb_48 ?_
        refine w_isub X dX7_takeDigits_63 rfl ?_
        refine w_iadd X dX7_takeDigits_64 rfl ?_
        refine w_putI X dX7_takeDigits_65 rfl fp_X7_52 S0_1 rfl ?_
        refine w_nmh (fun yh23 eyh23 => ?_)
        have hf := wok_l hf eyh23
        refine w_aload_n X dX7_takeDigits_68 rfl rfl rfl ?_
        refine w_dup X dX7_takeDigits_69 rfl rfl ?_
        refine w_getI X dX7_takeDigits_70 rfl fl_X7_17 S0_1 rfl ?_
        refine w_iconst X dX7_takeDigits_73 rfl ci_1 ?_
        refine w_iadd X dX7_takeDigits_74 rfl ?_
        refine w_putI X dX7_takeDigits_75 rfl fp_X7_17 S0_1 rfl ?_
        refine w_nmh (fun yh24 eyh24 => ?_)
        have hf := wok_l hf eyh24
        refine w_goto X dX7_takeDigits_78 (t := 5) rfl ?_
        exact hN _ (wok_s hf)
set_option maxRecDepth 4000 in
theorem pX7_takeDigits_l5 (X : wCx p s m args meth c RX7 cX7_takeDigits 1 D dA b0 ad) (hr : meth.sig.returnType = none)  {KE : (wSt) → Prop} (hX0 : ∀ (nh : wSt), KE (nh) → wM p l e (wR 1) s m args below meth c 0 0 (wE below args s D dA b0 ad S0 F) 1 D dA b0 ad S0 81 [some (.ref 1)] [] nh) : ∀ (n : Nat) (h : wSt), wok (wit (fun v : (wSt) => fX7_takeDigits_l5 v ) n h) KE → wM p l e (wR 1) s m args below meth c 0 0 (wE below args s D dA b0 ad S0 F) 1 D dA b0 ad S0 5 [some (.ref 1)] [] h := by
  have key := wit_M (b := (fun v : (wSt) => fX7_takeDigits_l5 v )) (KE := KE) (G := fun v => wM p l e (wR 1) s m args below meth c 0 0 (wE below args s D dA b0 ad S0 F) 1 D dA b0 ad S0 5 [some (.ref 1)] [] v) (fun v K hN hE hf => pX7_takeDigits_l5b X hr  (fun  nh hz => hN nh hz) (fun z0 hz => hX0 z0 (hE _ hz)) hf)
  exact fun n h hf => key n h hf
set_option maxRecDepth 4000 in
theorem pX7_takeDigits_b100 (X : wCx p s m args meth c RX7 cX7_takeDigits 1 D dA b0 ad) (hr : meth.sig.returnType = none) {h : wSt} {w1 : Int32} {K : wSt → Prop} (hT : ∀ (h2 : wSt), K h2 → F none h2)  (hf : wok (fX7_takeDigits_b100 h w1) K) : wM p l e (wR 1) s m args below meth c 0 0 (wE below args s D dA b0 ad S0 F) 1 D dA b0 ad S0 100 [none] [.int w1, .ref 1] h := by
  unfold fX7_takeDigits_b100 at hf
  refine w_putI X dX7_takeDigits_100 rfl fp_X7_26 S0_1 rfl ?_
  refine w_nmh (fun yh27 eyh27 => ?_)
  have hf := wok_l hf eyh27
  exact w_vret X dX7_takeDigits_103 hr (hT _ (wok_s hf))
set_option maxRecDepth 4000 in
theorem pX7_takeDigits_b0 (X : wCx p s m args meth c RX7 cX7_takeDigits 1 D dA b0 ad) (hr : meth.sig.returnType = none) {h : wSt} {K : wSt → Prop} (hT : ∀ (h2 : wSt), K h2 → F none h2) (hf : wok (fX7_takeDigits h ) K) : wM p l e (wR 1) s m args below meth c 0 0 (wE below args s D dA b0 ad S0 F) 1 D dA b0 ad S0 0 [some (.ref 1)] [] h := by
  unfold fX7_takeDigits at hf
  refine w_aload_n X dX7_takeDigits_0 rfl rfl rfl ?_
  refine w_iconst X dX7_takeDigits_1 rfl ci_0 ?_
  refine w_putI X dX7_takeDigits_2 rfl fp_X7_52 S0_1 rfl ?_
  refine w_nmh (fun yh21 eyh21 => ?_)
  have hf := wok_l hf eyh21
  obtain ⟨ye25, hye25, hf⟩ := wok_b hf
  refine pX7_takeDigits_l5 X hr  (KE := fun z => ye25 = z) ?_ 3000 _ ⟨ye25, hye25, rfl⟩
  · intro yz26 hz
    subst hz
    refine w_aload_n X dX7_takeDigits_81 rfl rfl rfl ?_
    refine w_aload_n X dX7_takeDigits_82 rfl rfl rfl ?_
    refine w_getI X dX7_takeDigits_83 rfl fl_X7_17 S0_1 rfl ?_
    refine w_aload_n X dX7_takeDigits_86 rfl rfl rfl ?_
    refine w_getI X dX7_takeDigits_87 rfl fl_X7_29 S0_1 rfl ?_
    refine w_isub X dX7_takeDigits_90 rfl ?_
    refine w_iconst X dX7_takeDigits_91 rfl ci_4 ?_
    refine w_icmp_gt X dX7_takeDigits_92 rfl (t := 99) rfl (fun hc => ?_) (fun hc => ?_)
    · have hf := wok_t hf hc
      refine w_iconst X dX7_takeDigits_99 rfl ci_4 ?_
      refine w_fg (ls2 := [none]) trivial ?_
      exact pX7_takeDigits_b100 X hr  hT hf
    · have hf := wok_f hf hc
      refine w_iconst X dX7_takeDigits_95 rfl ci_2 ?_
      refine w_goto X dX7_takeDigits_96 (t := 100) rfl ?_
      refine w_fg (ls2 := [none]) trivial ?_
      exact pX7_takeDigits_b100 X hr  hT hf
set_option maxRecDepth 4000 in
theorem kX7_takeDigits (l : Launch) {h : wSt} {res : wSt} (hf : fX7_takeDigits h  = some res) : wC l yX7_takeDigits cX7_takeDigits 1 none 1 S0 [.ref 1] h (wFV (fun b => res = b)) := by
  refine w_meth2 0 (by decide) (Nat.le_of_ble_eq_true rfl) (ls := [some (.ref 1)]) rfl ?_
  intro p e s m args below meth c D dA b0 ad X hr
  exact pX7_takeDigits_b0 X hr  (K := fun z => res = z) (fun h2 hz => ⟨rfl, hz⟩) ⟨res, hf, rfl⟩
set_option maxRecDepth 4000 in
theorem pX7_next_b55_16 (X : wCx p s m args meth c RX7 cX7_next 2 D dA b0 ad) (hr : meth.sig.returnType = none) {h : wSt} {K : (wSt) ⊕ ((wSt)) → Prop} (hN : ∀ (nh : wSt), K (.inl nh) → wM p l e (wR 5) s m args below meth c 0 0 (wE below args s D dA b0 ad S0 F) 2 D dA b0 ad S0 16 [some (.ref 1), none] [] nh) (hX0 : ∀ (nh : wSt), K (.inr nh) → wM p l e (wR 5) s m args below meth c 0 0 (wE below args s D dA b0 ad S0 F) 2 D dA b0 ad S0 68 [some (.ref 1), none] [] nh) (hf : wok (fX7_next_b55_16 h ) K) : wM p l e (wR 5) s m args below meth c 0 0 (wE below args s D dA b0 ad S0 F) 2 D dA b0 ad S0 55 [some (.ref 1), none] [] h := by
  unfold fX7_next_b55_16 at hf
  refine w_aload_n X dX7_next_55 rfl rfl rfl ?_
  refine w_dup X dX7_next_56 rfl rfl ?_
  refine w_getI X dX7_next_57 rfl fl_X7_29 S0_1 rfl ?_
  refine w_iconst X dX7_next_60 rfl ci_1 ?_
  refine w_iadd X dX7_next_61 rfl ?_
  refine w_putI X dX7_next_62 rfl fp_X7_29 S0_1 rfl ?_
  refine w_nmh (fun yh23 eyh23 => ?_)
  have hf := wok_l hf eyh23
  refine w_goto X dX7_next_65 (t := 16) rfl ?_
  exact hN _ (wok_s hf)
set_option maxRecDepth 4000 in
theorem pX7_next_l16b (X : wCx p s m args meth c RX7 cX7_next 2 D dA b0 ad) (hr : meth.sig.returnType = none) {h : wSt} {K : (wSt) ⊕ ((wSt)) → Prop} (hN : ∀ (nh : wSt), K (.inl nh) → wM p l e (wR 5) s m args below meth c 0 0 (wE below args s D dA b0 ad S0 F) 2 D dA b0 ad S0 16 [some (.ref 1), none] [] nh) (hX0 : ∀ (nh : wSt), K (.inr nh) → wM p l e (wR 5) s m args below meth c 0 0 (wE below args s D dA b0 ad S0 F) 2 D dA b0 ad S0 68 [some (.ref 1), none] [] nh) (hf : wok (fX7_next_l16 h ) K) : wM p l e (wR 5) s m args below meth c 0 0 (wE below args s D dA b0 ad S0 F) 2 D dA b0 ad S0 16 [some (.ref 1), none] [] h := by
  unfold fX7_next_l16 at hf
  refine w_aload_n X dX7_next_16 rfl rfl rfl ?_
  refine w_getI X dX7_next_17 rfl fl_X7_29 S0_1 rfl ?_
  refine w_aload_n X dX7_next_20 rfl rfl rfl ?_
  refine w_getI X dX7_next_21 rfl fl_X7_13 S0_1 rfl ?_
  refine w_icmp_ge X dX7_next_24 rfl (t := 68) rfl (fun hc => ?_) (fun hc => ?_)
  · have hf := wok_t hf hc
    exact hX0 _ (wok_s hf)
  · have hf := wok_f hf hc
    refine w_aload_n X dX7_next_27 rfl rfl rfl ?_
    refine w_getR X dX7_next_28 rfl fl_X7_9 S0_1 rfl ?_
    refine w_aload_n X dX7_next_31 rfl rfl rfl ?_
    refine w_getI X dX7_next_32 rfl fl_X7_29 S0_1 rfl ?_
    obtain ⟨yhg22, hf⟩ := wok_g hf
    refine w_bald X dX7_next_35 rfl (j := (h.1 1 3).toNatClampNeg) rfl S0_2 yhg22 ?_
    refine w_bipush X dX7_next_36 rfl cb_10 ?_
    refine w_icmp_eq X dX7_next_38 rfl (t := 55) rfl (fun hc => ?_) (fun hc => ?_)
    · have hf := wok_t hf hc
      exact pX7_next_b55_16 X hr  hN hX0 hf
    · have hf := wok_f hf hc
      refine w_aload_n X dX7_next_41 rfl rfl rfl ?_
      refine w_getR X dX7_next_42 rfl fl_X7_9 S0_1 rfl ?_
      refine w_aload_n X dX7_next_45 rfl rfl rfl ?_
      refine w_getI X dX7_next_46 rfl fl_X7_29 S0_1 rfl ?_
      refine w_bald X dX7_next_49 rfl (j := (h.1 1 3).toNatClampNeg) rfl S0_2 yhg22 ?_
      refine w_bipush X dX7_next_50 rfl cb_32 ?_
      refine w_icmp_ne X dX7_next_52 rfl (t := 68) rfl (fun hc => ?_) (fun hc => ?_)
      · have hf := wok_f hf hc
        exact hX0 _ (wok_s hf)
      · have hf := wok_t hf hc
        exact pX7_next_b55_16 X hr  hN hX0 hf
set_option maxRecDepth 4000 in
theorem pX7_next_l16 (X : wCx p s m args meth c RX7 cX7_next 2 D dA b0 ad) (hr : meth.sig.returnType = none)  {KE : (wSt) → Prop} (hX0 : ∀ (nh : wSt), KE (nh) → wM p l e (wR 5) s m args below meth c 0 0 (wE below args s D dA b0 ad S0 F) 2 D dA b0 ad S0 68 [some (.ref 1), none] [] nh) : ∀ (n : Nat) (h : wSt), wok (wit (fun v : (wSt) => fX7_next_l16 v ) n h) KE → wM p l e (wR 5) s m args below meth c 0 0 (wE below args s D dA b0 ad S0 F) 2 D dA b0 ad S0 16 [some (.ref 1), none] [] h := by
  have key := wit_M (b := (fun v : (wSt) => fX7_next_l16 v )) (KE := KE) (G := fun v => wM p l e (wR 5) s m args below meth c 0 0 (wE below args s D dA b0 ad S0 F) 2 D dA b0 ad S0 16 [some (.ref 1), none] [] v) (fun v K hN hE hf => pX7_next_l16b X hr  (fun  nh hz => hN nh hz) (fun z0 hz => hX0 z0 (hE _ hz)) hf)
  exact fun n h hf => key n h hf
set_option maxRecDepth 4000 in
theorem pX7_next_b157 (X : wCx p s m args meth c RX7 cX7_next 2 D dA b0 ad) (hr : meth.sig.returnType = none) {h : wSt} {w1 : Int32} {K : wSt → Prop} (hT : ∀ (h2 : wSt), K h2 → F none h2)  (hf : wok (fX7_next_b157 h w1) K) : wM p l e (wR 5) s m args below meth c 0 0 (wE below args s D dA b0 ad S0 F) 2 D dA b0 ad S0 157 [some (.ref 1), none] [.int w1, .ref 1] h := by
  unfold fX7_next_b157 at hf
  refine w_putI X dX7_next_157 rfl fp_X7_26 S0_1 rfl ?_
  refine w_nmh (fun yh30 eyh30 => ?_)
  have hf := wok_l hf eyh30
  refine w_aload_n X dX7_next_160 rfl rfl rfl ?_
  refine w_aload_n X dX7_next_161 rfl rfl rfl ?_
  refine w_getI X dX7_next_162 rfl fl_X7_29 S0_1 rfl ?_
  refine w_iconst X dX7_next_165 rfl ci_1 ?_
  refine w_iadd X dX7_next_166 rfl ?_
  refine w_putI X dX7_next_167 rfl fp_X7_17 S0_1 rfl ?_
  refine w_nmh (fun yh31 eyh31 => ?_)
  have hf := wok_l hf eyh31
  exact w_vret X dX7_next_170 hr (hT _ (wok_s hf))
set_option maxRecDepth 4000 in
theorem pX7_next_b141 (X : wCx p s m args meth c RX7 cX7_next 2 D dA b0 ad) (hr : meth.sig.returnType = none) {h : wSt} {v1 : Int32} {K : wSt → Prop} (hT : ∀ (h2 : wSt), K h2 → F none h2)  (hf : wok (fX7_next_b141 h v1) K) : wM p l e (wR 5) s m args below meth c 0 0 (wE below args s D dA b0 ad S0 F) 2 D dA b0 ad S0 141 [some (.ref 1), some (.int v1)] [] h := by
  unfold fX7_next_b141 at hf
  refine w_aload_n X dX7_next_141 rfl rfl rfl ?_
  refine w_ldcS X dX7_next_142 rfl (i := 0) (tx := "()<=+-*;") (by decide +kernel) ?_
  refine w_iload_n X dX7_next_144 rfl rfl rfl ?_
  refine w_i2c X dX7_next_145 rfl ?_
  obtain ⟨yr29, eyr29, hf⟩ := wok_b hf
  refine w_callVS X dX7_next_146 rfl vs_X7_40 (kJ0_indexOf_0f7a4 l (by decide) eyr29) (by decide) (As := [.int ((v1.toUInt32 % 65536).toInt32)]) (st := [.ref 1]) rfl rfl (Nat.le_of_ble_eq_true rfl) ⟨Nat.le_of_ble_eq_true rfl, Nat.le_of_ble_eq_true rfl⟩ ⟨Nat.zero_le _, Nat.zero_le _⟩ (fun r h2 hF => ?_)
  obtain ⟨_, rfl, rfl, rfl⟩ := hF
  show wM p l e (wR 5) s m args below meth c 0 0 (wE below args s D dA b0 ad S0 F) 2 D dA b0 ad S0 149 [some (.ref 1), some (.int v1)] [.int yr29, .ref 1] h
  refine w_if_lt X dX7_next_149 rfl (t := 156) rfl (fun hc => ?_) (fun hc => ?_)
  · have hf := wok_t hf hc
    refine w_iconst X dX7_next_156 rfl ci_4 ?_
    refine w_fg (ls2 := [some (.ref 1), none]) ⟨rfl, trivial⟩ ?_
    exact pX7_next_b157 X hr  hT hf
  · have hf := wok_f hf hc
    refine w_iconst X dX7_next_152 rfl ci_3 ?_
    refine w_goto X dX7_next_153 (t := 157) rfl ?_
    refine w_fg (ls2 := [some (.ref 1), none]) ⟨rfl, trivial⟩ ?_
    exact pX7_next_b157 X hr  hT hf
set_option maxRecDepth 4000 in
theorem pX7_next_b122 (X : wCx p s m args meth c RX7 cX7_next 2 D dA b0 ad) (hr : meth.sig.returnType = none) {h : wSt} {v1 : Int32} {K : wSt → Prop} (hT : ∀ (h2 : wSt), K h2 → F none h2)  (hf : wok (fX7_next_b122 h v1) K) : wM p l e (wR 5) s m args below meth c 0 0 (wE below args s D dA b0 ad S0 F) 2 D dA b0 ad S0 122 [some (.ref 1), some (.int v1)] [] h := by
  unfold fX7_next_b122 at hf
  refine w_iload_n X dX7_next_122 rfl rfl rfl ?_
  refine w_bipush X dX7_next_123 rfl cb_48 ?_
  refine w_icmp_lt X dX7_next_125 rfl (t := 141) rfl (fun hc => ?_) (fun hc => ?_)
  · have hf := wok_t hf hc
    exact pX7_next_b141 X hr  hT hf
  · have hf := wok_f hf hc
    refine w_iload_n X dX7_next_128 rfl rfl rfl ?_
    refine w_bipush X dX7_next_129 rfl cb_57 ?_
    refine w_icmp_gt X dX7_next_131 rfl (t := 141) rfl (fun hc => ?_) (fun hc => ?_)
    · have hf := wok_t hf hc
      exact pX7_next_b141 X hr  hT hf
    · have hf := wok_f hf hc
      refine w_aload_n X dX7_next_134 rfl rfl rfl ?_
      obtain ⟨yr32, eyr32, hf⟩ := wok_b hf
      refine w_callV X dX7_next_135 rfl vl_X7_35 (kX7_takeDigits l  eyr32) S0_1 (As := []) (st := []) rfl rfl (Nat.le_of_ble_eq_true rfl) ⟨Nat.le_of_ble_eq_true rfl, Nat.le_of_ble_eq_true rfl⟩ ⟨Nat.zero_le _, Nat.zero_le _⟩ (fun r h2 hF => ?_)
      obtain ⟨rfl, rfl⟩ := hF
      show wM p l e (wR 5) s m args below meth c 0 0 (wE below args s D dA b0 ad S0 F) 2 D dA b0 ad S0 138 [some (.ref 1), some (.int v1)] [] yr32
      refine w_goto X dX7_next_138 (t := 170) rfl ?_
      exact w_vret X dX7_next_170 hr (hT _ (wok_s hf))
set_option maxRecDepth 4000 in
theorem pX7_next_b0 (X : wCx p s m args meth c RX7 cX7_next 2 D dA b0 ad) (hr : meth.sig.returnType = none) {h : wSt} {K : wSt → Prop} (hT : ∀ (h2 : wSt), K h2 → F none h2) (hf : wok (fX7_next h ) K) : wM p l e (wR 5) s m args below meth c 0 0 (wE below args s D dA b0 ad S0 F) 2 D dA b0 ad S0 0 [some (.ref 1), none] [] h := by
  unfold fX7_next at hf
  refine w_aload_n X dX7_next_0 rfl rfl rfl ?_
  refine w_getI X dX7_next_1 rfl fl_X7_20 S0_1 rfl ?_
  refine w_if_eq X dX7_next_4 rfl (t := 8) rfl (fun hc => ?_) (fun hc => ?_)
  · have hf := wok_t hf hc
    refine w_aload_n X dX7_next_8 rfl rfl rfl ?_
    refine w_aload_n X dX7_next_9 rfl rfl rfl ?_
    refine w_getI X dX7_next_10 rfl fl_X7_17 S0_1 rfl ?_
    refine w_putI X dX7_next_13 rfl fp_X7_29 S0_1 rfl ?_
    refine w_nmh (fun yh21 eyh21 => ?_)
    have hf := wok_l hf eyh21
    obtain ⟨ye24, hye24, hf⟩ := wok_b hf
    refine pX7_next_l16 X hr  (KE := fun z => ye24 = z) ?_ 3000 _ ⟨ye24, hye24, rfl⟩
    · intro yz25 hz
      subst hz
      refine w_aload_n X dX7_next_68 rfl rfl rfl ?_
      refine w_aload_n X dX7_next_69 rfl rfl rfl ?_
      refine w_getI X dX7_next_70 rfl fl_X7_29 S0_1 rfl ?_
      refine w_putI X dX7_next_73 rfl fp_X7_17 S0_1 rfl ?_
      refine w_nmh (fun yh26 eyh26 => ?_)
      have hf := wok_l hf eyh26
      refine w_aload_n X dX7_next_76 rfl rfl rfl ?_
      refine w_getI X dX7_next_77 rfl fl_X7_29 S0_1 rfl ?_
      refine w_aload_n X dX7_next_80 rfl rfl rfl ?_
      refine w_getI X dX7_next_81 rfl fl_X7_13 S0_1 rfl ?_
      refine w_icmp_lt X dX7_next_84 rfl (t := 93) rfl (fun hc => ?_) (fun hc => ?_)
      · have hf := wok_t hf hc
        refine w_aload_n X dX7_next_93 rfl rfl rfl ?_
        refine w_getR X dX7_next_94 rfl fl_X7_9 S0_1 rfl ?_
        refine w_aload_n X dX7_next_97 rfl rfl rfl ?_
        refine w_getI X dX7_next_98 rfl fl_X7_29 S0_1 rfl ?_
        obtain ⟨yhg27, hf⟩ := wok_g hf
        refine w_bald X dX7_next_101 rfl (j := (yh26.1 1 3).toNatClampNeg) rfl S0_2 yhg27 ?_
        refine w_topi (fun yx28 eyx28 => ?_)
        have hf := wok_l hf eyx28
        refine w_istore_n X dX7_next_102 rfl rfl rfl (Nat.le_of_ble_eq_true rfl) (ls' := [some (.ref 1), some (.int yx28)]) rfl ?_
        refine w_iload_n X dX7_next_103 rfl rfl rfl ?_
        refine w_bipush X dX7_next_104 rfl cb_97 ?_
        refine w_icmp_lt X dX7_next_106 rfl (t := 122) rfl (fun hc => ?_) (fun hc => ?_)
        · have hf := wok_t hf hc
          exact pX7_next_b122 X hr  hT hf
        · have hf := wok_f hf hc
          refine w_iload_n X dX7_next_109 rfl rfl rfl ?_
          refine w_bipush X dX7_next_110 rfl cb_122 ?_
          refine w_icmp_gt X dX7_next_112 rfl (t := 122) rfl (fun hc => ?_) (fun hc => ?_)
          · have hf := wok_t hf hc
            exact pX7_next_b122 X hr  hT hf
          · have hf := wok_f hf hc
            refine w_aload_n X dX7_next_115 rfl rfl rfl ?_
            obtain ⟨yr33, eyr33, hf⟩ := wok_b hf
            refine w_callV X dX7_next_116 rfl vl_X7_32 (kX7_takeLetters l  eyr33) S0_1 (As := []) (st := []) rfl rfl (Nat.le_of_ble_eq_true rfl) ⟨Nat.le_of_ble_eq_true rfl, Nat.le_of_ble_eq_true rfl⟩ ⟨Nat.zero_le _, Nat.zero_le _⟩ (fun r h2 hF => ?_)
            obtain ⟨rfl, rfl⟩ := hF
            show wM p l e (wR 5) s m args below meth c 0 0 (wE below args s D dA b0 ad S0 F) 2 D dA b0 ad S0 119 [some (.ref 1), some (.int yx28)] [] yr33
            refine w_goto X dX7_next_119 (t := 170) rfl ?_
            exact w_vret X dX7_next_170 hr (hT _ (wok_s hf))
      · have hf := wok_f hf hc
        refine w_aload_n X dX7_next_87 rfl rfl rfl ?_
        refine w_iconst X dX7_next_88 rfl ci_0 ?_
        refine w_putI X dX7_next_89 rfl fp_X7_26 S0_1 rfl ?_
        refine w_nmh (fun yh34 eyh34 => ?_)
        have hf := wok_l hf eyh34
        exact w_vret X dX7_next_92 hr (hT _ (wok_s hf))
  · have hf := wok_f hf hc
    exact w_vret X dX7_next_7 hr (hT _ (wok_s hf))
set_option maxRecDepth 4000 in
theorem kX7_next (l : Launch) {h : wSt} {res : wSt} (hf : fX7_next h  = some res) : wC l yX7_next cX7_next 2 none 5 S0 [.ref 1] h (wFV (fun b => res = b)) := by
  refine w_meth2 1 (by decide) (Nat.le_of_ble_eq_true rfl) (ls := [some (.ref 1), none]) rfl ?_
  intro p e s m args below meth c D dA b0 ad X hr
  exact pX7_next_b0 X hr  (K := fun z => res = z) (fun h2 hz => ⟨rfl, hz⟩) ⟨res, hf, rfl⟩
set_option maxRecDepth 4000 in
theorem pX7_isSound_b0 (X : wCx p s m args meth c RX7 cX7_isSound 1 D dA b0 ad) (hr : meth.sig.returnType = (some .boolean)) {h : wSt} {K : Bool → Prop} (hT : ∀ (x : Bool), K x → F (some (.int (wb x))) h) (hf : wok (fX7_isSound h ) K) : wM p l e (wR 1) s m args below meth c 0 0 (wE below args s D dA b0 ad S0 F) 1 D dA b0 ad S0 0 [some (.ref 1)] [] h := by
  unfold fX7_isSound at hf
  refine w_aload_n X dX7_isSound_0 rfl rfl rfl ?_
  refine w_getI X dX7_isSound_1 rfl fl_X7_20 S0_1 rfl ?_
  refine w_if_ne X dX7_isSound_4 rfl (t := 11) rfl (fun hc => ?_) (fun hc => ?_)
  · have hf := wok_f hf hc
    refine w_iconst X dX7_isSound_11 rfl ci_0 ?_
    exact w_zret X dX7_isSound_12 hr rfl (hT false (wok_s hf))
  · have hf := wok_t hf hc
    refine w_iconst X dX7_isSound_7 rfl ci_1 ?_
    refine w_goto X dX7_isSound_8 (t := 12) rfl ?_
    exact w_zret X dX7_isSound_12 hr rfl (hT true (wok_s hf))
set_option maxRecDepth 4000 in
theorem kX7_isSound (l : Launch) {h : wSt} {res : Bool} (hf : fX7_isSound h  = some res) : wC l yX7_isSound cX7_isSound 1 (some .boolean) 1 S0 [.ref 1] h (wFZ (fun a b => res = a ∧ h = b)) := by
  refine w_meth2 0 (by decide) (Nat.le_of_ble_eq_true rfl) (ls := [some (.ref 1)]) rfl ?_
  intro p e s m args below meth c D dA b0 ad X hr
  exact pX7_isSound_b0 X hr  (K := fun z => res = z) (fun x hz => ⟨x, rfl, hz, rfl⟩) ⟨res, hf, rfl⟩
set_option maxRecDepth 4000 in
theorem pX7_isWord_l39b (X : wCx p s m args meth c RX7 cX7_isWord 3 D dA b0 ad) (hr : meth.sig.returnType = (some .boolean)) {h : wSt} {i0 : Nat} {v2 : Int32} (hi0 : i0 < 25) {K : (Int32) ⊕ ((Unit) ⊕ (Bool)) → Prop} (hN : ∀ (n2 : Int32), K (.inl n2) → wM p l e (wR 5) s m args below meth c 0 0 (wE below args s D dA b0 ad S0 F) 3 D dA b0 ad S0 39 [some (.ref 1), some (.ref (100000 + i0)), some (.int n2)] [] h) (hX0 : K (.inr (.inl ())) → wM p l e (wR 5) s m args below meth c 0 0 (wE below args s D dA b0 ad S0 F) 3 D dA b0 ad S0 74 [none, none, none] [] h) (hT : ∀ (x : Bool), K (.inr (.inr x)) → F (some (.int (wb x))) h) (hf : wok (fX7_isWord_l39 h i0 v2) K) : wM p l e (wR 5) s m args below meth c 0 0 (wE below args s D dA b0 ad S0 F) 3 D dA b0 ad S0 39 [some (.ref 1), some (.ref (100000 + i0)), some (.int v2)] [] h := by
  unfold fX7_isWord_l39 at hf
  refine w_iload_n X dX7_isWord_39 rfl rfl rfl ?_
  refine w_aload_n X dX7_isWord_40 rfl rfl rfl ?_
  obtain ⟨yr22, eyr22, hf⟩ := wok_b hf
  refine w_callVS X dX7_isWord_41 rfl vs_X7_55 (kJ0_length_8abf5 l hi0 eyr22) hi0 (As := []) (st := [.int v2]) rfl rfl (Nat.le_of_ble_eq_true rfl) ⟨Nat.le_of_ble_eq_true rfl, Nat.le_of_ble_eq_true rfl⟩ ⟨Nat.zero_le _, Nat.zero_le _⟩ (fun r h2 hF => ?_)
  obtain ⟨_, rfl, rfl, rfl⟩ := hF
  show wM p l e (wR 5) s m args below meth c 0 0 (wE below args s D dA b0 ad S0 F) 3 D dA b0 ad S0 44 [some (.ref 1), some (.ref (100000 + i0)), some (.int v2)] [.int yr22, .int v2] h
  refine w_icmp_ge X dX7_isWord_44 rfl (t := 74) rfl (fun hc => ?_) (fun hc => ?_)
  · have hf := wok_t hf hc
    refine w_fg (ls2 := [none, none, none]) trivial ?_
    exact hX0 (wok_s hf)
  · have hf := wok_f hf hc
    refine w_aload_n X dX7_isWord_47 rfl rfl rfl ?_
    refine w_getR X dX7_isWord_48 rfl fl_X7_9 S0_1 rfl ?_
    refine w_aload_n X dX7_isWord_51 rfl rfl rfl ?_
    refine w_getI X dX7_isWord_52 rfl fl_X7_29 S0_1 rfl ?_
    refine w_iload_n X dX7_isWord_55 rfl rfl rfl ?_
    refine w_iadd X dX7_isWord_56 rfl ?_
    obtain ⟨yhg23, hf⟩ := wok_g hf
    refine w_bald X dX7_isWord_57 rfl (j := ((h.1 1 3) + v2).toNatClampNeg) rfl S0_2 yhg23 ?_
    refine w_aload_n X dX7_isWord_58 rfl rfl rfl ?_
    refine w_iload_n X dX7_isWord_59 rfl rfl rfl ?_
    obtain ⟨yr24, eyr24, hf⟩ := wok_b hf
    refine w_callVS X dX7_isWord_60 rfl vs_X7_58 (kJ0_charAt_5068e l hi0 eyr24) hi0 (As := [.int v2]) (st := [.int (h.1 2 ((h.1 1 3) + v2).toNatClampNeg)]) rfl rfl (Nat.le_of_ble_eq_true rfl) ⟨Nat.le_of_ble_eq_true rfl, Nat.le_of_ble_eq_true rfl⟩ ⟨Nat.zero_le _, Nat.zero_le _⟩ (fun r h2 hF => ?_)
    obtain ⟨_, rfl, rfl, rfl⟩ := hF
    show wM p l e (wR 5) s m args below meth c 0 0 (wE below args s D dA b0 ad S0 F) 3 D dA b0 ad S0 63 [some (.ref 1), some (.ref (100000 + i0)), some (.int v2)] [.int yr24, .int (h.1 2 ((h.1 1 3) + v2).toNatClampNeg)] h
    refine w_icmp_eq X dX7_isWord_63 rfl (t := 68) rfl (fun hc => ?_) (fun hc => ?_)
    · have hf := wok_t hf hc
      refine w_iinc X dX7_isWord_68 rfl (v := (v2 + 1)) rfl rfl (Nat.le_of_ble_eq_true rfl) (cinc_1 _) (ls' := [some (.ref 1), some (.ref (100000 + i0)), some (.int (v2 + 1))]) rfl ?_
      refine w_goto X dX7_isWord_71 (t := 39) rfl ?_
      exact hN _ (wok_s hf)
    · have hf := wok_f hf hc
      refine w_iconst X dX7_isWord_66 rfl ci_0 ?_
      exact w_zret X dX7_isWord_67 hr rfl (hT false (wok_s hf))
set_option maxRecDepth 4000 in
theorem pX7_isWord_l39 (X : wCx p s m args meth c RX7 cX7_isWord 3 D dA b0 ad) (hr : meth.sig.returnType = (some .boolean)) {h : wSt} {i0 : Nat} (hi0 : i0 < 25) {KE : (Unit) ⊕ (Bool) → Prop} (hX0 : KE ((.inl ())) → wM p l e (wR 5) s m args below meth c 0 0 (wE below args s D dA b0 ad S0 F) 3 D dA b0 ad S0 74 [none, none, none] [] h) (hT : ∀ (x : Bool), KE ((.inr x)) → F (some (.int (wb x))) h) : ∀ (n : Nat) (v2 : Int32), wok (wit (fun v : (Int32) => fX7_isWord_l39 h i0 v) n v2) KE → wM p l e (wR 5) s m args below meth c 0 0 (wE below args s D dA b0 ad S0 F) 3 D dA b0 ad S0 39 [some (.ref 1), some (.ref (100000 + i0)), some (.int v2)] [] h := by
  have key := wit_M (b := (fun v : (Int32) => fX7_isWord_l39 h i0 v)) (KE := KE) (G := fun v => wM p l e (wR 5) s m args below meth c 0 0 (wE below args s D dA b0 ad S0 F) 3 D dA b0 ad S0 39 [some (.ref 1), some (.ref (100000 + i0)), some (.int v)] [] h) (fun v K hN hE hf => pX7_isWord_l39b X hr hi0 (fun n2 hz => hN n2 hz) (fun  hz => hX0  (hE _ hz)) (fun z0 hz => hT z0 (hE _ hz)) hf)
  exact fun n v2 hf => key n v2 hf
set_option maxRecDepth 4000 in
theorem pX7_isWord_b0 (X : wCx p s m args meth c RX7 cX7_isWord 3 D dA b0 ad) (hr : meth.sig.returnType = (some .boolean)) {h : wSt} {i0 : Nat} (hi0 : i0 < 25) {K : Bool → Prop} (hT : ∀ (x : Bool), K x → F (some (.int (wb x))) h) (hf : wok (fX7_isWord h i0) K) : wM p l e (wR 5) s m args below meth c 0 0 (wE below args s D dA b0 ad S0 F) 3 D dA b0 ad S0 0 [some (.ref 1), some (.ref (100000 + i0)), none] [] h := by
  unfold fX7_isWord at hf
  refine w_aload_n X dX7_isWord_0 rfl rfl rfl ?_
  refine w_getI X dX7_isWord_1 rfl fl_X7_26 S0_1 rfl ?_
  refine w_iconst X dX7_isWord_4 rfl ci_1 ?_
  refine w_icmp_ne X dX7_isWord_5 rfl (t := 35) rfl (fun hc => ?_) (fun hc => ?_)
  · have hf := wok_f hf hc
    refine w_iconst X dX7_isWord_35 rfl ci_0 ?_
    exact w_zret X dX7_isWord_36 hr rfl (hT false (wok_s hf))
  · have hf := wok_t hf hc
    refine w_aload_n X dX7_isWord_8 rfl rfl rfl ?_
    refine w_getI X dX7_isWord_9 rfl fl_X7_17 S0_1 rfl ?_
    refine w_aload_n X dX7_isWord_12 rfl rfl rfl ?_
    refine w_getI X dX7_isWord_13 rfl fl_X7_29 S0_1 rfl ?_
    refine w_isub X dX7_isWord_16 rfl ?_
    refine w_aload_n X dX7_isWord_17 rfl rfl rfl ?_
    obtain ⟨yr21, eyr21, hf⟩ := wok_b hf
    refine w_callVS X dX7_isWord_18 rfl vs_X7_55 (kJ0_length_8abf5 l hi0 eyr21) hi0 (As := []) (st := [.int ((h.1 1 4) - (h.1 1 3))]) rfl rfl (Nat.le_of_ble_eq_true rfl) ⟨Nat.le_of_ble_eq_true rfl, Nat.le_of_ble_eq_true rfl⟩ ⟨Nat.zero_le _, Nat.zero_le _⟩ (fun r h2 hF => ?_)
    obtain ⟨_, rfl, rfl, rfl⟩ := hF
    show wM p l e (wR 5) s m args below meth c 0 0 (wE below args s D dA b0 ad S0 F) 3 D dA b0 ad S0 21 [some (.ref 1), some (.ref (100000 + i0)), none] [.int yr21, .int ((h.1 1 4) - (h.1 1 3))] h
    refine w_icmp_ne X dX7_isWord_21 rfl (t := 35) rfl (fun hc => ?_) (fun hc => ?_)
    · have hf := wok_f hf hc
      refine w_iconst X dX7_isWord_35 rfl ci_0 ?_
      exact w_zret X dX7_isWord_36 hr rfl (hT false (wok_s hf))
    · have hf := wok_t hf hc
      refine w_aload_n X dX7_isWord_24 rfl rfl rfl ?_
      refine w_getI X dX7_isWord_25 rfl fl_X7_17 S0_1 rfl ?_
      refine w_aload_n X dX7_isWord_28 rfl rfl rfl ?_
      refine w_getI X dX7_isWord_29 rfl fl_X7_13 S0_1 rfl ?_
      refine w_icmp_le X dX7_isWord_32 rfl (t := 37) rfl (fun hc => ?_) (fun hc => ?_)
      · have hf := wok_t hf hc
        refine w_iconst X dX7_isWord_37 rfl ci_0 ?_
        refine w_istore_n X dX7_isWord_38 rfl rfl rfl (Nat.le_of_ble_eq_true rfl) (ls' := [some (.ref 1), some (.ref (100000 + i0)), some (.int 0)]) rfl ?_
        obtain ⟨ye25, hye25, hf⟩ := wok_b hf
        refine pX7_isWord_l39 X hr hi0 (KE := fun z => ye25 = z) ?_ ?_ 3000 _ ⟨ye25, hye25, rfl⟩
        · intro hz
          subst hz
          refine w_iconst X dX7_isWord_74 rfl ci_1 ?_
          exact w_zret X dX7_isWord_75 hr rfl (hT true (wok_s hf))
        · intro z hz
          subst hz
          exact hT _ (wok_s hf)
      · have hf := wok_f hf hc
        refine w_iconst X dX7_isWord_35 rfl ci_0 ?_
        exact w_zret X dX7_isWord_36 hr rfl (hT false (wok_s hf))
set_option maxRecDepth 4000 in
theorem kX7_isWord (l : Launch) {h : wSt} {i0 : Nat} (hi0 : i0 < 25) {res : Bool} (hf : fX7_isWord h i0 = some res) : wC l yX7_isWord cX7_isWord 3 (some .boolean) 5 S0 [.ref 1, .ref (100000 + i0)] h (wFZ (fun a b => res = a ∧ h = b)) := by
  refine w_meth2 1 (by decide) (Nat.le_of_ble_eq_true rfl) (ls := [some (.ref 1), some (.ref (100000 + i0)), none]) rfl ?_
  intro p e s m args below meth c D dA b0 ad X hr
  exact pX7_isWord_b0 X hr hi0 (K := fun z => res = z) (fun x hz => ⟨x, rfl, hz, rfl⟩) ⟨res, hf, rfl⟩
set_option maxRecDepth 4000 in
theorem pX7_isSign_b0 (X : wCx p s m args meth c RX7 cX7_isSign 2 D dA b0 ad) (hr : meth.sig.returnType = (some .boolean)) {h : wSt} {x0 : Int32} {K : Bool → Prop} (hT : ∀ (x : Bool), K x → F (some (.int (wb x))) h) (hf : wok (fX7_isSign h x0) K) : wM p l e (wR 1) s m args below meth c 0 0 (wE below args s D dA b0 ad S0 F) 2 D dA b0 ad S0 0 [some (.ref 1), some (.int x0)] [] h := by
  unfold fX7_isSign at hf
  refine w_aload_n X dX7_isSign_0 rfl rfl rfl ?_
  refine w_getI X dX7_isSign_1 rfl fl_X7_26 S0_1 rfl ?_
  refine w_iconst X dX7_isSign_4 rfl ci_3 ?_
  refine w_icmp_ne X dX7_isSign_5 rfl (t := 36) rfl (fun hc => ?_) (fun hc => ?_)
  · have hf := wok_f hf hc
    refine w_iconst X dX7_isSign_36 rfl ci_0 ?_
    exact w_zret X dX7_isSign_37 hr rfl (hT false (wok_s hf))
  · have hf := wok_t hf hc
    refine w_aload_n X dX7_isSign_8 rfl rfl rfl ?_
    refine w_getI X dX7_isSign_9 rfl fl_X7_29 S0_1 rfl ?_
    refine w_aload_n X dX7_isSign_12 rfl rfl rfl ?_
    refine w_getI X dX7_isSign_13 rfl fl_X7_13 S0_1 rfl ?_
    refine w_icmp_ge X dX7_isSign_16 rfl (t := 36) rfl (fun hc => ?_) (fun hc => ?_)
    · have hf := wok_t hf hc
      refine w_iconst X dX7_isSign_36 rfl ci_0 ?_
      exact w_zret X dX7_isSign_37 hr rfl (hT false (wok_s hf))
    · have hf := wok_f hf hc
      refine w_aload_n X dX7_isSign_19 rfl rfl rfl ?_
      refine w_getR X dX7_isSign_20 rfl fl_X7_9 S0_1 rfl ?_
      refine w_aload_n X dX7_isSign_23 rfl rfl rfl ?_
      refine w_getI X dX7_isSign_24 rfl fl_X7_29 S0_1 rfl ?_
      obtain ⟨yhg21, hf⟩ := wok_g hf
      refine w_bald X dX7_isSign_27 rfl (j := (h.1 1 3).toNatClampNeg) rfl S0_2 yhg21 ?_
      refine w_iload_n X dX7_isSign_28 rfl rfl rfl ?_
      refine w_icmp_ne X dX7_isSign_29 rfl (t := 36) rfl (fun hc => ?_) (fun hc => ?_)
      · have hf := wok_f hf hc
        refine w_iconst X dX7_isSign_36 rfl ci_0 ?_
        exact w_zret X dX7_isSign_37 hr rfl (hT false (wok_s hf))
      · have hf := wok_t hf hc
        refine w_iconst X dX7_isSign_32 rfl ci_1 ?_
        refine w_goto X dX7_isSign_33 (t := 37) rfl ?_
        exact w_zret X dX7_isSign_37 hr rfl (hT true (wok_s hf))
set_option maxRecDepth 4000 in
theorem kX7_isSign (l : Launch) {h : wSt} {x0 : Int32} {res : Bool} (hf : fX7_isSign h x0 = some res) : wC l yX7_isSign cX7_isSign 2 (some .boolean) 1 S0 [.ref 1, .int x0] h (wFZ (fun a b => res = a ∧ h = b)) := by
  refine w_meth2 0 (by decide) (Nat.le_of_ble_eq_true rfl) (ls := [some (.ref 1), some (.int x0)]) rfl ?_
  intro p e s m args below meth c D dA b0 ad X hr
  exact pX7_isSign_b0 X hr  (K := fun z => res = z) (fun x hz => ⟨x, rfl, hz, rfl⟩) ⟨res, hf, rfl⟩
set_option maxRecDepth 4000 in
theorem pX7_isNumber_b0 (X : wCx p s m args meth c RX7 cX7_isNumber 1 D dA b0 ad) (hr : meth.sig.returnType = (some .boolean)) {h : wSt} {K : Bool → Prop} (hT : ∀ (x : Bool), K x → F (some (.int (wb x))) h) (hf : wok (fX7_isNumber h ) K) : wM p l e (wR 1) s m args below meth c 0 0 (wE below args s D dA b0 ad S0 F) 1 D dA b0 ad S0 0 [some (.ref 1)] [] h := by
  unfold fX7_isNumber at hf
  refine w_aload_n X dX7_isNumber_0 rfl rfl rfl ?_
  refine w_getI X dX7_isNumber_1 rfl fl_X7_26 S0_1 rfl ?_
  refine w_iconst X dX7_isNumber_4 rfl ci_2 ?_
  refine w_icmp_ne X dX7_isNumber_5 rfl (t := 12) rfl (fun hc => ?_) (fun hc => ?_)
  · have hf := wok_f hf hc
    refine w_iconst X dX7_isNumber_12 rfl ci_0 ?_
    exact w_zret X dX7_isNumber_13 hr rfl (hT false (wok_s hf))
  · have hf := wok_t hf hc
    refine w_iconst X dX7_isNumber_8 rfl ci_1 ?_
    refine w_goto X dX7_isNumber_9 (t := 13) rfl ?_
    exact w_zret X dX7_isNumber_13 hr rfl (hT true (wok_s hf))
set_option maxRecDepth 4000 in
theorem kX7_isNumber (l : Launch) {h : wSt} {res : Bool} (hf : fX7_isNumber h  = some res) : wC l yX7_isNumber cX7_isNumber 1 (some .boolean) 1 S0 [.ref 1] h (wFZ (fun a b => res = a ∧ h = b)) := by
  refine w_meth2 0 (by decide) (Nat.le_of_ble_eq_true rfl) (ls := [some (.ref 1)]) rfl ?_
  intro p e s m args below meth c D dA b0 ad X hr
  exact pX7_isNumber_b0 X hr  (K := fun z => res = z) (fun x hz => ⟨x, rfl, hz, rfl⟩) ⟨res, hf, rfl⟩
set_option maxRecDepth 4000 in
theorem pX7_takeSign_b0 (X : wCx p s m args meth c RX7 cX7_takeSign 2 D dA b0 ad) (hr : meth.sig.returnType = none) {h : wSt} {x0 : Int32} {K : wSt → Prop} (hT : ∀ (h2 : wSt), K h2 → F none h2) (hf : wok (fX7_takeSign h x0) K) : wM p l e (wR 6) s m args below meth c 0 0 (wE below args s D dA b0 ad S0 F) 2 D dA b0 ad S0 0 [some (.ref 1), some (.int x0)] [] h := by
  unfold fX7_takeSign at hf
  refine w_aload_n X dX7_takeSign_0 rfl rfl rfl ?_
  refine w_iload_n X dX7_takeSign_1 rfl rfl rfl ?_
  obtain ⟨yr21, eyr21, hf⟩ := wok_b hf
  refine w_callV X dX7_takeSign_2 rfl vl_X7_110 (kX7_isSign l  eyr21) S0_1 (As := [.int x0]) (st := []) rfl rfl (Nat.le_of_ble_eq_true rfl) ⟨Nat.le_of_ble_eq_true rfl, Nat.le_of_ble_eq_true rfl⟩ ⟨Nat.zero_le _, Nat.zero_le _⟩ (fun r h2 hF => ?_)
  obtain ⟨_, rfl, rfl, rfl⟩ := hF
  show wM p l e (wR 6) s m args below meth c 0 0 (wE below args s D dA b0 ad S0 F) 2 D dA b0 ad S0 5 [some (.ref 1), some (.int x0)] [.int (wb yr21)] h
  refine w_if_eq X dX7_takeSign_5 rfl (t := 15) rfl (fun hc => ?_) (fun hc => ?_)
  · have hf := wok_f hf (wb_0 hc)
    refine w_aload_n X dX7_takeSign_15 rfl rfl rfl ?_
    refine w_iconst X dX7_takeSign_16 rfl ci_1 ?_
    obtain ⟨yr22, eyr22, hf⟩ := wok_b hf
    refine w_callV X dX7_takeSign_17 rfl vl_X7_106 (kX7_fail l  eyr22) S0_1 (As := [.int 1]) (st := []) rfl rfl (Nat.le_of_ble_eq_true rfl) ⟨Nat.le_of_ble_eq_true rfl, Nat.le_of_ble_eq_true rfl⟩ ⟨Nat.zero_le _, Nat.zero_le _⟩ (fun r h2 hF => ?_)
    obtain ⟨rfl, rfl⟩ := hF
    show wM p l e (wR 6) s m args below meth c 0 0 (wE below args s D dA b0 ad S0 F) 2 D dA b0 ad S0 20 [some (.ref 1), some (.int x0)] [] yr22
    exact w_vret X dX7_takeSign_20 hr (hT _ (wok_s hf))
  · have hf := wok_t hf (wb_n0 hc)
    refine w_aload_n X dX7_takeSign_8 rfl rfl rfl ?_
    obtain ⟨yr23, eyr23, hf⟩ := wok_b hf
    refine w_callV X dX7_takeSign_9 rfl vl_X7_23 (kX7_next l  eyr23) S0_1 (As := []) (st := []) rfl rfl (Nat.le_of_ble_eq_true rfl) ⟨Nat.le_of_ble_eq_true rfl, Nat.le_of_ble_eq_true rfl⟩ ⟨Nat.zero_le _, Nat.zero_le _⟩ (fun r h2 hF => ?_)
    obtain ⟨rfl, rfl⟩ := hF
    show wM p l e (wR 6) s m args below meth c 0 0 (wE below args s D dA b0 ad S0 F) 2 D dA b0 ad S0 12 [some (.ref 1), some (.int x0)] [] yr23
    refine w_goto X dX7_takeSign_12 (t := 20) rfl ?_
    exact w_vret X dX7_takeSign_20 hr (hT _ (wok_s hf))
set_option maxRecDepth 4000 in
theorem kX7_takeSign (l : Launch) {h : wSt} {x0 : Int32} {res : wSt} (hf : fX7_takeSign h x0 = some res) : wC l yX7_takeSign cX7_takeSign 2 none 6 S0 [.ref 1, .int x0] h (wFV (fun b => res = b)) := by
  refine w_meth2 0 (by decide) (Nat.le_of_ble_eq_true rfl) (ls := [some (.ref 1), some (.int x0)]) rfl ?_
  intro p e s m args below meth c D dA b0 ad X hr
  exact pX7_takeSign_b0 X hr  (K := fun z => res = z) (fun h2 hz => ⟨rfl, hz⟩) ⟨res, hf, rfl⟩
set_option maxRecDepth 4000 in
theorem pX7_rewind_b0 (X : wCx p s m args meth c RX7 cX7_rewind 1 D dA b0 ad) (hr : meth.sig.returnType = none) {h : wSt} {K : wSt → Prop} (hT : ∀ (h2 : wSt), K h2 → F none h2) (hf : wok (fX7_rewind h ) K) : wM p l e (wR 6) s m args below meth c 0 0 (wE below args s D dA b0 ad S0 F) 1 D dA b0 ad S0 0 [some (.ref 1)] [] h := by
  unfold fX7_rewind at hf
  refine w_aload_n X dX7_rewind_0 rfl rfl rfl ?_
  refine w_iconst X dX7_rewind_1 rfl ci_0 ?_
  refine w_putI X dX7_rewind_2 rfl fp_X7_17 S0_1 rfl ?_
  refine w_nmh (fun yh21 eyh21 => ?_)
  have hf := wok_l hf eyh21
  refine w_aload_n X dX7_rewind_5 rfl rfl rfl ?_
  refine w_iconst X dX7_rewind_6 rfl ci_0 ?_
  refine w_putI X dX7_rewind_7 rfl fp_X7_20 S0_1 rfl ?_
  refine w_nmh (fun yh22 eyh22 => ?_)
  have hf := wok_l hf eyh22
  refine w_aload_n X dX7_rewind_10 rfl rfl rfl ?_
  obtain ⟨yr23, eyr23, hf⟩ := wok_b hf
  refine w_callV X dX7_rewind_11 rfl vl_X7_23 (kX7_next l  eyr23) S0_1 (As := []) (st := []) rfl rfl (Nat.le_of_ble_eq_true rfl) ⟨Nat.le_of_ble_eq_true rfl, Nat.le_of_ble_eq_true rfl⟩ ⟨Nat.zero_le _, Nat.zero_le _⟩ (fun r h2 hF => ?_)
  obtain ⟨rfl, rfl⟩ := hF
  show wM p l e (wR 6) s m args below meth c 0 0 (wE below args s D dA b0 ad S0 F) 1 D dA b0 ad S0 14 [some (.ref 1)] [] yr23
  exact w_vret X dX7_rewind_14 hr (hT _ (wok_s hf))
set_option maxRecDepth 4000 in
theorem kX7_rewind (l : Launch) {h : wSt} {res : wSt} (hf : fX7_rewind h  = some res) : wC l yX7_rewind cX7_rewind 1 none 6 S0 [.ref 1] h (wFV (fun b => res = b)) := by
  refine w_meth2 0 (by decide) (Nat.le_of_ble_eq_true rfl) (ls := [some (.ref 1)]) rfl ?_
  intro p e s m args below meth c D dA b0 ad X hr
  exact pX7_rewind_b0 X hr  (K := fun z => res = z) (fun h2 hz => ⟨rfl, hz⟩) ⟨res, hf, rfl⟩
set_option maxRecDepth 4000 in
theorem pX7_isAtEnd_b0 (X : wCx p s m args meth c RX7 cX7_isAtEnd 1 D dA b0 ad) (hr : meth.sig.returnType = (some .boolean)) {h : wSt} {K : Bool → Prop} (hT : ∀ (x : Bool), K x → F (some (.int (wb x))) h) (hf : wok (fX7_isAtEnd h ) K) : wM p l e (wR 1) s m args below meth c 0 0 (wE below args s D dA b0 ad S0 F) 1 D dA b0 ad S0 0 [some (.ref 1)] [] h := by
  unfold fX7_isAtEnd at hf
  refine w_aload_n X dX7_isAtEnd_0 rfl rfl rfl ?_
  refine w_getI X dX7_isAtEnd_1 rfl fl_X7_26 S0_1 rfl ?_
  refine w_if_ne X dX7_isAtEnd_4 rfl (t := 11) rfl (fun hc => ?_) (fun hc => ?_)
  · have hf := wok_f hf hc
    refine w_iconst X dX7_isAtEnd_11 rfl ci_0 ?_
    exact w_zret X dX7_isAtEnd_12 hr rfl (hT false (wok_s hf))
  · have hf := wok_t hf hc
    refine w_iconst X dX7_isAtEnd_7 rfl ci_1 ?_
    refine w_goto X dX7_isAtEnd_8 (t := 12) rfl ?_
    exact w_zret X dX7_isAtEnd_12 hr rfl (hT true (wok_s hf))
set_option maxRecDepth 4000 in
theorem kX7_isAtEnd (l : Launch) {h : wSt} {res : Bool} (hf : fX7_isAtEnd h  = some res) : wC l yX7_isAtEnd cX7_isAtEnd 1 (some .boolean) 1 S0 [.ref 1] h (wFZ (fun a b => res = a ∧ h = b)) := by
  refine w_meth2 0 (by decide) (Nat.le_of_ble_eq_true rfl) (ls := [some (.ref 1)]) rfl ?_
  intro p e s m args below meth c D dA b0 ad X hr
  exact pX7_isAtEnd_b0 X hr  (K := fun z => res = z) (fun x hz => ⟨x, rfl, hz, rfl⟩) ⟨res, hf, rfl⟩
set_option maxRecDepth 4000 in
theorem pX7_isName_b185 (X : wCx p s m args meth c RX7 cX7_isName 2 D dA b0 ad) (hr : meth.sig.returnType = (some .boolean)) {h : wSt} {w0 : Int32} {K : Bool → Prop} (hT : ∀ (x : Bool), K x → F (some (.int (wb x))) h)  (hf : wok (fX7_isName_b185 h w0) K) : wM p l e (wR 6) s m args below meth c 0 0 (wE below args s D dA b0 ad S0 F) 2 D dA b0 ad S0 185 [some (.ref 1), none] [.int w0] h := by
  unfold fX7_isName_b185 at hf
  refine w_istore_n X dX7_isName_185 rfl rfl rfl (Nat.le_of_ble_eq_true rfl) (ls' := [some (.ref 1), some (.int w0)]) rfl ?_
  refine w_aload_n X dX7_isName_186 rfl rfl rfl ?_
  refine w_getI X dX7_isName_187 rfl fl_X7_26 S0_1 rfl ?_
  refine w_iconst X dX7_isName_190 rfl ci_1 ?_
  refine w_icmp_ne X dX7_isName_191 rfl (t := 202) rfl (fun hc => ?_) (fun hc => ?_)
  · have hf := wok_f hf hc
    refine w_iconst X dX7_isName_202 rfl ci_0 ?_
    exact w_zret X dX7_isName_203 hr rfl (hT false (wok_s hf))
  · have hf := wok_t hf hc
    refine w_iload_n X dX7_isName_194 rfl rfl rfl ?_
    refine w_if_ne X dX7_isName_195 rfl (t := 202) rfl (fun hc => ?_) (fun hc => ?_)
    · have hf := wok_f hf hc
      refine w_iconst X dX7_isName_202 rfl ci_0 ?_
      exact w_zret X dX7_isName_203 hr rfl (hT false (wok_s hf))
    · have hf := wok_t hf hc
      refine w_iconst X dX7_isName_198 rfl ci_1 ?_
      refine w_goto X dX7_isName_199 (t := 203) rfl ?_
      exact w_zret X dX7_isName_203 hr rfl (hT true (wok_s hf))
set_option maxRecDepth 4000 in
theorem pX7_isName_b180 (X : wCx p s m args meth c RX7 cX7_isName 2 D dA b0 ad) (hr : meth.sig.returnType = (some .boolean)) {h : wSt} {K : Bool → Prop} (hT : ∀ (x : Bool), K x → F (some (.int (wb x))) h)  (hf : wok (fX7_isName_b180 h ) K) : wM p l e (wR 6) s m args below meth c 0 0 (wE below args s D dA b0 ad S0 F) 2 D dA b0 ad S0 180 [some (.ref 1), none] [] h := by
  unfold fX7_isName_b180 at hf
  refine w_iconst X dX7_isName_180 rfl ci_1 ?_
  refine w_goto X dX7_isName_181 (t := 185) rfl ?_
  exact pX7_isName_b185 X hr  hT hf
set_option maxRecDepth 4000 in
theorem pX7_isName_b0 (X : wCx p s m args meth c RX7 cX7_isName 2 D dA b0 ad) (hr : meth.sig.returnType = (some .boolean)) {h : wSt} {K : Bool → Prop} (hT : ∀ (x : Bool), K x → F (some (.int (wb x))) h) (hf : wok (fX7_isName h ) K) : wM p l e (wR 6) s m args below meth c 0 0 (wE below args s D dA b0 ad S0 F) 2 D dA b0 ad S0 0 [some (.ref 1), none] [] h := by
  unfold fX7_isName at hf
  refine w_aload_n X dX7_isName_0 rfl rfl rfl ?_
  refine w_ldcS X dX7_isName_1 rfl (i := 1) (tx := "skin") (by decide +kernel) ?_
  obtain ⟨yr21, eyr21, hf⟩ := wok_b hf
  refine w_callV X dX7_isName_3 rfl vl_X7_64 (kX7_isWord l (by decide) eyr21) S0_1 (As := [.ref (100000 + 1)]) (st := []) rfl rfl (Nat.le_of_ble_eq_true rfl) ⟨Nat.le_of_ble_eq_true rfl, Nat.le_of_ble_eq_true rfl⟩ ⟨Nat.zero_le _, Nat.zero_le _⟩ (fun r h2 hF => ?_)
  obtain ⟨_, rfl, rfl, rfl⟩ := hF
  show wM p l e (wR 6) s m args below meth c 0 0 (wE below args s D dA b0 ad S0 F) 2 D dA b0 ad S0 6 [some (.ref 1), none] [.int (wb yr21)] h
  refine w_if_ne X dX7_isName_6 rfl (t := 180) rfl (fun hc => ?_) (fun hc => ?_)
  · have hf := wok_t hf (wb_n0 hc)
    exact pX7_isName_b180 X hr  hT hf
  · have hf := wok_f hf (wb_0 hc)
    refine w_aload_n X dX7_isName_9 rfl rfl rfl ?_
    refine w_ldcS X dX7_isName_10 rfl (i := 2) (tx := "lines") (by decide +kernel) ?_
    obtain ⟨yr22, eyr22, hf⟩ := wok_b hf
    refine w_callV X dX7_isName_12 rfl vl_X7_64 (kX7_isWord l (by decide) eyr22) S0_1 (As := [.ref (100000 + 2)]) (st := []) rfl rfl (Nat.le_of_ble_eq_true rfl) ⟨Nat.le_of_ble_eq_true rfl, Nat.le_of_ble_eq_true rfl⟩ ⟨Nat.zero_le _, Nat.zero_le _⟩ (fun r h2 hF => ?_)
    obtain ⟨_, rfl, rfl, rfl⟩ := hF
    show wM p l e (wR 6) s m args below meth c 0 0 (wE below args s D dA b0 ad S0 F) 2 D dA b0 ad S0 15 [some (.ref 1), none] [.int (wb yr22)] h
    refine w_if_ne X dX7_isName_15 rfl (t := 180) rfl (fun hc => ?_) (fun hc => ?_)
    · have hf := wok_t hf (wb_n0 hc)
      exact pX7_isName_b180 X hr  hT hf
    · have hf := wok_f hf (wb_0 hc)
      refine w_aload_n X dX7_isName_18 rfl rfl rfl ?_
      refine w_ldcS X dX7_isName_19 rfl (i := 3) (tx := "thick") (by decide +kernel) ?_
      obtain ⟨yr23, eyr23, hf⟩ := wok_b hf
      refine w_callV X dX7_isName_21 rfl vl_X7_64 (kX7_isWord l (by decide) eyr23) S0_1 (As := [.ref (100000 + 3)]) (st := []) rfl rfl (Nat.le_of_ble_eq_true rfl) ⟨Nat.le_of_ble_eq_true rfl, Nat.le_of_ble_eq_true rfl⟩ ⟨Nat.zero_le _, Nat.zero_le _⟩ (fun r h2 hF => ?_)
      obtain ⟨_, rfl, rfl, rfl⟩ := hF
      show wM p l e (wR 6) s m args below meth c 0 0 (wE below args s D dA b0 ad S0 F) 2 D dA b0 ad S0 24 [some (.ref 1), none] [.int (wb yr23)] h
      refine w_if_ne X dX7_isName_24 rfl (t := 180) rfl (fun hc => ?_) (fun hc => ?_)
      · have hf := wok_t hf (wb_n0 hc)
        exact pX7_isName_b180 X hr  hT hf
      · have hf := wok_f hf (wb_0 hc)
        refine w_aload_n X dX7_isName_27 rfl rfl rfl ?_
        refine w_ldcS X dX7_isName_28 rfl (i := 4) (tx := "hole") (by decide +kernel) ?_
        obtain ⟨yr24, eyr24, hf⟩ := wok_b hf
        refine w_callV X dX7_isName_30 rfl vl_X7_64 (kX7_isWord l (by decide) eyr24) S0_1 (As := [.ref (100000 + 4)]) (st := []) rfl rfl (Nat.le_of_ble_eq_true rfl) ⟨Nat.le_of_ble_eq_true rfl, Nat.le_of_ble_eq_true rfl⟩ ⟨Nat.zero_le _, Nat.zero_le _⟩ (fun r h2 hF => ?_)
        obtain ⟨_, rfl, rfl, rfl⟩ := hF
        show wM p l e (wR 6) s m args below meth c 0 0 (wE below args s D dA b0 ad S0 F) 2 D dA b0 ad S0 33 [some (.ref 1), none] [.int (wb yr24)] h
        refine w_if_ne X dX7_isName_33 rfl (t := 180) rfl (fun hc => ?_) (fun hc => ?_)
        · have hf := wok_t hf (wb_n0 hc)
          exact pX7_isName_b180 X hr  hT hf
        · have hf := wok_f hf (wb_0 hc)
          refine w_aload_n X dX7_isName_36 rfl rfl rfl ?_
          refine w_ldcS X dX7_isName_37 rfl (i := 5) (tx := "text") (by decide +kernel) ?_
          obtain ⟨yr25, eyr25, hf⟩ := wok_b hf
          refine w_callV X dX7_isName_39 rfl vl_X7_64 (kX7_isWord l (by decide) eyr25) S0_1 (As := [.ref (100000 + 5)]) (st := []) rfl rfl (Nat.le_of_ble_eq_true rfl) ⟨Nat.le_of_ble_eq_true rfl, Nat.le_of_ble_eq_true rfl⟩ ⟨Nat.zero_le _, Nat.zero_le _⟩ (fun r h2 hF => ?_)
          obtain ⟨_, rfl, rfl, rfl⟩ := hF
          show wM p l e (wR 6) s m args below meth c 0 0 (wE below args s D dA b0 ad S0 F) 2 D dA b0 ad S0 42 [some (.ref 1), none] [.int (wb yr25)] h
          refine w_if_ne X dX7_isName_42 rfl (t := 180) rfl (fun hc => ?_) (fun hc => ?_)
          · have hf := wok_t hf (wb_n0 hc)
            exact pX7_isName_b180 X hr  hT hf
          · have hf := wok_f hf (wb_0 hc)
            refine w_aload_n X dX7_isName_45 rfl rfl rfl ?_
            refine w_ldcS X dX7_isName_46 rfl (i := 6) (tx := "damp") (by decide +kernel) ?_
            obtain ⟨yr26, eyr26, hf⟩ := wok_b hf
            refine w_callV X dX7_isName_48 rfl vl_X7_64 (kX7_isWord l (by decide) eyr26) S0_1 (As := [.ref (100000 + 6)]) (st := []) rfl rfl (Nat.le_of_ble_eq_true rfl) ⟨Nat.le_of_ble_eq_true rfl, Nat.le_of_ble_eq_true rfl⟩ ⟨Nat.zero_le _, Nat.zero_le _⟩ (fun r h2 hF => ?_)
            obtain ⟨_, rfl, rfl, rfl⟩ := hF
            show wM p l e (wR 6) s m args below meth c 0 0 (wE below args s D dA b0 ad S0 F) 2 D dA b0 ad S0 51 [some (.ref 1), none] [.int (wb yr26)] h
            refine w_if_ne X dX7_isName_51 rfl (t := 180) rfl (fun hc => ?_) (fun hc => ?_)
            · have hf := wok_t hf (wb_n0 hc)
              exact pX7_isName_b180 X hr  hT hf
            · have hf := wok_f hf (wb_0 hc)
              refine w_aload_n X dX7_isName_54 rfl rfl rfl ?_
              refine w_ldcS X dX7_isName_55 rfl (i := 7) (tx := "shows") (by decide +kernel) ?_
              obtain ⟨yr27, eyr27, hf⟩ := wok_b hf
              refine w_callV X dX7_isName_57 rfl vl_X7_64 (kX7_isWord l (by decide) eyr27) S0_1 (As := [.ref (100000 + 7)]) (st := []) rfl rfl (Nat.le_of_ble_eq_true rfl) ⟨Nat.le_of_ble_eq_true rfl, Nat.le_of_ble_eq_true rfl⟩ ⟨Nat.zero_le _, Nat.zero_le _⟩ (fun r h2 hF => ?_)
              obtain ⟨_, rfl, rfl, rfl⟩ := hF
              show wM p l e (wR 6) s m args below meth c 0 0 (wE below args s D dA b0 ad S0 F) 2 D dA b0 ad S0 60 [some (.ref 1), none] [.int (wb yr27)] h
              refine w_if_ne X dX7_isName_60 rfl (t := 180) rfl (fun hc => ?_) (fun hc => ?_)
              · have hf := wok_t hf (wb_n0 hc)
                exact pX7_isName_b180 X hr  hT hf
              · have hf := wok_f hf (wb_0 hc)
                refine w_aload_n X dX7_isName_63 rfl rfl rfl ?_
                refine w_ldcS X dX7_isName_64 rfl (i := 8) (tx := "write") (by decide +kernel) ?_
                obtain ⟨yr28, eyr28, hf⟩ := wok_b hf
                refine w_callV X dX7_isName_66 rfl vl_X7_64 (kX7_isWord l (by decide) eyr28) S0_1 (As := [.ref (100000 + 8)]) (st := []) rfl rfl (Nat.le_of_ble_eq_true rfl) ⟨Nat.le_of_ble_eq_true rfl, Nat.le_of_ble_eq_true rfl⟩ ⟨Nat.zero_le _, Nat.zero_le _⟩ (fun r h2 hF => ?_)
                obtain ⟨_, rfl, rfl, rfl⟩ := hF
                show wM p l e (wR 6) s m args below meth c 0 0 (wE below args s D dA b0 ad S0 F) 2 D dA b0 ad S0 69 [some (.ref 1), none] [.int (wb yr28)] h
                refine w_if_ne X dX7_isName_69 rfl (t := 180) rfl (fun hc => ?_) (fun hc => ?_)
                · have hf := wok_t hf (wb_n0 hc)
                  exact pX7_isName_b180 X hr  hT hf
                · have hf := wok_f hf (wb_0 hc)
                  refine w_aload_n X dX7_isName_72 rfl rfl rfl ?_
                  refine w_ldcS X dX7_isName_73 rfl (i := 9) (tx := "scrape") (by decide +kernel) ?_
                  obtain ⟨yr29, eyr29, hf⟩ := wok_b hf
                  refine w_callV X dX7_isName_75 rfl vl_X7_64 (kX7_isWord l (by decide) eyr29) S0_1 (As := [.ref (100000 + 9)]) (st := []) rfl rfl (Nat.le_of_ble_eq_true rfl) ⟨Nat.le_of_ble_eq_true rfl, Nat.le_of_ble_eq_true rfl⟩ ⟨Nat.zero_le _, Nat.zero_le _⟩ (fun r h2 hF => ?_)
                  obtain ⟨_, rfl, rfl, rfl⟩ := hF
                  show wM p l e (wR 6) s m args below meth c 0 0 (wE below args s D dA b0 ad S0 F) 2 D dA b0 ad S0 78 [some (.ref 1), none] [.int (wb yr29)] h
                  refine w_if_ne X dX7_isName_78 rfl (t := 180) rfl (fun hc => ?_) (fun hc => ?_)
                  · have hf := wok_t hf (wb_n0 hc)
                    exact pX7_isName_b180 X hr  hT hf
                  · have hf := wok_f hf (wb_0 hc)
                    refine w_aload_n X dX7_isName_81 rfl rfl rfl ?_
                    refine w_ldcS X dX7_isName_82 rfl (i := 10) (tx := "third") (by decide +kernel) ?_
                    obtain ⟨yr30, eyr30, hf⟩ := wok_b hf
                    refine w_callV X dX7_isName_84 rfl vl_X7_64 (kX7_isWord l (by decide) eyr30) S0_1 (As := [.ref (100000 + 10)]) (st := []) rfl rfl (Nat.le_of_ble_eq_true rfl) ⟨Nat.le_of_ble_eq_true rfl, Nat.le_of_ble_eq_true rfl⟩ ⟨Nat.zero_le _, Nat.zero_le _⟩ (fun r h2 hF => ?_)
                    obtain ⟨_, rfl, rfl, rfl⟩ := hF
                    show wM p l e (wR 6) s m args below meth c 0 0 (wE below args s D dA b0 ad S0 F) 2 D dA b0 ad S0 87 [some (.ref 1), none] [.int (wb yr30)] h
                    refine w_if_ne X dX7_isName_87 rfl (t := 180) rfl (fun hc => ?_) (fun hc => ?_)
                    · have hf := wok_t hf (wb_n0 hc)
                      exact pX7_isName_b180 X hr  hT hf
                    · have hf := wok_f hf (wb_0 hc)
                      refine w_aload_n X dX7_isName_90 rfl rfl rfl ?_
                      refine w_ldcS X dX7_isName_91 rfl (i := 11) (tx := "week") (by decide +kernel) ?_
                      obtain ⟨yr31, eyr31, hf⟩ := wok_b hf
                      refine w_callV X dX7_isName_93 rfl vl_X7_64 (kX7_isWord l (by decide) eyr31) S0_1 (As := [.ref (100000 + 11)]) (st := []) rfl rfl (Nat.le_of_ble_eq_true rfl) ⟨Nat.le_of_ble_eq_true rfl, Nat.le_of_ble_eq_true rfl⟩ ⟨Nat.zero_le _, Nat.zero_le _⟩ (fun r h2 hF => ?_)
                      obtain ⟨_, rfl, rfl, rfl⟩ := hF
                      show wM p l e (wR 6) s m args below meth c 0 0 (wE below args s D dA b0 ad S0 F) 2 D dA b0 ad S0 96 [some (.ref 1), none] [.int (wb yr31)] h
                      refine w_if_ne X dX7_isName_96 rfl (t := 180) rfl (fun hc => ?_) (fun hc => ?_)
                      · have hf := wok_t hf (wb_n0 hc)
                        exact pX7_isName_b180 X hr  hT hf
                      · have hf := wok_f hf (wb_0 hc)
                        refine w_aload_n X dX7_isName_99 rfl rfl rfl ?_
                        refine w_ldcS X dX7_isName_100 rfl (i := 12) (tx := "gall") (by decide +kernel) ?_
                        obtain ⟨yr32, eyr32, hf⟩ := wok_b hf
                        refine w_callV X dX7_isName_102 rfl vl_X7_64 (kX7_isWord l (by decide) eyr32) S0_1 (As := [.ref (100000 + 12)]) (st := []) rfl rfl (Nat.le_of_ble_eq_true rfl) ⟨Nat.le_of_ble_eq_true rfl, Nat.le_of_ble_eq_true rfl⟩ ⟨Nat.zero_le _, Nat.zero_le _⟩ (fun r h2 hF => ?_)
                        obtain ⟨_, rfl, rfl, rfl⟩ := hF
                        show wM p l e (wR 6) s m args below meth c 0 0 (wE below args s D dA b0 ad S0 F) 2 D dA b0 ad S0 105 [some (.ref 1), none] [.int (wb yr32)] h
                        refine w_if_ne X dX7_isName_105 rfl (t := 180) rfl (fun hc => ?_) (fun hc => ?_)
                        · have hf := wok_t hf (wb_n0 hc)
                          exact pX7_isName_b180 X hr  hT hf
                        · have hf := wok_f hf (wb_0 hc)
                          refine w_aload_n X dX7_isName_108 rfl rfl rfl ?_
                          refine w_ldcS X dX7_isName_109 rfl (i := 13) (tx := "soot") (by decide +kernel) ?_
                          obtain ⟨yr33, eyr33, hf⟩ := wok_b hf
                          refine w_callV X dX7_isName_111 rfl vl_X7_64 (kX7_isWord l (by decide) eyr33) S0_1 (As := [.ref (100000 + 13)]) (st := []) rfl rfl (Nat.le_of_ble_eq_true rfl) ⟨Nat.le_of_ble_eq_true rfl, Nat.le_of_ble_eq_true rfl⟩ ⟨Nat.zero_le _, Nat.zero_le _⟩ (fun r h2 hF => ?_)
                          obtain ⟨_, rfl, rfl, rfl⟩ := hF
                          show wM p l e (wR 6) s m args below meth c 0 0 (wE below args s D dA b0 ad S0 F) 2 D dA b0 ad S0 114 [some (.ref 1), none] [.int (wb yr33)] h
                          refine w_if_ne X dX7_isName_114 rfl (t := 180) rfl (fun hc => ?_) (fun hc => ?_)
                          · have hf := wok_t hf (wb_n0 hc)
                            exact pX7_isName_b180 X hr  hT hf
                          · have hf := wok_f hf (wb_0 hc)
                            refine w_aload_n X dX7_isName_117 rfl rfl rfl ?_
                            refine w_ldcS X dX7_isName_118 rfl (i := 14) (tx := "charter") (by decide +kernel) ?_
                            obtain ⟨yr34, eyr34, hf⟩ := wok_b hf
                            refine w_callV X dX7_isName_120 rfl vl_X7_64 (kX7_isWord l (by decide) eyr34) S0_1 (As := [.ref (100000 + 14)]) (st := []) rfl rfl (Nat.le_of_ble_eq_true rfl) ⟨Nat.le_of_ble_eq_true rfl, Nat.le_of_ble_eq_true rfl⟩ ⟨Nat.zero_le _, Nat.zero_le _⟩ (fun r h2 hF => ?_)
                            obtain ⟨_, rfl, rfl, rfl⟩ := hF
                            show wM p l e (wR 6) s m args below meth c 0 0 (wE below args s D dA b0 ad S0 F) 2 D dA b0 ad S0 123 [some (.ref 1), none] [.int (wb yr34)] h
                            refine w_if_ne X dX7_isName_123 rfl (t := 180) rfl (fun hc => ?_) (fun hc => ?_)
                            · have hf := wok_t hf (wb_n0 hc)
                              exact pX7_isName_b180 X hr  hT hf
                            · have hf := wok_f hf (wb_0 hc)
                              refine w_aload_n X dX7_isName_126 rfl rfl rfl ?_
                              refine w_ldcS X dX7_isName_127 rfl (i := 15) (tx := "psalm") (by decide +kernel) ?_
                              obtain ⟨yr35, eyr35, hf⟩ := wok_b hf
                              refine w_callV X dX7_isName_129 rfl vl_X7_64 (kX7_isWord l (by decide) eyr35) S0_1 (As := [.ref (100000 + 15)]) (st := []) rfl rfl (Nat.le_of_ble_eq_true rfl) ⟨Nat.le_of_ble_eq_true rfl, Nat.le_of_ble_eq_true rfl⟩ ⟨Nat.zero_le _, Nat.zero_le _⟩ (fun r h2 hF => ?_)
                              obtain ⟨_, rfl, rfl, rfl⟩ := hF
                              show wM p l e (wR 6) s m args below meth c 0 0 (wE below args s D dA b0 ad S0 F) 2 D dA b0 ad S0 132 [some (.ref 1), none] [.int (wb yr35)] h
                              refine w_if_ne X dX7_isName_132 rfl (t := 180) rfl (fun hc => ?_) (fun hc => ?_)
                              · have hf := wok_t hf (wb_n0 hc)
                                exact pX7_isName_b180 X hr  hT hf
                              · have hf := wok_f hf (wb_0 hc)
                                refine w_aload_n X dX7_isName_135 rfl rfl rfl ?_
                                refine w_ldcS X dX7_isName_136 rfl (i := 16) (tx := "recipe") (by decide +kernel) ?_
                                obtain ⟨yr36, eyr36, hf⟩ := wok_b hf
                                refine w_callV X dX7_isName_138 rfl vl_X7_64 (kX7_isWord l (by decide) eyr36) S0_1 (As := [.ref (100000 + 16)]) (st := []) rfl rfl (Nat.le_of_ble_eq_true rfl) ⟨Nat.le_of_ble_eq_true rfl, Nat.le_of_ble_eq_true rfl⟩ ⟨Nat.zero_le _, Nat.zero_le _⟩ (fun r h2 hF => ?_)
                                obtain ⟨_, rfl, rfl, rfl⟩ := hF
                                show wM p l e (wR 6) s m args below meth c 0 0 (wE below args s D dA b0 ad S0 F) 2 D dA b0 ad S0 141 [some (.ref 1), none] [.int (wb yr36)] h
                                refine w_if_ne X dX7_isName_141 rfl (t := 180) rfl (fun hc => ?_) (fun hc => ?_)
                                · have hf := wok_t hf (wb_n0 hc)
                                  exact pX7_isName_b180 X hr  hT hf
                                · have hf := wok_f hf (wb_0 hc)
                                  refine w_aload_n X dX7_isName_144 rfl rfl rfl ?_
                                  refine w_ldcS X dX7_isName_145 rfl (i := 17) (tx := "oath") (by decide +kernel) ?_
                                  obtain ⟨yr37, eyr37, hf⟩ := wok_b hf
                                  refine w_callV X dX7_isName_147 rfl vl_X7_64 (kX7_isWord l (by decide) eyr37) S0_1 (As := [.ref (100000 + 17)]) (st := []) rfl rfl (Nat.le_of_ble_eq_true rfl) ⟨Nat.le_of_ble_eq_true rfl, Nat.le_of_ble_eq_true rfl⟩ ⟨Nat.zero_le _, Nat.zero_le _⟩ (fun r h2 hF => ?_)
                                  obtain ⟨_, rfl, rfl, rfl⟩ := hF
                                  show wM p l e (wR 6) s m args below meth c 0 0 (wE below args s D dA b0 ad S0 F) 2 D dA b0 ad S0 150 [some (.ref 1), none] [.int (wb yr37)] h
                                  refine w_if_ne X dX7_isName_150 rfl (t := 180) rfl (fun hc => ?_) (fun hc => ?_)
                                  · have hf := wok_t hf (wb_n0 hc)
                                    exact pX7_isName_b180 X hr  hT hf
                                  · have hf := wok_f hf (wb_0 hc)
                                    refine w_aload_n X dX7_isName_153 rfl rfl rfl ?_
                                    refine w_ldcS X dX7_isName_154 rfl (i := 18) (tx := "not") (by decide +kernel) ?_
                                    obtain ⟨yr38, eyr38, hf⟩ := wok_b hf
                                    refine w_callV X dX7_isName_156 rfl vl_X7_64 (kX7_isWord l (by decide) eyr38) S0_1 (As := [.ref (100000 + 18)]) (st := []) rfl rfl (Nat.le_of_ble_eq_true rfl) ⟨Nat.le_of_ble_eq_true rfl, Nat.le_of_ble_eq_true rfl⟩ ⟨Nat.zero_le _, Nat.zero_le _⟩ (fun r h2 hF => ?_)
                                    obtain ⟨_, rfl, rfl, rfl⟩ := hF
                                    show wM p l e (wR 6) s m args below meth c 0 0 (wE below args s D dA b0 ad S0 F) 2 D dA b0 ad S0 159 [some (.ref 1), none] [.int (wb yr38)] h
                                    refine w_if_ne X dX7_isName_159 rfl (t := 180) rfl (fun hc => ?_) (fun hc => ?_)
                                    · have hf := wok_t hf (wb_n0 hc)
                                      exact pX7_isName_b180 X hr  hT hf
                                    · have hf := wok_f hf (wb_0 hc)
                                      refine w_aload_n X dX7_isName_162 rfl rfl rfl ?_
                                      refine w_ldcS X dX7_isName_163 rfl (i := 19) (tx := "and") (by decide +kernel) ?_
                                      obtain ⟨yr39, eyr39, hf⟩ := wok_b hf
                                      refine w_callV X dX7_isName_165 rfl vl_X7_64 (kX7_isWord l (by decide) eyr39) S0_1 (As := [.ref (100000 + 19)]) (st := []) rfl rfl (Nat.le_of_ble_eq_true rfl) ⟨Nat.le_of_ble_eq_true rfl, Nat.le_of_ble_eq_true rfl⟩ ⟨Nat.zero_le _, Nat.zero_le _⟩ (fun r h2 hF => ?_)
                                      obtain ⟨_, rfl, rfl, rfl⟩ := hF
                                      show wM p l e (wR 6) s m args below meth c 0 0 (wE below args s D dA b0 ad S0 F) 2 D dA b0 ad S0 168 [some (.ref 1), none] [.int (wb yr39)] h
                                      refine w_if_ne X dX7_isName_168 rfl (t := 180) rfl (fun hc => ?_) (fun hc => ?_)
                                      · have hf := wok_t hf (wb_n0 hc)
                                        exact pX7_isName_b180 X hr  hT hf
                                      · have hf := wok_f hf (wb_0 hc)
                                        refine w_aload_n X dX7_isName_171 rfl rfl rfl ?_
                                        refine w_ldcS X dX7_isName_172 rfl (i := 20) (tx := "or") (by decide +kernel) ?_
                                        obtain ⟨yr40, eyr40, hf⟩ := wok_b hf
                                        refine w_callV X dX7_isName_174 rfl vl_X7_64 (kX7_isWord l (by decide) eyr40) S0_1 (As := [.ref (100000 + 20)]) (st := []) rfl rfl (Nat.le_of_ble_eq_true rfl) ⟨Nat.le_of_ble_eq_true rfl, Nat.le_of_ble_eq_true rfl⟩ ⟨Nat.zero_le _, Nat.zero_le _⟩ (fun r h2 hF => ?_)
                                        obtain ⟨_, rfl, rfl, rfl⟩ := hF
                                        show wM p l e (wR 6) s m args below meth c 0 0 (wE below args s D dA b0 ad S0 F) 2 D dA b0 ad S0 177 [some (.ref 1), none] [.int (wb yr40)] h
                                        refine w_if_eq X dX7_isName_177 rfl (t := 184) rfl (fun hc => ?_) (fun hc => ?_)
                                        · have hf := wok_f hf (wb_0 hc)
                                          refine w_iconst X dX7_isName_184 rfl ci_0 ?_
                                          exact pX7_isName_b185 X hr  hT hf
                                        · have hf := wok_t hf (wb_n0 hc)
                                          exact pX7_isName_b180 X hr  hT hf
set_option maxRecDepth 4000 in
theorem kX7_isName (l : Launch) {h : wSt} {res : Bool} (hf : fX7_isName h  = some res) : wC l yX7_isName cX7_isName 2 (some .boolean) 6 S0 [.ref 1] h (wFZ (fun a b => res = a ∧ h = b)) := by
  refine w_meth2 1 (by decide) (Nat.le_of_ble_eq_true rfl) (ls := [some (.ref 1), none]) rfl ?_
  intro p e s m args below meth c D dA b0 ad X hr
  exact pX7_isName_b0 X hr  (K := fun z => res = z) (fun x hz => ⟨x, rfl, hz, rfl⟩) ⟨res, hf, rfl⟩
set_option maxRecDepth 4000 in
theorem pX7_takeWord_b0 (X : wCx p s m args meth c RX7 cX7_takeWord 2 D dA b0 ad) (hr : meth.sig.returnType = none) {h : wSt} {i0 : Nat} (hi0 : i0 < 25) {K : wSt → Prop} (hT : ∀ (h2 : wSt), K h2 → F none h2) (hf : wok (fX7_takeWord h i0) K) : wM p l e (wR 6) s m args below meth c 0 0 (wE below args s D dA b0 ad S0 F) 2 D dA b0 ad S0 0 [some (.ref 1), some (.ref (100000 + i0))] [] h := by
  unfold fX7_takeWord at hf
  refine w_aload_n X dX7_takeWord_0 rfl rfl rfl ?_
  refine w_aload_n X dX7_takeWord_1 rfl rfl rfl ?_
  obtain ⟨yr21, eyr21, hf⟩ := wok_b hf
  refine w_callV X dX7_takeWord_2 rfl vl_X7_64 (kX7_isWord l hi0 eyr21) S0_1 (As := [.ref (100000 + i0)]) (st := []) rfl rfl (Nat.le_of_ble_eq_true rfl) ⟨Nat.le_of_ble_eq_true rfl, Nat.le_of_ble_eq_true rfl⟩ ⟨Nat.zero_le _, Nat.zero_le _⟩ (fun r h2 hF => ?_)
  obtain ⟨_, rfl, rfl, rfl⟩ := hF
  show wM p l e (wR 6) s m args below meth c 0 0 (wE below args s D dA b0 ad S0 F) 2 D dA b0 ad S0 5 [some (.ref 1), some (.ref (100000 + i0))] [.int (wb yr21)] h
  refine w_if_eq X dX7_takeWord_5 rfl (t := 15) rfl (fun hc => ?_) (fun hc => ?_)
  · have hf := wok_f hf (wb_0 hc)
    refine w_aload_n X dX7_takeWord_15 rfl rfl rfl ?_
    refine w_iconst X dX7_takeWord_16 rfl ci_1 ?_
    obtain ⟨yr22, eyr22, hf⟩ := wok_b hf
    refine w_callV X dX7_takeWord_17 rfl vl_X7_106 (kX7_fail l  eyr22) S0_1 (As := [.int 1]) (st := []) rfl rfl (Nat.le_of_ble_eq_true rfl) ⟨Nat.le_of_ble_eq_true rfl, Nat.le_of_ble_eq_true rfl⟩ ⟨Nat.zero_le _, Nat.zero_le _⟩ (fun r h2 hF => ?_)
    obtain ⟨rfl, rfl⟩ := hF
    show wM p l e (wR 6) s m args below meth c 0 0 (wE below args s D dA b0 ad S0 F) 2 D dA b0 ad S0 20 [some (.ref 1), some (.ref (100000 + i0))] [] yr22
    exact w_vret X dX7_takeWord_20 hr (hT _ (wok_s hf))
  · have hf := wok_t hf (wb_n0 hc)
    refine w_aload_n X dX7_takeWord_8 rfl rfl rfl ?_
    obtain ⟨yr23, eyr23, hf⟩ := wok_b hf
    refine w_callV X dX7_takeWord_9 rfl vl_X7_23 (kX7_next l  eyr23) S0_1 (As := []) (st := []) rfl rfl (Nat.le_of_ble_eq_true rfl) ⟨Nat.le_of_ble_eq_true rfl, Nat.le_of_ble_eq_true rfl⟩ ⟨Nat.zero_le _, Nat.zero_le _⟩ (fun r h2 hF => ?_)
    obtain ⟨rfl, rfl⟩ := hF
    show wM p l e (wR 6) s m args below meth c 0 0 (wE below args s D dA b0 ad S0 F) 2 D dA b0 ad S0 12 [some (.ref 1), some (.ref (100000 + i0))] [] yr23
    refine w_goto X dX7_takeWord_12 (t := 20) rfl ?_
    exact w_vret X dX7_takeWord_20 hr (hT _ (wok_s hf))
set_option maxRecDepth 4000 in
theorem kX7_takeWord (l : Launch) {h : wSt} {i0 : Nat} (hi0 : i0 < 25) {res : wSt} (hf : fX7_takeWord h i0 = some res) : wC l yX7_takeWord cX7_takeWord 2 none 6 S0 [.ref 1, .ref (100000 + i0)] h (wFV (fun b => res = b)) := by
  refine w_meth2 0 (by decide) (Nat.le_of_ble_eq_true rfl) (ls := [some (.ref 1), some (.ref (100000 + i0))]) rfl ?_
  intro p e s m args below meth c D dA b0 ad X hr
  exact pX7_takeWord_b0 X hr hi0 (K := fun z => res = z) (fun h2 hz => ⟨rfl, hz⟩) ⟨res, hf, rfl⟩
set_option maxRecDepth 4000 in
theorem pX7_isNumberWithin_b37 (X : wCx p s m args meth c RX7 cX7_isNumberWithin 3 D dA b0 ad) (hr : meth.sig.returnType = (some .boolean)) {h : wSt} {K : Bool × wSt → Prop} (hT : ∀ (x : Bool) (h2 : wSt), K (x, h2) → F (some (.int (wb x))) h2)  (hf : wok (fX7_isNumberWithin_b37 h ) K) : wM p l e (wR 2) s m args below meth c 0 0 (wE below args s D dA b0 ad S0 F) 3 D dA b0 ad S0 37 [some (.ref 1), none, none] [] h := by
  unfold fX7_isNumberWithin_b37 at hf
  refine w_aload_n X dX7_isNumberWithin_37 rfl rfl rfl ?_
  refine w_getI X dX7_isNumberWithin_38 rfl fl_X7_20 S0_1 rfl ?_
  refine w_if_ne X dX7_isNumberWithin_41 rfl (t := 48) rfl (fun hc => ?_) (fun hc => ?_)
  · have hf := wok_f hf hc
    refine w_iconst X dX7_isNumberWithin_48 rfl ci_0 ?_
    exact w_zret X dX7_isNumberWithin_49 hr rfl (hT false _ (wok_s hf))
  · have hf := wok_t hf hc
    refine w_iconst X dX7_isNumberWithin_44 rfl ci_1 ?_
    refine w_goto X dX7_isNumberWithin_45 (t := 49) rfl ?_
    exact w_zret X dX7_isNumberWithin_49 hr rfl (hT true _ (wok_s hf))
set_option maxRecDepth 4000 in
theorem pX7_isNumberWithin_b32 (X : wCx p s m args meth c RX7 cX7_isNumberWithin 3 D dA b0 ad) (hr : meth.sig.returnType = (some .boolean)) {h : wSt} {K : Bool × wSt → Prop} (hT : ∀ (x : Bool) (h2 : wSt), K (x, h2) → F (some (.int (wb x))) h2)  (hf : wok (fX7_isNumberWithin_b32 h ) K) : wM p l e (wR 2) s m args below meth c 0 0 (wE below args s D dA b0 ad S0 F) 3 D dA b0 ad S0 32 [some (.ref 1), none, none] [] h := by
  unfold fX7_isNumberWithin_b32 at hf
  refine w_aload_n X dX7_isNumberWithin_32 rfl rfl rfl ?_
  refine w_iconst X dX7_isNumberWithin_33 rfl ci_4 ?_
  obtain ⟨yr21, eyr21, hf⟩ := wok_b hf
  refine w_callV X dX7_isNumberWithin_34 rfl vl_X7_106 (kX7_fail l  eyr21) S0_1 (As := [.int 4]) (st := []) rfl rfl (Nat.le_of_ble_eq_true rfl) ⟨Nat.le_of_ble_eq_true rfl, Nat.le_of_ble_eq_true rfl⟩ ⟨Nat.zero_le _, Nat.zero_le _⟩ (fun r h2 hF => ?_)
  obtain ⟨rfl, rfl⟩ := hF
  show wM p l e (wR 2) s m args below meth c 0 0 (wE below args s D dA b0 ad S0 F) 3 D dA b0 ad S0 37 [some (.ref 1), none, none] [] yr21
  exact pX7_isNumberWithin_b37 X hr  hT hf
set_option maxRecDepth 4000 in
theorem pX7_isNumberWithin_b0 (X : wCx p s m args meth c RX7 cX7_isNumberWithin 3 D dA b0 ad) (hr : meth.sig.returnType = (some .boolean)) {h : wSt} {x0 : Int32} {x1 : Int32} {K : Bool × wSt → Prop} (hT : ∀ (x : Bool) (h2 : wSt), K (x, h2) → F (some (.int (wb x))) h2) (hf : wok (fX7_isNumberWithin h x0 x1) K) : wM p l e (wR 2) s m args below meth c 0 0 (wE below args s D dA b0 ad S0 F) 3 D dA b0 ad S0 0 [some (.ref 1), some (.int x0), some (.int x1)] [] h := by
  unfold fX7_isNumberWithin at hf
  refine w_aload_n X dX7_isNumberWithin_0 rfl rfl rfl ?_
  refine w_getI X dX7_isNumberWithin_1 rfl fl_X7_26 S0_1 rfl ?_
  refine w_iconst X dX7_isNumberWithin_4 rfl ci_2 ?_
  refine w_icmp_eq X dX7_isNumberWithin_5 rfl (t := 16) rfl (fun hc => ?_) (fun hc => ?_)
  · have hf := wok_t hf hc
    refine w_aload_n X dX7_isNumberWithin_16 rfl rfl rfl ?_
    refine w_getI X dX7_isNumberWithin_17 rfl fl_X7_52 S0_1 rfl ?_
    refine w_iload_n X dX7_isNumberWithin_20 rfl rfl rfl ?_
    refine w_icmp_lt X dX7_isNumberWithin_21 rfl (t := 32) rfl (fun hc => ?_) (fun hc => ?_)
    · have hf := wok_t hf hc
      refine w_fg (ls2 := [some (.ref 1), none, none]) ⟨rfl, trivial⟩ ?_
      exact pX7_isNumberWithin_b32 X hr  hT hf
    · have hf := wok_f hf hc
      refine w_aload_n X dX7_isNumberWithin_24 rfl rfl rfl ?_
      refine w_getI X dX7_isNumberWithin_25 rfl fl_X7_52 S0_1 rfl ?_
      refine w_iload_n X dX7_isNumberWithin_28 rfl rfl rfl ?_
      refine w_icmp_le X dX7_isNumberWithin_29 rfl (t := 37) rfl (fun hc => ?_) (fun hc => ?_)
      · have hf := wok_t hf hc
        refine w_fg (ls2 := [some (.ref 1), none, none]) ⟨rfl, trivial⟩ ?_
        exact pX7_isNumberWithin_b37 X hr  hT hf
      · have hf := wok_f hf hc
        refine w_fg (ls2 := [some (.ref 1), none, none]) ⟨rfl, trivial⟩ ?_
        exact pX7_isNumberWithin_b32 X hr  hT hf
  · have hf := wok_f hf hc
    refine w_aload_n X dX7_isNumberWithin_8 rfl rfl rfl ?_
    refine w_iconst X dX7_isNumberWithin_9 rfl ci_1 ?_
    obtain ⟨yr22, eyr22, hf⟩ := wok_b hf
    refine w_callV X dX7_isNumberWithin_10 rfl vl_X7_106 (kX7_fail l  eyr22) S0_1 (As := [.int 1]) (st := []) rfl rfl (Nat.le_of_ble_eq_true rfl) ⟨Nat.le_of_ble_eq_true rfl, Nat.le_of_ble_eq_true rfl⟩ ⟨Nat.zero_le _, Nat.zero_le _⟩ (fun r h2 hF => ?_)
    obtain ⟨rfl, rfl⟩ := hF
    show wM p l e (wR 2) s m args below meth c 0 0 (wE below args s D dA b0 ad S0 F) 3 D dA b0 ad S0 13 [some (.ref 1), some (.int x0), some (.int x1)] [] yr22
    refine w_goto X dX7_isNumberWithin_13 (t := 37) rfl ?_
    refine w_fg (ls2 := [some (.ref 1), none, none]) ⟨rfl, trivial⟩ ?_
    exact pX7_isNumberWithin_b37 X hr  hT hf
set_option maxRecDepth 4000 in
theorem kX7_isNumberWithin (l : Launch) {h : wSt} {x0 : Int32} {x1 : Int32} {res : Bool × wSt} (hf : fX7_isNumberWithin h x0 x1 = some res) : wC l yX7_isNumberWithin cX7_isNumberWithin 3 (some .boolean) 2 S0 [.ref 1, .int x0, .int x1] h (wFZ (fun a b => res.1 = a ∧ res.2 = b)) := by
  refine w_meth2 0 (by decide) (Nat.le_of_ble_eq_true rfl) (ls := [some (.ref 1), some (.int x0), some (.int x1)]) rfl ?_
  intro p e s m args below meth c D dA b0 ad X hr
  exact pX7_isNumberWithin_b0 X hr  (K := fun z => res = z) (fun x h2 hz => ⟨x, rfl, by rw [hz], by rw [hz]⟩) ⟨res, hf, rfl⟩
set_option maxRecDepth 4000 in
theorem pX7_takeNumber_b0 (X : wCx p s m args meth c RX7 cX7_takeNumber 4 D dA b0 ad) (hr : meth.sig.returnType = (some .int)) {h : wSt} {x0 : Int32} {x1 : Int32} {K : Int32 × wSt → Prop} (hT : ∀ (x : Int32) (h2 : wSt), K (x, h2) → F (some (.int x)) h2) (hf : wok (fX7_takeNumber h x0 x1) K) : wM p l e (wR 6) s m args below meth c 0 0 (wE below args s D dA b0 ad S0 F) 4 D dA b0 ad S0 0 [some (.ref 1), some (.int x0), some (.int x1), none] [] h := by
  unfold fX7_takeNumber at hf
  refine w_aload_n X dX7_takeNumber_0 rfl rfl rfl ?_
  refine w_getI X dX7_takeNumber_1 rfl fl_X7_52 S0_1 rfl ?_
  refine w_istore_n X dX7_takeNumber_4 rfl rfl rfl (Nat.le_of_ble_eq_true rfl) (ls' := [some (.ref 1), some (.int x0), some (.int x1), some (.int (h.1 1 5))]) rfl ?_
  refine w_aload_n X dX7_takeNumber_5 rfl rfl rfl ?_
  refine w_iload_n X dX7_takeNumber_6 rfl rfl rfl ?_
  refine w_iload_n X dX7_takeNumber_7 rfl rfl rfl ?_
  obtain ⟨yr21, eyr21, hf⟩ := wok_b hf
  refine w_callV X dX7_takeNumber_8 rfl vl_X7_114 (kX7_isNumberWithin l  eyr21) S0_1 (As := [.int x0, .int x1]) (st := []) rfl rfl (Nat.le_of_ble_eq_true rfl) ⟨Nat.le_of_ble_eq_true rfl, Nat.le_of_ble_eq_true rfl⟩ ⟨Nat.zero_le _, Nat.zero_le _⟩ (fun r h2 hF => ?_)
  obtain ⟨_, rfl, rfl, rfl⟩ := hF
  show wM p l e (wR 6) s m args below meth c 0 0 (wE below args s D dA b0 ad S0 F) 4 D dA b0 ad S0 11 [some (.ref 1), some (.int x0), some (.int x1), some (.int (h.1 1 5))] [.int (wb yr21.1)] yr21.2
  refine w_if_eq X dX7_takeNumber_11 rfl (t := 18) rfl (fun hc => ?_) (fun hc => ?_)
  · have hf := wok_f hf (wb_0 hc)
    refine w_iload_n X dX7_takeNumber_18 rfl rfl rfl ?_
    exact w_iret X dX7_takeNumber_19 hr (hT _ _ (wok_s hf))
  · have hf := wok_t hf (wb_n0 hc)
    refine w_aload_n X dX7_takeNumber_14 rfl rfl rfl ?_
    obtain ⟨yr22, eyr22, hf⟩ := wok_b hf
    refine w_callV X dX7_takeNumber_15 rfl vl_X7_23 (kX7_next l  eyr22) S0_1 (As := []) (st := []) rfl rfl (Nat.le_of_ble_eq_true rfl) ⟨Nat.le_of_ble_eq_true rfl, Nat.le_of_ble_eq_true rfl⟩ ⟨Nat.zero_le _, Nat.zero_le _⟩ (fun r h2 hF => ?_)
    obtain ⟨rfl, rfl⟩ := hF
    show wM p l e (wR 6) s m args below meth c 0 0 (wE below args s D dA b0 ad S0 F) 4 D dA b0 ad S0 18 [some (.ref 1), some (.int x0), some (.int x1), some (.int (h.1 1 5))] [] yr22
    refine w_iload_n X dX7_takeNumber_18 rfl rfl rfl ?_
    exact w_iret X dX7_takeNumber_19 hr (hT _ _ (wok_s hf))
set_option maxRecDepth 4000 in
theorem kX7_takeNumber (l : Launch) {h : wSt} {x0 : Int32} {x1 : Int32} {res : Int32 × wSt} (hf : fX7_takeNumber h x0 x1 = some res) : wC l yX7_takeNumber cX7_takeNumber 4 (some .int) 6 S0 [.ref 1, .int x0, .int x1] h (wFI (fun a b => res.1 = a ∧ res.2 = b)) := by
  refine w_meth2 1 (by decide) (Nat.le_of_ble_eq_true rfl) (ls := [some (.ref 1), some (.int x0), some (.int x1), none]) rfl ?_
  intro p e s m args below meth c D dA b0 ad X hr
  exact pX7_takeNumber_b0 X hr  (K := fun z => res = z) (fun x h2 hz => ⟨x, rfl, by rw [hz], by rw [hz]⟩) ⟨res, hf, rfl⟩
set_option maxRecDepth 4000 in
theorem pX7_clear_b0 (X : wCx p s m args meth c RX7 cX7_clear 1 D dA b0 ad) (hr : meth.sig.returnType = none) {h : wSt} {K : wSt → Prop} (hT : ∀ (h2 : wSt), K h2 → F none h2) (hf : wok (fX7_clear h ) K) : wM p l e (wR 1) s m args below meth c 0 0 (wE below args s D dA b0 ad S0 F) 1 D dA b0 ad S0 0 [some (.ref 1)] [] h := by
  unfold fX7_clear at hf
  refine w_aload_n X dX7_clear_0 rfl rfl rfl ?_
  refine w_iconst X dX7_clear_1 rfl ci_0 ?_
  refine w_putI X dX7_clear_2 rfl fp_X7_13 S0_1 rfl ?_
  refine w_nmh (fun yh21 eyh21 => ?_)
  have hf := wok_l hf eyh21
  exact w_vret X dX7_clear_5 hr (hT _ (wok_s hf))
set_option maxRecDepth 4000 in
theorem kX7_clear (l : Launch) {h : wSt} {res : wSt} (hf : fX7_clear h  = some res) : wC l yX7_clear cX7_clear 1 none 1 S0 [.ref 1] h (wFV (fun b => res = b)) := by
  refine w_meth2 0 (by decide) (Nat.le_of_ble_eq_true rfl) (ls := [some (.ref 1)]) rfl ?_
  intro p e s m args below meth c D dA b0 ad X hr
  exact pX7_clear_b0 X hr  (K := fun z => res = z) (fun h2 hz => ⟨rfl, hz⟩) ⟨res, hf, rfl⟩
set_option maxRecDepth 4000 in
theorem pX7_addBytes_b70_3 (X : wCx p s m args meth c RX7 cX7_addBytes 5 D dA b0 ad) (hr : meth.sig.returnType = none) {h : wSt} {v1 : Int64} {v3 : Int32} {K : (Int32 × wSt) ⊕ ((wSt)) → Prop} (hN : ∀ (n3 : Int32) (nh : wSt), K (.inl (n3, nh)) → wM p l e (wR 1) s m args below meth c 0 0 (wE below args s D dA b0 ad S0 F) 5 D dA b0 ad S0 3 [some (.ref 1), some (.long v1), none, some (.int n3), none] [] nh) (hX0 : ∀ (nh : wSt), K (.inr nh) → wM p l e (wR 1) s m args below meth c 0 0 (wE below args s D dA b0 ad S0 F) 5 D dA b0 ad S0 76 [none, none, none, none, none] [] nh) (hf : wok (fX7_addBytes_b70_3 h v1 v3) K) : wM p l e (wR 1) s m args below meth c 0 0 (wE below args s D dA b0 ad S0 F) 5 D dA b0 ad S0 70 [some (.ref 1), some (.long v1), none, some (.int v3), none] [] h := by
  unfold fX7_addBytes_b70_3 at hf
  refine w_iinc X dX7_addBytes_70 rfl (v := (v3 + (-8))) rfl rfl (Nat.le_of_ble_eq_true rfl) (cinc_m8 _) (ls' := [some (.ref 1), some (.long v1), none, some (.int (v3 + (-8))), none]) rfl ?_
  refine w_goto X dX7_addBytes_73 (t := 3) rfl ?_
  exact hN _ _ (wok_s hf)
set_option maxRecDepth 4000 in
theorem pX7_addBytes_b48_3 (X : wCx p s m args meth c RX7 cX7_addBytes 5 D dA b0 ad) (hr : meth.sig.returnType = none) {h : wSt} {v1 : Int64} {v3 : Int32} {v4 : Int32} {K : (Int32 × wSt) ⊕ ((wSt)) → Prop} (hN : ∀ (n3 : Int32) (nh : wSt), K (.inl (n3, nh)) → wM p l e (wR 1) s m args below meth c 0 0 (wE below args s D dA b0 ad S0 F) 5 D dA b0 ad S0 3 [some (.ref 1), some (.long v1), none, some (.int n3), none] [] nh) (hX0 : ∀ (nh : wSt), K (.inr nh) → wM p l e (wR 1) s m args below meth c 0 0 (wE below args s D dA b0 ad S0 F) 5 D dA b0 ad S0 76 [none, none, none, none, none] [] nh) (hf : wok (fX7_addBytes_b48_3 h v1 v3 v4) K) : wM p l e (wR 1) s m args below meth c 0 0 (wE below args s D dA b0 ad S0 F) 5 D dA b0 ad S0 48 [some (.ref 1), some (.long v1), none, some (.int v3), some (.int v4)] [] h := by
  unfold fX7_addBytes_b48_3 at hf
  refine w_aload_n X dX7_addBytes_48 rfl rfl rfl ?_
  refine w_getR X dX7_addBytes_49 rfl fl_X7_9 S0_1 rfl ?_
  refine w_aload_n X dX7_addBytes_52 rfl rfl rfl ?_
  refine w_getI X dX7_addBytes_53 rfl fl_X7_13 S0_1 rfl ?_
  refine w_iload X dX7_addBytes_56 rfl rfl ?_
  refine w_i2b X dX7_addBytes_58 rfl ?_
  obtain ⟨yhg22, hf⟩ := wok_g hf
  refine w_bast X dX7_addBytes_59 rfl (j := (h.1 1 1).toNatClampNeg) rfl S0_2 yhg22 ?_
  refine w_nmh (fun yh23 eyh23 => ?_)
  have hf := wok_l hf eyh23
  refine w_aload_n X dX7_addBytes_60 rfl rfl rfl ?_
  refine w_dup X dX7_addBytes_61 rfl rfl ?_
  refine w_getI X dX7_addBytes_62 rfl fl_X7_13 S0_1 rfl ?_
  refine w_iconst X dX7_addBytes_65 rfl ci_1 ?_
  refine w_iadd X dX7_addBytes_66 rfl ?_
  refine w_putI X dX7_addBytes_67 rfl fp_X7_13 S0_1 rfl ?_
  refine w_nmh (fun yh24 eyh24 => ?_)
  have hf := wok_l hf eyh24
  refine w_fg (ls2 := [some (.ref 1), some (.long v1), none, some (.int v3), none]) ⟨rfl, rfl, rfl, trivial⟩ ?_
  exact pX7_addBytes_b70_3 X hr  hN hX0 hf
set_option maxRecDepth 4000 in
theorem pX7_addBytes_l3b (X : wCx p s m args meth c RX7 cX7_addBytes 5 D dA b0 ad) (hr : meth.sig.returnType = none) {h : wSt} {v1 : Int64} {v3 : Int32} {K : (Int32 × wSt) ⊕ ((wSt)) → Prop} (hN : ∀ (n3 : Int32) (nh : wSt), K (.inl (n3, nh)) → wM p l e (wR 1) s m args below meth c 0 0 (wE below args s D dA b0 ad S0 F) 5 D dA b0 ad S0 3 [some (.ref 1), some (.long v1), none, some (.int n3), none] [] nh) (hX0 : ∀ (nh : wSt), K (.inr nh) → wM p l e (wR 1) s m args below meth c 0 0 (wE below args s D dA b0 ad S0 F) 5 D dA b0 ad S0 76 [none, none, none, none, none] [] nh) (hf : wok (fX7_addBytes_l3 h v1 v3) K) : wM p l e (wR 1) s m args below meth c 0 0 (wE below args s D dA b0 ad S0 F) 5 D dA b0 ad S0 3 [some (.ref 1), some (.long v1), none, some (.int v3), none] [] h := by
  unfold fX7_addBytes_l3 at hf
  refine w_iload_n X dX7_addBytes_3 rfl rfl rfl ?_
  refine w_if_lt X dX7_addBytes_4 rfl (t := 76) rfl (fun hc => ?_) (fun hc => ?_)
  · have hf := wok_t hf hc
    refine w_fg (ls2 := [none, none, none, none, none]) trivial ?_
    exact hX0 _ (wok_s hf)
  · have hf := wok_f hf hc
    refine w_lload_n X dX7_addBytes_7 rfl rfl rfl ?_
    refine w_iload_n X dX7_addBytes_8 rfl rfl rfl ?_
    refine w_lushr X dX7_addBytes_9 rfl ?_
    refine w_l2i X dX7_addBytes_10 rfl ?_
    refine w_sipush X dX7_addBytes_11 rfl cs_255 ?_
    refine w_iand X dX7_addBytes_14 rfl ?_
    refine w_topi (fun yx21 eyx21 => ?_)
    have hf := wok_l hf eyx21
    refine w_istore X dX7_addBytes_15 rfl rfl (Nat.le_of_ble_eq_true rfl) (ls' := [some (.ref 1), some (.long v1), none, some (.int v3), some (.int yx21)]) rfl ?_
    refine w_aload_n X dX7_addBytes_17 rfl rfl rfl ?_
    refine w_getI X dX7_addBytes_18 rfl fl_X7_13 S0_1 rfl ?_
    refine w_sipush X dX7_addBytes_21 rfl cs_1000 ?_
    refine w_icmp_ge X dX7_addBytes_24 rfl (t := 70) rfl (fun hc => ?_) (fun hc => ?_)
    · have hf := wok_t hf hc
      refine w_fg (ls2 := [some (.ref 1), some (.long v1), none, some (.int v3), none]) ⟨rfl, rfl, rfl, trivial⟩ ?_
      exact pX7_addBytes_b70_3 X hr  hN hX0 hf
    · have hf := wok_f hf hc
      refine w_iload X dX7_addBytes_27 rfl rfl ?_
      refine w_bipush X dX7_addBytes_29 rfl cb_10 ?_
      refine w_icmp_eq X dX7_addBytes_31 rfl (t := 48) rfl (fun hc => ?_) (fun hc => ?_)
      · have hf := wok_t hf hc
        exact pX7_addBytes_b48_3 X hr  hN hX0 hf
      · have hf := wok_f hf hc
        refine w_iload X dX7_addBytes_34 rfl rfl ?_
        refine w_bipush X dX7_addBytes_36 rfl cb_32 ?_
        refine w_icmp_lt X dX7_addBytes_38 rfl (t := 70) rfl (fun hc => ?_) (fun hc => ?_)
        · have hf := wok_t hf hc
          refine w_fg (ls2 := [some (.ref 1), some (.long v1), none, some (.int v3), none]) ⟨rfl, rfl, rfl, trivial⟩ ?_
          exact pX7_addBytes_b70_3 X hr  hN hX0 hf
        · have hf := wok_f hf hc
          refine w_iload X dX7_addBytes_41 rfl rfl ?_
          refine w_bipush X dX7_addBytes_43 rfl cb_126 ?_
          refine w_icmp_gt X dX7_addBytes_45 rfl (t := 70) rfl (fun hc => ?_) (fun hc => ?_)
          · have hf := wok_t hf hc
            refine w_fg (ls2 := [some (.ref 1), some (.long v1), none, some (.int v3), none]) ⟨rfl, rfl, rfl, trivial⟩ ?_
            exact pX7_addBytes_b70_3 X hr  hN hX0 hf
          · have hf := wok_f hf hc
            exact pX7_addBytes_b48_3 X hr  hN hX0 hf
set_option maxRecDepth 4000 in
theorem pX7_addBytes_l3 (X : wCx p s m args meth c RX7 cX7_addBytes 5 D dA b0 ad) (hr : meth.sig.returnType = none)  {v1 : Int64} {KE : (wSt) → Prop} (hX0 : ∀ (nh : wSt), KE (nh) → wM p l e (wR 1) s m args below meth c 0 0 (wE below args s D dA b0 ad S0 F) 5 D dA b0 ad S0 76 [none, none, none, none, none] [] nh) : ∀ (n : Nat) (v3 : Int32) (h : wSt), wok (wit (fun v : (Int32 × wSt) => fX7_addBytes_l3 v.2 v1 v.1) n (v3, h)) KE → wM p l e (wR 1) s m args below meth c 0 0 (wE below args s D dA b0 ad S0 F) 5 D dA b0 ad S0 3 [some (.ref 1), some (.long v1), none, some (.int v3), none] [] h := by
  have key := wit_M (b := (fun v : (Int32 × wSt) => fX7_addBytes_l3 v.2 v1 v.1)) (KE := KE) (G := fun v => wM p l e (wR 1) s m args below meth c 0 0 (wE below args s D dA b0 ad S0 F) 5 D dA b0 ad S0 3 [some (.ref 1), some (.long v1), none, some (.int v.1), none] [] v.2) (fun v K hN hE hf => pX7_addBytes_l3b X hr  (fun n3 nh hz => hN (n3, nh) hz) (fun z0 hz => hX0 z0 (hE _ hz)) hf)
  exact fun n v3 h hf => key n (v3, h) hf
set_option maxRecDepth 4000 in
theorem pX7_addBytes_b0 (X : wCx p s m args meth c RX7 cX7_addBytes 5 D dA b0 ad) (hr : meth.sig.returnType = none) {h : wSt} {x0 : Int64} {K : wSt → Prop} (hT : ∀ (h2 : wSt), K h2 → F none h2) (hf : wok (fX7_addBytes h x0) K) : wM p l e (wR 1) s m args below meth c 0 0 (wE below args s D dA b0 ad S0 F) 5 D dA b0 ad S0 0 [some (.ref 1), some (.long x0), none, none, none] [] h := by
  unfold fX7_addBytes at hf
  refine w_bipush X dX7_addBytes_0 rfl cb_56 ?_
  refine w_istore_n X dX7_addBytes_2 rfl rfl rfl (Nat.le_of_ble_eq_true rfl) (ls' := [some (.ref 1), some (.long x0), none, some (.int 56), none]) rfl ?_
  obtain ⟨ye25, hye25, hf⟩ := wok_b hf
  refine pX7_addBytes_l3 X hr  (KE := fun z => ye25 = z) ?_ 3000 _ _ ⟨ye25, hye25, rfl⟩
  · intro yz26 hz
    subst hz
    exact w_vret X dX7_addBytes_76 hr (hT _ (wok_s hf))
set_option maxRecDepth 4000 in
theorem kX7_addBytes (l : Launch) {h : wSt} {x0 : Int64} {res : wSt} (hf : fX7_addBytes h x0 = some res) : wC l yX7_addBytes cX7_addBytes 5 none 1 S0 [.ref 1, .long x0] h (wFV (fun b => res = b)) := by
  refine w_meth2 2 (by decide) (Nat.le_of_ble_eq_true rfl) (ls := [some (.ref 1), some (.long x0), none, none, none]) rfl ?_
  intro p e s m args below meth c D dA b0 ad X hr
  exact pX7_addBytes_b0 X hr  (K := fun z => res = z) (fun h2 hz => ⟨rfl, hz⟩) ⟨res, hf, rfl⟩
end WX

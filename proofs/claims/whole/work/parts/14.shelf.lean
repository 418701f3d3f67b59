def fX1_start (h : wSt) (x0 : Int32) : Option (wSt) :=
wlet (wuJ h 134 0 x0.toInt64) (fun yh21 =>
some yh21)
def fX1_below (h : wSt) (x0 : Int32) : Option (Int32 × wSt) :=
wlet (wuJ h 134 0 ((((h.2 134 0) * 1103515245) + 12345) &&& 2147483647)) (fun yh21 =>
if x0 ≤ 0 then
some ((0 : Int32), yh21)
else
if ¬ x0.toInt64 = 0 then
some ((((yh21.2 134 0) / 65536) - ((yh21.2 134 0) / 65536) / x0.toInt64 * x0.toInt64).toInt32, yh21)
else none)
def fX6_copyFrom (h : wSt) (k : Nat) (k0 : Nat) : Option (wSt) :=
wlet (wuI h k 1 (h.1 k0 1)) (fun yh21 =>
wlet (wsI yh21 (k + 1) (va_cpy (yh21.1 (k0 + 1)) (yh21.1 (k + 1)) 0 0 3)) (fun yh22 =>
wlet (wsI yh22 (k + 2) (va_cpy (yh22.1 (k0 + 2)) (yh22.1 (k + 2)) 0 0 3)) (fun yh23 =>
wlet (wsI yh23 (k + 3) (va_cpy (yh23.1 (k0 + 3)) (yh23.1 (k + 3)) 0 0 18)) (fun yh24 =>
wlet (wsI yh24 (k + 4) (va_cpy (yh24.1 (k0 + 4)) (yh24.1 (k + 4)) 0 0 18)) (fun yh25 =>
some yh25)))))
def fX6_strip_l12 (h : wSt) (k : Nat) (v1 : Int32) (v2 : Int32) : Option ((Int32 × wSt) ⊕ ((wSt))) :=
if ((6 * v1) + 6) ≤ v2 then
some (.inr h)
else
if wib v2 18 then
wlet (wuI h (k + 3) v2.toNatClampNeg 0) (fun yh24 =>
wlet (wuI yh24 (k + 4) v2.toNatClampNeg 0) (fun yh25 =>
some (.inl ((v2 + 1), yh25))))
else none
def fX6_strip (h : wSt) (k : Nat) (x0 : Int32) : Option (wSt) :=
if wib x0 3 then
wlet (wuI h (k + 2) x0.toNatClampNeg 0) (fun yh22 =>
(wit (fun v : (Int32 × wSt) => fX6_strip_l12 v.2 k x0 v.1) 3000 ((6 * x0), yh22)).bind (fun ye26 =>
some ye26))
else none
def fX6_begin_b46_7 (h : wSt) (k : Nat) (v1 : Int32) (w1 : Int32) (w2 : Int32) : Option ((Int32 × wSt) ⊕ ((wSt))) :=
if wib w1 3 then
wlet (wuI h (k + 1) w1.toNatClampNeg w2) (fun yh24 =>
some (.inl ((v1 + 1), yh24)))
else none
def fX6_begin_l7 (h : wSt) (k : Nat) (v1 : Int32) : Option ((Int32 × wSt) ⊕ ((wSt))) :=
if 3 ≤ v1 then
some (.inr h)
else
(fX6_strip h k v1).bind (fun yr22 =>
if (yr22.1 3 0) ≤ v1 then
fX6_begin_b46_7 yr22 k v1 v1 (0 : Int32)
else
if wib v1 3 then
fX6_begin_b46_7 yr22 k v1 v1 (yr22.1 6 v1.toNatClampNeg)
else none)
def fX6_begin (h : wSt) (k : Nat) : Option (wSt) :=
wlet (wuI h k 1 0) (fun yh21 =>
(wit (fun v : (Int32 × wSt) => fX6_begin_l7 v.2 k v.1) 3000 ((0 : Int32), yh21)).bind (fun ye26 =>
some ye26))
def fX6_damp (h : wSt) (k : Nat) : Option (Int32) :=
(fX4_dampOf h 3 (h.1 k 1)).bind (fun yr21 =>
some yr21)
def fX6_layerAt (h : wSt) (k : Nat) (x0 : Int32) (x1 : Int32) : Option (Int32) :=
if wib x0 18 then
some (((h.1 (k + 4) x0.toNatClampNeg) >>> ((3 * x1) &&& 31)) &&& 7)
else none
def fX6_freeLinesOf_b48_4 (h : wSt) (k : Nat) (v1 : Int32) (v2 : Int32) (v3 : Int32) : Option ((Int32 × Int32) ⊕ ((Int32))) :=
some (.inl (v2, (v3 + 1)))
def fX6_freeLinesOf_l4 (h : wSt) (k : Nat) (v1 : Int32) (v2 : Int32) (v3 : Int32) : Option ((Int32 × Int32) ⊕ ((Int32))) :=
if wib v1 3 then
if (h.1 5 v1.toNatClampNeg) ≤ v3 then
some (.inr v2)
else
if (h.1 (k + 1) v1.toNatClampNeg) ≤ 0 then
some (.inr v2)
else
if wib ((6 * v1) + v3) 18 then
if 9 ≤ (h.1 (k + 3) ((6 * v1) + v3).toNatClampNeg) then
fX6_freeLinesOf_b48_4 h k v1 v2 v3
else
fX6_freeLinesOf_b48_4 h k v1 (v2 ||| (1 <<< (v3 &&& 31))) v3
else none
else none
def fX6_freeLinesOf (h : wSt) (k : Nat) (x0 : Int32) : Option (Int32) :=
(wit (fun v : (Int32 × Int32) => fX6_freeLinesOf_l4 h k x0 v.1 v.2) 3000 ((0 : Int32), (0 : Int32))).bind (fun ye23 =>
if wib x0 3 then
some ((ye23 &&& ((h.1 7 x0.toNatClampNeg) ^^^ (-1))) &&& ((h.1 (k + 2) x0.toNatClampNeg) ^^^ (-1)))
else none)
def fX6_freeLines_l4 (h : wSt) (k : Nat) (v1 : Int32) (v2 : Int32) : Option ((Int32 × Int32) ⊕ ((Int32))) :=
if (h.1 3 0) ≤ v2 then
some (.inr v1)
else
(fX6_freeLinesOf h k v2).bind (fun yr21 =>
wlet (v1 ||| (yr21 <<< ((6 * v2) &&& 31))) (fun yx22 =>
some (.inl (yx22, (v2 + 1)))))
def fX6_freeLines (h : wSt) (k : Nat) : Option (Int32) :=
(wit (fun v : (Int32 × Int32) => fX6_freeLines_l4 h k v.1 v.2) 3000 ((0 : Int32), (0 : Int32))).bind (fun ye23 =>
some ye23)
def fX6_canWrite (h : wSt) (k : Nat) (x0 : Int32) (x1 : Int32) (x2 : Int32) : Option (Bool) :=
if x2 < 0 then
some false
else
if wib x1 3 then
if wib x0 6 then
if x2 ≤ ((h.1 5 x1.toNatClampNeg) - (h.1 11 x0.toNatClampNeg)) then
wlet (((1 <<< ((h.1 11 x0.toNatClampNeg) &&& 31)) - 1) <<< (x2 &&& 31)) (fun yx23 =>
(fX6_freeLinesOf h k x1).bind (fun yr24 =>
if (yx23 &&& (yr24 ^^^ (-1))) = 0 then
some true
else
some false))
else
some false
else none
else none
def fX6_firstPlace_l2 (h : wSt) (k : Nat) (v1 : Int32) (v2 : Int32) (v3 : Int32) : Option ((Int32) ⊕ ((Unit) ⊕ (Int32))) :=
if wib v2 3 then
if (h.1 5 v2.toNatClampNeg) ≤ v3 then
some (.inr (.inl ()))
else
(fX6_canWrite h k v1 v2 v3).bind (fun yr22 =>
if yr22 = true then
some (.inr (.inr v3))
else
some (.inl (v3 + 1)))
else none
def fX6_firstPlace (h : wSt) (k : Nat) (x0 : Int32) (x1 : Int32) : Option (Int32) :=
(wit (fun v : (Int32) => fX6_firstPlace_l2 h k x0 x1 v) 3000 (0 : Int32)).bind (fun ye23 => match ye23 with
| .inl ye23v =>
some (-1 : Int32)
| .inr ye23r =>
some ye23r)
def fX6_put_l3 (h : wSt) (k : Nat) (v1 : Int32) (v2 : Int32) (v3 : Int32) (v4 : Int32) : Option ((Int32 × wSt) ⊕ ((wSt))) :=
if wib v1 6 then
if (v3 + (h.1 11 v1.toNatClampNeg)) ≤ v4 then
some (.inr h)
else
if 6 ≤ v4 then
some (.inr h)
else
if wib ((6 * v2) + v4) 18 then
wlet (wuI h (k + 4) ((6 * v2) + v4).toNatClampNeg ((h.1 (k + 4) ((6 * v2) + v4).toNatClampNeg) ||| (v1 <<< ((3 * (h.1 (k + 3) ((6 * v2) + v4).toNatClampNeg)) &&& 31)))) (fun yh23 =>
wlet (wuI yh23 (k + 3) ((6 * v2) + v4).toNatClampNeg ((yh23.1 (k + 3) ((6 * v2) + v4).toNatClampNeg) + 1)) (fun yh24 =>
if wib v2 3 then
wlet (wuI yh24 (k + 2) v2.toNatClampNeg ((yh24.1 (k + 2) v2.toNatClampNeg) ||| (1 <<< (v4 &&& 31)))) (fun yh26 =>
some (.inl ((v4 + 1), yh26)))
else none))
else none
else none
def fX6_put (h : wSt) (k : Nat) (x0 : Int32) (x1 : Int32) (x2 : Int32) : Option (wSt) :=
(wit (fun v : (Int32 × wSt) => fX6_put_l3 v.2 k x0 x1 x2 v.1) 3000 (x2, h)).bind (fun ye27 =>
some ye27)
def fX6_canRub (h : wSt) (k : Nat) (x0 : Int32) (x1 : Int32) : Option (Bool) :=
if wib x0 3 then
if ((h.1 (k + 2) x0.toNatClampNeg) &&& x1) = 0 then
some false
else
some true
else none
def fX6_wearOf_b97_8 (h : wSt) (k : Nat) (v1 : Int32) (v2 : Int32) (v3 : Int32) (v4 : Int32) (v5 : Int32) : Option ((Int32 × Int32 × Int32) ⊕ ((Int32 × Int32))) :=
some (.inl (v3, v4, (v5 + 1)))
def fX6_wearOf_b94_8 (h : wSt) (k : Nat) (v1 : Int32) (v2 : Int32) (v3 : Int32) (v5 : Int32) (w0 : Int32) (w1 : Int32) : Option ((Int32 × Int32 × Int32) ⊕ ((Int32 × Int32))) :=
fX6_wearOf_b97_8 h k v1 v2 v3 (w0 ||| w1) v5
def fX6_wearOf_l8 (h : wSt) (k : Nat) (v1 : Int32) (v2 : Int32) (v3 : Int32) (v4 : Int32) (v5 : Int32) : Option ((Int32 × Int32 × Int32) ⊕ ((Int32 × Int32))) :=
if 6 ≤ v5 then
some (.inr (v3, v4))
else
if ((v2 >>> (v5 &&& 31)) &&& 1) = 0 then
fX6_wearOf_b97_8 h k v1 v2 v3 v4 v5
else
if wib ((6 * v1) + v5) 18 then
if (h.1 (k + 3) ((6 * v1) + v5).toNatClampNeg) ≤ 0 then
fX6_wearOf_b97_8 h k v1 v2 v3 v4 v5
else
(fX6_layerAt h k ((6 * v1) + v5) ((h.1 (k + 3) ((6 * v1) + v5).toNatClampNeg) - 1)).bind (fun yr22 =>
if wib yr22 6 then
wlet (v3 ||| (h.1 10 yr22.toNatClampNeg)) (fun yx24 =>
if (h.1 9 yr22.toNatClampNeg) = 3 then
fX6_wearOf_b94_8 h k v1 v2 yx24 v5 v4 (1 : Int32)
else
fX6_wearOf_b94_8 h k v1 v2 yx24 v5 v4 (0 : Int32))
else none)
else none
def fX6_wearOf (h : wSt) (k : Nat) (x0 : Int32) (x1 : Int32) : Option (Int32) :=
(wit (fun v : (Int32 × Int32 × Int32) => fX6_wearOf_l8 h k x0 x1 v.1 v.2.1 v.2.2) 3000 ((0 : Int32), (0 : Int32), (0 : Int32))).bind (fun ye25 =>
some ((1 + ye25.1) + ye25.2))
def fX6_rub (h : wSt) (k : Nat) (x0 : Int32) (x1 : Int32) : Option (Bool × wSt) :=
if wib x0 3 then
wlet ((h.1 (k + 2) x0.toNatClampNeg) &&& x1) (fun yx22 =>
if yx22 = 0 then
some (false, h)
else
(fX6_wearOf h k x0 yx22).bind (fun yr23 =>
wlet (wuI h (k + 1) x0.toNatClampNeg (wmx (0 : Int32) ((h.1 (k + 1) x0.toNatClampNeg) - yr23))) (fun yh24 =>
wlet (wuI yh24 (k + 2) x0.toNatClampNeg ((yh24.1 (k + 2) x0.toNatClampNeg) &&& (yx22 ^^^ (-1)))) (fun yh25 =>
if (yh25.1 (k + 1) x0.toNatClampNeg) = 0 then
(fX6_strip yh25 k x0).bind (fun yr26 =>
some (true, yr26))
else
some (true, yh25)))))
else none
def fX6_writeIfCan (h : wSt) (k : Nat) (x0 : Int32) (x1 : Int32) (x2 : Int32) : Option (Bool × wSt) :=
(fX6_canWrite h k x0 x1 x2).bind (fun yr21 =>
if yr21 = true then
(fX6_put h k x0 x1 x2).bind (fun yr22 =>
some (true, yr22))
else
some (false, h))
def fX6_follow_b103 (h : wSt) (k : Nat) (w1 : Int32) (w2 : Int32) : Option (Bool × wSt) :=
(fX6_rub h k w1 w2).bind (fun yr22 =>
some (yr22.1, yr22.2))
def fX6_follow (h : wSt) (k : Nat) (x0 : Int32) : Option (Bool × wSt) :=
if (x0 / 1000) = 3 then
wlet (wuI h k 1 ((h.1 k 1) + 1)) (fun yh26 =>
some (true, yh26))
else
(fX4_hasSkin h 3 ((x0 / 10) - (x0 / 10) / 10 * 10)).bind (fun yr21 =>
if yr21 = true then
if (x0 / 1000) = 0 then
wlet ((x0 / 100) - (x0 / 100) / 10 * 10) (fun yx23 =>
(fX4_hasText h 3 yx23).bind (fun yr24 =>
if yr24 = true then
(fX6_writeIfCan h k yx23 ((x0 / 10) - (x0 / 10) / 10 * 10) (x0 - x0 / 10 * 10)).bind (fun yr25 =>
if yr25.1 = true then
some (true, yr25.2)
else
some (false, yr25.2))
else
some (false, h)))
else
if (x0 / 1000) = 1 then
fX6_follow_b103 h k ((x0 / 10) - (x0 / 10) / 10 * 10) (63 : Int32)
else
fX6_follow_b103 h k ((x0 / 10) - (x0 / 10) / 10 * 10) (9 : Int32)
else
some (false, h))
def fX6_liveByDraws_b72 (h : wSt) (k : Nat) (w1 : Int32) (w2 : Int32) : Option (Bool × wSt) :=
(fX6_rub h k w1 w2).bind (fun yr26 =>
some (false, yr26.2))
def fX6_liveByDraws (h : wSt) (k : Nat) : Option (Bool × wSt) :=
(fX1_below h (h.1 3 5)).bind (fun yr21 =>
(fX1_below yr21.2 (yr21.2.1 3 0)).bind (fun yr22 =>
(fX1_below yr22.2 (6 : Int32)).bind (fun yr23 =>
(fX6_writeIfCan yr23.2 k yr21.1 yr22.1 yr23.1).bind (fun yr24 =>
if yr24.1 = true then
some (true, yr24.2)
else
(fX1_below yr24.2 (3 : Int32)).bind (fun yr25 =>
if 2 ≤ yr25.1 then
some (false, yr25.2)
else
if yr25.1 = 0 then
fX6_liveByDraws_b72 yr25.2 k yr22.1 (63 : Int32)
else
fX6_liveByDraws_b72 yr25.2 k yr22.1 (9 : Int32))))))
def fX6_shown_l49 (h : wSt) (k : Nat) (v1 : Int32) (v3 : Int32) (v4 : Int32) (v5 : Int32) (v6 : Int32) : Option ((Int32 × wSt) ⊕ ((wSt) ⊕ (Int32 × wSt))) :=
if v5 < v6 then
some (.inr (.inl h))
else
(fX6_layerAt h k v4 (v5 - v6)).bind (fun yr23 =>
if wib v1 3 then
(fX4_showsText h 3 yr23 v6 v3 (h.1 (k + 1) v1.toNatClampNeg)).bind (fun yr25 =>
if yr25.1 = true then
some (.inr (.inr (yr23, yr25.2)))
else
some (.inl ((v6 + 1), yr25.2)))
else none)
def fX6_shown_b46 (h : wSt) (k : Nat) (v1 : Int32) (v3 : Int32) (v4 : Int32) (v5 : Int32) : Option (Int32 × wSt) :=
(wit (fun v : (Int32 × wSt) => fX6_shown_l49 v.2 k v1 v3 v4 v5 v.1) 3000 ((1 : Int32), h)).bind (fun ye26 => match ye26 with
| .inl ye26v =>
some ((-1 : Int32), ye26v)
| .inr ye26r =>
some ye26r)
def fX6_shown (h : wSt) (k : Nat) (x0 : Int32) (x1 : Int32) (x2 : Int32) : Option (Int32 × wSt) :=
if wib ((6 * x0) + x1) 18 then
wlet (h.1 (k + 3) ((6 * x0) + x1).toNatClampNeg) (fun yx22 =>
if yx22 ≤ 0 then
fX6_shown_b46 h k x0 x2 ((6 * x0) + x1) yx22
else
if wib x0 3 then
if (((h.1 (k + 2) x0.toNatClampNeg) >>> (x1 &&& 31)) &&& 1) = 0 then
fX6_shown_b46 h k x0 x2 ((6 * x0) + x1) yx22
else
(fX6_layerAt h k ((6 * x0) + x1) (yx22 - 1)).bind (fun yr29 =>
some (yr29, h))
else none)
else none
def fX6_shownLines_b38_5 (h : wSt) (k : Nat) (v1 : Int32) (v2 : Int32) (v3 : Int32) (v4 : Int32) : Option ((Int32 × Int32 × wSt) ⊕ ((Int32 × wSt))) :=
some (.inl (v3, (v4 + 1), h))
def fX6_shownLines_l5 (h : wSt) (k : Nat) (v1 : Int32) (v2 : Int32) (v3 : Int32) (v4 : Int32) : Option ((Int32 × Int32 × wSt) ⊕ ((Int32 × wSt))) :=
if wib v1 3 then
if (h.1 5 v1.toNatClampNeg) ≤ v4 then
some (.inr (v3, h))
else
(fX6_shown h k v1 v4 v2).bind (fun yr22 =>
if yr22.1 = (-1) then
fX6_shownLines_b38_5 yr22.2 k v1 v2 v3 v4
else
fX6_shownLines_b38_5 yr22.2 k v1 v2 (v3 ||| (1 <<< (v4 &&& 31))) v4)
else none
def fX6_shownLines (h : wSt) (k : Nat) (x0 : Int32) (x1 : Int32) : Option (Int32 × wSt) :=
(wit (fun v : (Int32 × Int32 × wSt) => fX6_shownLines_l5 v.2.2 k x0 x1 v.1 v.2.1) 3000 ((0 : Int32), (0 : Int32), h)).bind (fun ye23 =>
some (ye23.1, ye23.2))
def fX6_shownTexts_b57_18 (h : wSt) (k : Nat) (v1 : Int32) (v3 : Int32) (v4 : Int32) (w0 : Int32) (w1 : Int32) : Option ((Int32 × Int32 × wSt) ⊕ ((Int32 × wSt))) :=
some (.inl ((w0 ||| w1), (v4 + 1), h))
def fX6_shownTexts_l18 (h : wSt) (k : Nat) (v1 : Int32) (v3 : Int32) (v2 : Int32) (v4 : Int32) : Option ((Int32 × Int32 × wSt) ⊕ ((Int32 × wSt))) :=
if wib v3 3 then
if (h.1 5 v3.toNatClampNeg) ≤ v4 then
some (.inr (v2, h))
else
(fX6_shown h k v3 v4 v1).bind (fun yr22 =>
if yr22.1 = (-1) then
fX6_shownTexts_b57_18 yr22.2 k v1 v3 v4 v2 (0 : Int32)
else
fX6_shownTexts_b57_18 yr22.2 k v1 v3 v4 v2 (1 <<< (yr22.1 &&& 31)))
else none
def fX6_shownTexts_l4 (h : wSt) (k : Nat) (v1 : Int32) (v2 : Int32) (v3 : Int32) : Option ((Int32 × Int32 × wSt) ⊕ ((Int32 × wSt))) :=
if (h.1 3 0) ≤ v3 then
some (.inr (v2, h))
else
(wit (fun v : (Int32 × Int32 × wSt) => fX6_shownTexts_l18 v.2.2 k v1 v3 v.1 v.2.1) 3000 (v2, (0 : Int32), h)).bind (fun ye23 =>
some (.inl (ye23.1, (v3 + 1), ye23.2)))
def fX6_shownTexts (h : wSt) (k : Nat) (x0 : Int32) : Option (Int32 × wSt) :=
(wit (fun v : (Int32 × Int32 × wSt) => fX6_shownTexts_l4 v.2.2 k x0 v.1 v.2.1) 3000 ((0 : Int32), (0 : Int32), h)).bind (fun ye26 =>
some (ye26.1, ye26.2))
def fX6_made_b51_20 (h : wSt) (k : Nat) (v1 : Int32) (v2 : Int32) (v3 : Int32) (v4 : Int32) (v5 : Int32) : Option ((Int32 × Int32 × wSt) ⊕ ((Int32 × wSt))) :=
some (.inl (v3, (v5 + 1), h))
def fX6_made_l20 (h : wSt) (k : Nat) (v1 : Int32) (v2 : Int32) (v4 : Int32) (v3 : Int32) (v5 : Int32) : Option ((Int32 × Int32 × wSt) ⊕ ((Int32 × wSt))) :=
if wib v4 3 then
if (h.1 5 v4.toNatClampNeg) ≤ v5 then
some (.inr (v3, h))
else
(fX6_shown h k v4 v5 v2).bind (fun yr22 =>
if yr22.1 = v1 then
fX6_made_b51_20 yr22.2 k v1 v2 (v3 + 1) v4 v5
else
fX6_made_b51_20 yr22.2 k v1 v2 v3 v4 v5)
else none
def fX6_made_l5 (h : wSt) (k : Nat) (v1 : Int32) (v2 : Int32) (v3 : Int32) (v4 : Int32) : Option ((Int32 × Int32 × wSt) ⊕ ((Int32 × wSt))) :=
if (h.1 3 0) ≤ v4 then
some (.inr (v3, h))
else
(wit (fun v : (Int32 × Int32 × wSt) => fX6_made_l20 v.2.2 k v1 v2 v4 v.1 v.2.1) 3000 (v3, (0 : Int32), h)).bind (fun ye23 =>
some (.inl (ye23.1, (v4 + 1), ye23.2)))
def fX6_made (h : wSt) (k : Nat) (x0 : Int32) (x1 : Int32) : Option (Int32 × wSt) :=
(wit (fun v : (Int32 × Int32 × wSt) => fX6_made_l5 v.2.2 k x0 x1 v.1 v.2.1) 3000 ((0 : Int32), (0 : Int32), h)).bind (fun ye26 =>
some (ye26.1, ye26.2))
def fX6_wholeTexts_b97_24 (h : wSt) (k : Nat) (v1 : Int32) (v2 : Int32) (v3 : Int32) (v4 : Int32) (v5 : Int32) (v6 : Int32) : Option ((Int32 × Int32 × Int32 × Int32 × wSt) ⊕ ((Int32 × wSt))) :=
some (.inl (v2, v4, v5, (v6 + 1), h))
def fX6_wholeTexts_b63_24 (h : wSt) (k : Nat) (v1 : Int32) (v2 : Int32) (v3 : Int32) (v6 : Int32) (v7 : Int32) (w0 : Int32) : Option ((Int32 × Int32 × Int32 × Int32 × wSt) ⊕ ((Int32 × wSt))) :=
if v7 = (-1) then
fX6_wholeTexts_b97_24 h k v1 v2 v3 v7 w0 v6
else
if wib v7 6 then
if w0 < (h.1 11 v7.toNatClampNeg) then
fX6_wholeTexts_b97_24 h k v1 v2 v3 v7 w0 v6
else
fX6_wholeTexts_b97_24 h k v1 (v2 ||| (1 <<< (v7 &&& 31))) v3 v7 w0 v6
else none
def fX6_wholeTexts_l24 (h : wSt) (k : Nat) (v1 : Int32) (v3 : Int32) (v2 : Int32) (v4 : Int32) (v5 : Int32) (v6 : Int32) : Option ((Int32 × Int32 × Int32 × Int32 × wSt) ⊕ ((Int32 × wSt))) :=
if wib v3 3 then
if (h.1 5 v3.toNatClampNeg) ≤ v6 then
some (.inr (v2, h))
else
(fX6_shown h k v3 v6 v1).bind (fun yr22 =>
if yr22.1 = v4 then
fX6_wholeTexts_b63_24 yr22.2 k v1 v2 v3 v6 yr22.1 (v5 + 1)
else
fX6_wholeTexts_b63_24 yr22.2 k v1 v2 v3 v6 yr22.1 (1 : Int32))
else none
def fX6_wholeTexts_l4 (h : wSt) (k : Nat) (v1 : Int32) (v2 : Int32) (v3 : Int32) : Option ((Int32 × Int32 × wSt) ⊕ ((Int32 × wSt))) :=
if (h.1 3 0) ≤ v3 then
some (.inr (v2, h))
else
(wit (fun v : (Int32 × Int32 × Int32 × Int32 × wSt) => fX6_wholeTexts_l24 v.2.2.2.2 k v1 v3 v.1 v.2.1 v.2.2.1 v.2.2.2.1) 3000 (v2, (-1 : Int32), (0 : Int32), (0 : Int32), h)).bind (fun ye24 =>
some (.inl (ye24.1, (v3 + 1), ye24.2)))
def fX6_wholeTexts (h : wSt) (k : Nat) (x0 : Int32) : Option (Int32 × wSt) :=
(wit (fun v : (Int32 × Int32 × wSt) => fX6_wholeTexts_l4 v.2.2 k x0 v.1 v.2.1) 3000 ((0 : Int32), (0 : Int32), h)).bind (fun ye27 =>
some (ye27.1, ye27.2))
def fX6_isWhole (h : wSt) (k : Nat) (x0 : Int32) (x1 : Int32) : Option (Bool × wSt) :=
(fX6_wholeTexts h k x1).bind (fun yr21 =>
if ((yr21.1 >>> (x0 &&& 31)) &&& 1) = 0 then
some (false, yr21.2)
else
some (true, yr21.2))
def fX6_textsLaid_l12 (h : wSt) (k : Nat) (v2 : Int32) (v1 : Int32) (v3 : Int32) : Option ((Int32 × Int32) ⊕ ((Int32))) :=
if wib v2 18 then
if (h.1 (k + 3) v2.toNatClampNeg) ≤ v3 then
some (.inr v1)
else
(fX6_layerAt h k v2 v3).bind (fun yr22 =>
some (.inl ((v1 ||| (1 <<< (yr22 &&& 31))), (v3 + 1))))
else none
def fX6_textsLaid_l4 (h : wSt) (k : Nat) (v1 : Int32) (v2 : Int32) : Option ((Int32 × Int32) ⊕ ((Int32))) :=
if 18 ≤ v2 then
some (.inr v1)
else
(wit (fun v : (Int32 × Int32) => fX6_textsLaid_l12 h k v2 v.1 v.2) 3000 (v1, (0 : Int32))).bind (fun ye23 =>
some (.inl (ye23, (v2 + 1))))
def fX6_textsLaid (h : wSt) (k : Nat) : Option (Int32) :=
(wit (fun v : (Int32 × Int32) => fX6_textsLaid_l4 h k v.1 v.2) 3000 ((0 : Int32), (0 : Int32))).bind (fun ye25 =>
some ye25)
def fX6_textsOver_b65_16 (h : wSt) (k : Nat) (v1 : Int32) (v2 : Int32) (v3 : Int32) (v5 : Int32) (w0 : Int32) (w1 : Int32) : Option ((Int32 × Int32 × Int32) ⊕ ((Int32))) :=
some (.inl (v2, (w0 ||| w1), (v5 + 1)))
def fX6_textsOver_b50_16 (h : wSt) (k : Nat) (v1 : Int32) (v3 : Int32) (v4 : Int32) (v5 : Int32) (v6 : Int32) (w0 : Int32) (w1 : Int32) : Option ((Int32 × Int32 × Int32) ⊕ ((Int32))) :=
if v6 = v1 then
fX6_textsOver_b65_16 h k v1 (w0 ||| w1) v3 v5 v4 (1 : Int32)
else
fX6_textsOver_b65_16 h k v1 (w0 ||| w1) v3 v5 v4 (0 : Int32)
def fX6_textsOver_l16 (h : wSt) (k : Nat) (v1 : Int32) (v3 : Int32) (v2 : Int32) (v4 : Int32) (v5 : Int32) : Option ((Int32 × Int32 × Int32) ⊕ ((Int32))) :=
if wib v3 18 then
if (h.1 (k + 3) v3.toNatClampNeg) ≤ v5 then
some (.inr v2)
else
(fX6_layerAt h k v3 v5).bind (fun yr22 =>
if v4 = 0 then
fX6_textsOver_b50_16 h k v1 v3 v4 v5 yr22 v2 (0 : Int32)
else
fX6_textsOver_b50_16 h k v1 v3 v4 v5 yr22 v2 (1 <<< (yr22 &&& 31)))
else none
def fX6_textsOver_l4 (h : wSt) (k : Nat) (v1 : Int32) (v2 : Int32) (v3 : Int32) : Option ((Int32 × Int32) ⊕ ((Int32))) :=
if 18 ≤ v3 then
some (.inr v2)
else
(wit (fun v : (Int32 × Int32 × Int32) => fX6_textsOver_l16 h k v1 v3 v.1 v.2.1 v.2.2) 3000 (v2, (0 : Int32), (0 : Int32))).bind (fun ye23 =>
some (.inl (ye23, (v3 + 1))))
def fX6_textsOver (h : wSt) (k : Nat) (x0 : Int32) : Option (Int32) :=
(wit (fun v : (Int32 × Int32) => fX6_textsOver_l4 h k x0 v.1 v.2) 3000 ((0 : Int32), (0 : Int32))).bind (fun ye25 =>
some ye25)
def fX6_pairsAlike_b59_12 (h : wSt) (k : Nat) (v1 : Int32) (v2 : Int32) (v3 : Int32) : Option ((Int32 × Int32) ⊕ ((Int32))) :=
some (.inl (v1, (v3 + 1)))
def fX6_pairsAlike_l12 (h : wSt) (k : Nat) (v2 : Int32) (v1 : Int32) (v3 : Int32) : Option ((Int32 × Int32) ⊕ ((Int32))) :=
if v2 ≤ v3 then
some (.inr v1)
else
if wib v2 18 then
if (h.1 (k + 3) v2.toNatClampNeg) ≤ 0 then
fX6_pairsAlike_b59_12 h k v1 v2 v3
else
if wib v3 18 then
if (h.1 (k + 3) v2.toNatClampNeg) = (h.1 (k + 3) v3.toNatClampNeg) then
if (h.1 (k + 4) v2.toNatClampNeg) = (h.1 (k + 4) v3.toNatClampNeg) then
fX6_pairsAlike_b59_12 h k (v1 + 1) v2 v3
else
fX6_pairsAlike_b59_12 h k v1 v2 v3
else
fX6_pairsAlike_b59_12 h k v1 v2 v3
else none
else none
def fX6_pairsAlike_l4 (h : wSt) (k : Nat) (v1 : Int32) (v2 : Int32) : Option ((Int32 × Int32) ⊕ ((Int32))) :=
if 18 ≤ v2 then
some (.inr v1)
else
(wit (fun v : (Int32 × Int32) => fX6_pairsAlike_l12 h k v2 v.1 v.2) 3000 (v1, (0 : Int32))).bind (fun ye23 =>
some (.inl (ye23, (v2 + 1))))
def fX6_pairsAlike (h : wSt) (k : Nat) : Option (Int32) :=
(wit (fun v : (Int32 × Int32) => fX6_pairsAlike_l4 h k v.1 v.2) 3000 ((0 : Int32), (0 : Int32))).bind (fun ye25 =>
some ye25)
def fX6_layersTogether_l4 (h : wSt) (k : Nat) (v1 : Int32) (v2 : Int32) : Option ((Int32 × Int32) ⊕ ((Int32))) :=
if 18 ≤ v2 then
some (.inr v1)
else
if wib v2 18 then
wlet (v1 + (h.1 (k + 3) v2.toNatClampNeg)) (fun yx22 =>
some (.inl (yx22, (v2 + 1))))
else none
def fX6_layersTogether (h : wSt) (k : Nat) : Option (Int32) :=
(wit (fun v : (Int32 × Int32) => fX6_layersTogether_l4 h k v.1 v.2) 3000 ((0 : Int32), (0 : Int32))).bind (fun ye23 =>
some ye23)
def fX6_thickTogether_l4 (h : wSt) (k : Nat) (v1 : Int32) (v2 : Int32) : Option ((Int32 × Int32) ⊕ ((Int32))) :=
if (h.1 3 0) ≤ v2 then
some (.inr v1)
else
if wib v2 3 then
wlet (v1 + (h.1 (k + 1) v2.toNatClampNeg)) (fun yx22 =>
some (.inl (yx22, (v2 + 1))))
else none
def fX6_thickTogether (h : wSt) (k : Nat) : Option (Int32) :=
(wit (fun v : (Int32 × Int32) => fX6_thickTogether_l4 h k v.1 v.2) 3000 ((0 : Int32), (0 : Int32))).bind (fun ye23 =>
some ye23)
def fX6_goneSkins_b32_4 (h : wSt) (k : Nat) (v2 : Int32) (w0 : Int32) (w1 : Int32) : Option ((Int32 × Int32) ⊕ ((Int32))) :=
some (.inl ((w0 ||| w1), (v2 + 1)))
def fX6_goneSkins_l4 (h : wSt) (k : Nat) (v1 : Int32) (v2 : Int32) : Option ((Int32 × Int32) ⊕ ((Int32))) :=
if (h.1 3 0) ≤ v2 then
some (.inr v1)
else
if wib v2 3 then
if (h.1 (k + 1) v2.toNatClampNeg) = 0 then
fX6_goneSkins_b32_4 h k v2 v1 (1 <<< (v2 &&& 31))
else
fX6_goneSkins_b32_4 h k v2 v1 (0 : Int32)
else none
def fX6_goneSkins (h : wSt) (k : Nat) : Option (Int32) :=
(wit (fun v : (Int32 × Int32) => fX6_goneSkins_l4 h k v.1 v.2) 3000 ((0 : Int32), (0 : Int32))).bind (fun ye22 =>
some ye22)
section WX
variable {p : Program} {l : Launch} {e : Env} {s : State} {m : MethodId} {args : Array Value} {below : List Frame} {meth : Method} {c : Code} {D : va_G} {dA : Nat → ClassId} {b0 : Nat} {ad : Nat → Nat} {F : Option Value → wSt → Prop}
set_option maxRecDepth 4000 in
theorem pX1_start_b0 (X : wCx p s m args meth c RX1 cX1_start 2 D dA b0 ad) (hr : meth.sig.returnType = none) {h : wSt} {x0 : Int32} {K : wSt → Prop} (hT : ∀ (h2 : wSt), K h2 → F none h2) (hf : wok (fX1_start h x0) K) : wM p l e (wR 1) s m args below meth c 0 0 (wE below args s D dA b0 ad S0 F) 2 D dA b0 ad S0 0 [some (.ref 134), some (.int x0)] [] h := by
  unfold fX1_start at hf
  refine w_aload_n X dX1_start_0 rfl rfl rfl ?_
  refine w_iload_n X dX1_start_1 rfl rfl rfl ?_
  refine w_i2l X dX1_start_2 rfl ?_
  refine w_putJ X dX1_start_3 rfl fp_X1_7 S0_134 rfl ?_
  refine w_nmh (fun yh21 eyh21 => ?_)
  have hf := wok_l hf eyh21
  exact w_vret X dX1_start_6 hr (hT _ (wok_s hf))
set_option maxRecDepth 4000 in
theorem kX1_start (l : Launch) {h : wSt} {x0 : Int32} {res : wSt} (hf : fX1_start h x0 = some res) : wC l yX1_start cX1_start 2 none 1 S0 [.ref 134, .int x0] h (wFV (fun b => res = b)) := by
  refine w_meth2 0 (by decide) (Nat.le_of_ble_eq_true rfl) (ls := [some (.ref 134), some (.int x0)]) rfl ?_
  intro p e s m args below meth c D dA b0 ad X hr
  exact pX1_start_b0 X hr  (K := fun z => res = z) (fun h2 hz => ⟨rfl, hz⟩) ⟨res, hf, rfl⟩
set_option maxRecDepth 4000 in
theorem pX1_below_b0 (X : wCx p s m args meth c RX1 cX1_below 2 D dA b0 ad) (hr : meth.sig.returnType = (some .int)) {h : wSt} {x0 : Int32} {K : Int32 × wSt → Prop} (hT : ∀ (x : Int32) (h2 : wSt), K (x, h2) → F (some (.int x)) h2) (hf : wok (fX1_below h x0) K) : wM p l e (wR 1) s m args below meth c 0 0 (wE below args s D dA b0 ad S0 F) 2 D dA b0 ad S0 0 [some (.ref 134), some (.int x0)] [] h := by
  unfold fX1_below at hf
  refine w_aload_n X dX1_below_0 rfl rfl rfl ?_
  refine w_aload_n X dX1_below_1 rfl rfl rfl ?_
  refine w_getJ X dX1_below_2 rfl fl_X1_7 S0_134 rfl ?_
  refine w_ldc2 X dX1_below_5 rfl wd_1058 ?_
  refine w_lmul X dX1_below_8 rfl ?_
  refine w_ldc2 X dX1_below_9 rfl wd_1059 ?_
  refine w_ladd X dX1_below_12 rfl ?_
  refine w_ldc2 X dX1_below_13 rfl wd_1060 ?_
  refine w_land X dX1_below_16 rfl ?_
  refine w_putJ X dX1_below_17 rfl fp_X1_7 S0_134 rfl ?_
  refine w_nmh (fun yh21 eyh21 => ?_)
  have hf := wok_l hf eyh21
  refine w_iload_n X dX1_below_20 rfl rfl rfl ?_
  refine w_if_le X dX1_below_21 rfl (t := 39) rfl (fun hc => ?_) (fun hc => ?_)
  · have hf := wok_t hf hc
    refine w_iconst X dX1_below_39 rfl ci_0 ?_
    exact w_iret X dX1_below_40 hr (hT _ _ (wok_s hf))
  · have hf := wok_f hf hc
    refine w_aload_n X dX1_below_24 rfl rfl rfl ?_
    refine w_getJ X dX1_below_25 rfl fl_X1_7 S0_134 rfl ?_
    refine w_ldc2 X dX1_below_28 rfl wd_1061 ?_
    refine w_ldiv X dX1_below_31 rfl (by decide) ?_
    refine w_iload_n X dX1_below_32 rfl rfl rfl ?_
    refine w_i2l X dX1_below_33 rfl ?_
    obtain ⟨yhg22, hf⟩ := wok_g hf
    refine w_lrem X dX1_below_34 rfl yhg22 ?_
    refine w_l2i X dX1_below_35 rfl ?_
    refine w_goto X dX1_below_36 (t := 40) rfl ?_
    exact w_iret X dX1_below_40 hr (hT _ _ (wok_s hf))
set_option maxRecDepth 4000 in
theorem kX1_below (l : Launch) {h : wSt} {x0 : Int32} {res : Int32 × wSt} (hf : fX1_below h x0 = some res) : wC l yX1_below cX1_below 2 (some .int) 1 S0 [.ref 134, .int x0] h (wFI (fun a b => res.1 = a ∧ res.2 = b)) := by
  refine w_meth2 0 (by decide) (Nat.le_of_ble_eq_true rfl) (ls := [some (.ref 134), some (.int x0)]) rfl ?_
  intro p e s m args below meth c D dA b0 ad X hr
  exact pX1_below_b0 X hr  (K := fun z => res = z) (fun x h2 hz => ⟨x, rfl, by rw [hz], by rw [hz]⟩) ⟨res, hf, rfl⟩
set_option maxRecDepth 4000 in
theorem pX6_copyFrom_b0 (X : wCx p s m args meth c RX6 cX6_copyFrom 2 D dA b0 ad) (hr : meth.sig.returnType = none) {h : wSt} {k : Nat} {k0 : Nat} (hk : wI6 k) (hk0 : wI6 k0) {K : wSt → Prop} (hT : ∀ (h2 : wSt), K h2 → F none h2) (hf : wok (fX6_copyFrom h k k0) K) : wM p l e (wR 1) s m args below meth c 0 0 (wE below args s D dA b0 ad S0 F) 2 D dA b0 ad S0 0 [some (.ref k), some (.ref k0)] [] h := by
  unfold fX6_copyFrom at hf
  refine w_aload_n X dX6_copyFrom_0 rfl rfl rfl ?_
  refine w_aload_n X dX6_copyFrom_1 rfl rfl rfl ?_
  refine w_getI X dX6_copyFrom_2 rfl fl_X6_28 hk0.1 rfl ?_
  refine w_putI X dX6_copyFrom_5 rfl fp_X6_28 hk.1 rfl ?_
  refine w_nmh (fun yh21 eyh21 => ?_)
  have hf := wok_l hf eyh21
  refine w_aload_n X dX6_copyFrom_8 rfl rfl rfl ?_
  refine w_getR X dX6_copyFrom_9 rfl fl_X6_9 hk0.1 rfl ?_
  refine w_iconst X dX6_copyFrom_12 rfl ci_0 ?_
  refine w_aload_n X dX6_copyFrom_13 rfl rfl rfl ?_
  refine w_getR X dX6_copyFrom_14 rfl fl_X6_9 hk.1 rfl ?_
  refine w_iconst X dX6_copyFrom_17 rfl ci_0 ?_
  refine w_iconst X dX6_copyFrom_18 rfl ci_3 ?_
  refine w_copyI X dX6_copyFrom_19 rfl cn_0 cn_0 (n2 := 3) cn_3 wd_820 wd_659 wd_658 wd_19 hk0.2.1 hk.2.1 (by decide) (by decide) (by decide) (Nat.le_of_ble_eq_true rfl) (Nat.le_of_ble_eq_true rfl) (Nat.le_of_ble_eq_true rfl) (Nat.le_of_ble_eq_true rfl) ?_
  refine w_nmh (fun yh22 eyh22 => ?_)
  have hf := wok_l hf eyh22
  refine w_aload_n X dX6_copyFrom_22 rfl rfl rfl ?_
  refine w_getR X dX6_copyFrom_23 rfl fl_X6_15 hk0.1 rfl ?_
  refine w_iconst X dX6_copyFrom_26 rfl ci_0 ?_
  refine w_aload_n X dX6_copyFrom_27 rfl rfl rfl ?_
  refine w_getR X dX6_copyFrom_28 rfl fl_X6_15 hk.1 rfl ?_
  refine w_iconst X dX6_copyFrom_31 rfl ci_0 ?_
  refine w_iconst X dX6_copyFrom_32 rfl ci_3 ?_
  refine w_copyI X dX6_copyFrom_33 rfl cn_0 cn_0 (n2 := 3) cn_3 wd_820 wd_659 wd_658 wd_19 hk0.2.2.1 hk.2.2.1 (by decide) (by decide) (by decide) (Nat.le_of_ble_eq_true rfl) (Nat.le_of_ble_eq_true rfl) (Nat.le_of_ble_eq_true rfl) (Nat.le_of_ble_eq_true rfl) ?_
  refine w_nmh (fun yh23 eyh23 => ?_)
  have hf := wok_l hf eyh23
  refine w_aload_n X dX6_copyFrom_36 rfl rfl rfl ?_
  refine w_getR X dX6_copyFrom_37 rfl fl_X6_18 hk0.1 rfl ?_
  refine w_iconst X dX6_copyFrom_40 rfl ci_0 ?_
  refine w_aload_n X dX6_copyFrom_41 rfl rfl rfl ?_
  refine w_getR X dX6_copyFrom_42 rfl fl_X6_18 hk.1 rfl ?_
  refine w_iconst X dX6_copyFrom_45 rfl ci_0 ?_
  refine w_bipush X dX6_copyFrom_46 rfl cb_18 ?_
  refine w_copyI X dX6_copyFrom_48 rfl cn_0 cn_0 (n2 := 18) cn_18 wd_820 wd_659 wd_658 wd_19 hk0.2.2.2.1 hk.2.2.2.1 (by decide) (by decide) (by decide) (Nat.le_of_ble_eq_true rfl) (Nat.le_of_ble_eq_true rfl) (Nat.le_of_ble_eq_true rfl) (Nat.le_of_ble_eq_true rfl) ?_
  refine w_nmh (fun yh24 eyh24 => ?_)
  have hf := wok_l hf eyh24
  refine w_aload_n X dX6_copyFrom_51 rfl rfl rfl ?_
  refine w_getR X dX6_copyFrom_52 rfl fl_X6_21 hk0.1 rfl ?_
  refine w_iconst X dX6_copyFrom_55 rfl ci_0 ?_
  refine w_aload_n X dX6_copyFrom_56 rfl rfl rfl ?_
  refine w_getR X dX6_copyFrom_57 rfl fl_X6_21 hk.1 rfl ?_
  refine w_iconst X dX6_copyFrom_60 rfl ci_0 ?_
  refine w_bipush X dX6_copyFrom_61 rfl cb_18 ?_
  refine w_copyI X dX6_copyFrom_63 rfl cn_0 cn_0 (n2 := 18) cn_18 wd_820 wd_659 wd_658 wd_19 hk0.2.2.2.2 hk.2.2.2.2 (by decide) (by decide) (by decide) (Nat.le_of_ble_eq_true rfl) (Nat.le_of_ble_eq_true rfl) (Nat.le_of_ble_eq_true rfl) (Nat.le_of_ble_eq_true rfl) ?_
  refine w_nmh (fun yh25 eyh25 => ?_)
  have hf := wok_l hf eyh25
  exact w_vret X dX6_copyFrom_66 hr (hT _ (wok_s hf))
set_option maxRecDepth 4000 in
theorem kX6_copyFrom (l : Launch) {h : wSt} {k : Nat} {k0 : Nat} (hk : wI6 k) (hk0 : wI6 k0) {res : wSt} (hf : fX6_copyFrom h k k0 = some res) : wC l yX6_copyFrom cX6_copyFrom 2 none 1 S0 [.ref k, .ref k0] h (wFV (fun b => res = b)) := by
  refine w_meth2 0 (by decide) (Nat.le_of_ble_eq_true rfl) (ls := [some (.ref k), some (.ref k0)]) rfl ?_
  intro p e s m args below meth c D dA b0 ad X hr
  exact pX6_copyFrom_b0 X hr hk hk0 (K := fun z => res = z) (fun h2 hz => ⟨rfl, hz⟩) ⟨res, hf, rfl⟩
set_option maxRecDepth 4000 in
theorem pX6_strip_l12b (X : wCx p s m args meth c RX6 cX6_strip 3 D dA b0 ad) (hr : meth.sig.returnType = none) {h : wSt} {k : Nat} {v1 : Int32} {v2 : Int32} (hk : wI6 k) {K : (Int32 × wSt) ⊕ ((wSt)) → Prop} (hN : ∀ (n2 : Int32) (nh : wSt), K (.inl (n2, nh)) → wM p l e (wR 1) s m args below meth c 0 0 (wE below args s D dA b0 ad S0 F) 3 D dA b0 ad S0 12 [some (.ref k), some (.int v1), some (.int n2)] [] nh) (hX0 : ∀ (nh : wSt), K (.inr nh) → wM p l e (wR 1) s m args below meth c 0 0 (wE below args s D dA b0 ad S0 F) 3 D dA b0 ad S0 43 [none, none, none] [] nh) (hf : wok (fX6_strip_l12 h k v1 v2) K) : wM p l e (wR 1) s m args below meth c 0 0 (wE below args s D dA b0 ad S0 F) 3 D dA b0 ad S0 12 [some (.ref k), some (.int v1), some (.int v2)] [] h := by
  unfold fX6_strip_l12 at hf
  refine w_iload_n X dX6_strip_12 rfl rfl rfl ?_
  refine w_bipush X dX6_strip_13 rfl cb_6 ?_
  refine w_iload_n X dX6_strip_15 rfl rfl rfl ?_
  refine w_imul X dX6_strip_16 rfl ?_
  refine w_bipush X dX6_strip_17 rfl cb_6 ?_
  refine w_iadd X dX6_strip_19 rfl ?_
  refine w_icmp_ge X dX6_strip_20 rfl (t := 43) rfl (fun hc => ?_) (fun hc => ?_)
  · have hf := wok_t hf hc
    refine w_fg (ls2 := [none, none, none]) trivial ?_
    exact hX0 _ (wok_s hf)
  · have hf := wok_f hf hc
    refine w_aload_n X dX6_strip_23 rfl rfl rfl ?_
    refine w_getR X dX6_strip_24 rfl fl_X6_18 hk.1 rfl ?_
    refine w_iload_n X dX6_strip_27 rfl rfl rfl ?_
    refine w_iconst X dX6_strip_28 rfl ci_0 ?_
    obtain ⟨yhg23, hf⟩ := wok_g hf
    refine w_iast X dX6_strip_29 rfl (j := v2.toNatClampNeg) rfl hk.2.2.2.1 yhg23 ?_
    refine w_nmh (fun yh24 eyh24 => ?_)
    have hf := wok_l hf eyh24
    refine w_aload_n X dX6_strip_30 rfl rfl rfl ?_
    refine w_getR X dX6_strip_31 rfl fl_X6_21 hk.1 rfl ?_
    refine w_iload_n X dX6_strip_34 rfl rfl rfl ?_
    refine w_iconst X dX6_strip_35 rfl ci_0 ?_
    refine w_iast X dX6_strip_36 rfl (j := v2.toNatClampNeg) rfl hk.2.2.2.2 yhg23 ?_
    refine w_nmh (fun yh25 eyh25 => ?_)
    have hf := wok_l hf eyh25
    refine w_iinc X dX6_strip_37 rfl (v := (v2 + 1)) rfl rfl (Nat.le_of_ble_eq_true rfl) (cinc_1 _) (ls' := [some (.ref k), some (.int v1), some (.int (v2 + 1))]) rfl ?_
    refine w_goto X dX6_strip_40 (t := 12) rfl ?_
    exact hN _ _ (wok_s hf)
set_option maxRecDepth 4000 in
theorem pX6_strip_l12 (X : wCx p s m args meth c RX6 cX6_strip 3 D dA b0 ad) (hr : meth.sig.returnType = none)  {k : Nat} {v1 : Int32} (hk : wI6 k) {KE : (wSt) → Prop} (hX0 : ∀ (nh : wSt), KE (nh) → wM p l e (wR 1) s m args below meth c 0 0 (wE below args s D dA b0 ad S0 F) 3 D dA b0 ad S0 43 [none, none, none] [] nh) : ∀ (n : Nat) (v2 : Int32) (h : wSt), wok (wit (fun v : (Int32 × wSt) => fX6_strip_l12 v.2 k v1 v.1) n (v2, h)) KE → wM p l e (wR 1) s m args below meth c 0 0 (wE below args s D dA b0 ad S0 F) 3 D dA b0 ad S0 12 [some (.ref k), some (.int v1), some (.int v2)] [] h := by
  have key := wit_M (b := (fun v : (Int32 × wSt) => fX6_strip_l12 v.2 k v1 v.1)) (KE := KE) (G := fun v => wM p l e (wR 1) s m args below meth c 0 0 (wE below args s D dA b0 ad S0 F) 3 D dA b0 ad S0 12 [some (.ref k), some (.int v1), some (.int v.1)] [] v.2) (fun v K hN hE hf => pX6_strip_l12b X hr hk (fun n2 nh hz => hN (n2, nh) hz) (fun z0 hz => hX0 z0 (hE _ hz)) hf)
  exact fun n v2 h hf => key n (v2, h) hf
set_option maxRecDepth 4000 in
theorem pX6_strip_b0 (X : wCx p s m args meth c RX6 cX6_strip 3 D dA b0 ad) (hr : meth.sig.returnType = none) {h : wSt} {k : Nat} {x0 : Int32} (hk : wI6 k) {K : wSt → Prop} (hT : ∀ (h2 : wSt), K h2 → F none h2) (hf : wok (fX6_strip h k x0) K) : wM p l e (wR 1) s m args below meth c 0 0 (wE below args s D dA b0 ad S0 F) 3 D dA b0 ad S0 0 [some (.ref k), some (.int x0), none] [] h := by
  unfold fX6_strip at hf
  refine w_aload_n X dX6_strip_0 rfl rfl rfl ?_
  refine w_getR X dX6_strip_1 rfl fl_X6_15 hk.1 rfl ?_
  refine w_iload_n X dX6_strip_4 rfl rfl rfl ?_
  refine w_iconst X dX6_strip_5 rfl ci_0 ?_
  obtain ⟨yhg21, hf⟩ := wok_g hf
  refine w_iast X dX6_strip_6 rfl (j := x0.toNatClampNeg) rfl hk.2.2.1 yhg21 ?_
  refine w_nmh (fun yh22 eyh22 => ?_)
  have hf := wok_l hf eyh22
  refine w_bipush X dX6_strip_7 rfl cb_6 ?_
  refine w_iload_n X dX6_strip_9 rfl rfl rfl ?_
  refine w_imul X dX6_strip_10 rfl ?_
  refine w_istore_n X dX6_strip_11 rfl rfl rfl (Nat.le_of_ble_eq_true rfl) (ls' := [some (.ref k), some (.int x0), some (.int (6 * x0))]) rfl ?_
  obtain ⟨ye26, hye26, hf⟩ := wok_b hf
  refine pX6_strip_l12 X hr hk (KE := fun z => ye26 = z) ?_ 3000 _ _ ⟨ye26, hye26, rfl⟩
  · intro yz27 hz
    subst hz
    exact w_vret X dX6_strip_43 hr (hT _ (wok_s hf))
set_option maxRecDepth 4000 in
theorem kX6_strip (l : Launch) {h : wSt} {k : Nat} {x0 : Int32} (hk : wI6 k) {res : wSt} (hf : fX6_strip h k x0 = some res) : wC l yX6_strip cX6_strip 3 none 1 S0 [.ref k, .int x0] h (wFV (fun b => res = b)) := by
  refine w_meth2 1 (by decide) (Nat.le_of_ble_eq_true rfl) (ls := [some (.ref k), some (.int x0), none]) rfl ?_
  intro p e s m args below meth c D dA b0 ad X hr
  exact pX6_strip_b0 X hr hk (K := fun z => res = z) (fun h2 hz => ⟨rfl, hz⟩) ⟨res, hf, rfl⟩
set_option maxRecDepth 4000 in
theorem pX6_begin_b46_7 (X : wCx p s m args meth c RX6 cX6_begin 2 D dA b0 ad) (hr : meth.sig.returnType = none) {h : wSt} {k : Nat} {v1 : Int32} {w1 : Int32} {w2 : Int32} (hk : wI6 k) {K : (Int32 × wSt) ⊕ ((wSt)) → Prop} (hN : ∀ (n1 : Int32) (nh : wSt), K (.inl (n1, nh)) → wM p l e (wR 2) s m args below meth c 0 0 (wE below args s D dA b0 ad S0 F) 2 D dA b0 ad S0 7 [some (.ref k), some (.int n1)] [] nh) (hX0 : ∀ (nh : wSt), K (.inr nh) → wM p l e (wR 2) s m args below meth c 0 0 (wE below args s D dA b0 ad S0 F) 2 D dA b0 ad S0 53 [none, none] [] nh) (hf : wok (fX6_begin_b46_7 h k v1 w1 w2) K) : wM p l e (wR 2) s m args below meth c 0 0 (wE below args s D dA b0 ad S0 F) 2 D dA b0 ad S0 46 [some (.ref k), some (.int v1)] [.int w2, .int w1, .ref (k + 1)] h := by
  unfold fX6_begin_b46_7 at hf
  obtain ⟨yhg23, hf⟩ := wok_g hf
  refine w_iast X dX6_begin_46 rfl (j := w1.toNatClampNeg) rfl hk.2.1 yhg23 ?_
  refine w_nmh (fun yh24 eyh24 => ?_)
  have hf := wok_l hf eyh24
  refine w_iinc X dX6_begin_47 rfl (v := (v1 + 1)) rfl rfl (Nat.le_of_ble_eq_true rfl) (cinc_1 _) (ls' := [some (.ref k), some (.int (v1 + 1))]) rfl ?_
  refine w_goto X dX6_begin_50 (t := 7) rfl ?_
  exact hN _ _ (wok_s hf)
set_option maxRecDepth 4000 in
theorem pX6_begin_l7b (X : wCx p s m args meth c RX6 cX6_begin 2 D dA b0 ad) (hr : meth.sig.returnType = none) {h : wSt} {k : Nat} {v1 : Int32} (hk : wI6 k) {K : (Int32 × wSt) ⊕ ((wSt)) → Prop} (hN : ∀ (n1 : Int32) (nh : wSt), K (.inl (n1, nh)) → wM p l e (wR 2) s m args below meth c 0 0 (wE below args s D dA b0 ad S0 F) 2 D dA b0 ad S0 7 [some (.ref k), some (.int n1)] [] nh) (hX0 : ∀ (nh : wSt), K (.inr nh) → wM p l e (wR 2) s m args below meth c 0 0 (wE below args s D dA b0 ad S0 F) 2 D dA b0 ad S0 53 [none, none] [] nh) (hf : wok (fX6_begin_l7 h k v1) K) : wM p l e (wR 2) s m args below meth c 0 0 (wE below args s D dA b0 ad S0 F) 2 D dA b0 ad S0 7 [some (.ref k), some (.int v1)] [] h := by
  unfold fX6_begin_l7 at hf
  refine w_iload_n X dX6_begin_7 rfl rfl rfl ?_
  refine w_iconst X dX6_begin_8 rfl ci_3 ?_
  refine w_icmp_ge X dX6_begin_9 rfl (t := 53) rfl (fun hc => ?_) (fun hc => ?_)
  · have hf := wok_t hf hc
    refine w_fg (ls2 := [none, none]) trivial ?_
    exact hX0 _ (wok_s hf)
  · have hf := wok_f hf hc
    refine w_aload_n X dX6_begin_12 rfl rfl rfl ?_
    refine w_iload_n X dX6_begin_13 rfl rfl rfl ?_
    obtain ⟨yr22, eyr22, hf⟩ := wok_b hf
    refine w_callV X dX6_begin_14 rfl vl_X6_32 (kX6_strip l hk eyr22) hk.1 (As := [.int v1]) (st := []) rfl rfl (Nat.le_of_ble_eq_true rfl) ⟨Nat.le_of_ble_eq_true rfl, Nat.le_of_ble_eq_true rfl⟩ ⟨Nat.zero_le _, Nat.zero_le _⟩ (fun r h2 hF => ?_)
    obtain ⟨rfl, rfl⟩ := hF
    show wM p l e (wR 2) s m args below meth c 0 0 (wE below args s D dA b0 ad S0 F) 2 D dA b0 ad S0 17 [some (.ref k), some (.int v1)] [] yr22
    refine w_aload_n X dX6_begin_17 rfl rfl rfl ?_
    refine w_getR X dX6_begin_18 rfl fl_X6_9 hk.1 rfl ?_
    refine w_iload_n X dX6_begin_21 rfl rfl rfl ?_
    refine w_iload_n X dX6_begin_22 rfl rfl rfl ?_
    refine w_aload_n X dX6_begin_23 rfl rfl rfl ?_
    refine w_getR X dX6_begin_24 rfl fl_X6_24 hk.1 rfl ?_
    refine w_getI X dX6_begin_27 rfl fl_X6_36 S0_3 rfl ?_
    refine w_icmp_ge X dX6_begin_30 rfl (t := 45) rfl (fun hc => ?_) (fun hc => ?_)
    · have hf := wok_t hf hc
      refine w_iconst X dX6_begin_45 rfl ci_0 ?_
      exact pX6_begin_b46_7 X hr hk hN hX0 hf
    · have hf := wok_f hf hc
      refine w_aload_n X dX6_begin_33 rfl rfl rfl ?_
      refine w_getR X dX6_begin_34 rfl fl_X6_24 hk.1 rfl ?_
      refine w_getR X dX6_begin_37 rfl fl_X6_41 S0_3 rfl ?_
      refine w_iload_n X dX6_begin_40 rfl rfl rfl ?_
      obtain ⟨yhg25, hf⟩ := wok_g hf
      refine w_iald X dX6_begin_41 rfl (j := v1.toNatClampNeg) rfl S0_6 yhg25 ?_
      refine w_goto X dX6_begin_42 (t := 46) rfl ?_
      exact pX6_begin_b46_7 X hr hk hN hX0 hf
set_option maxRecDepth 4000 in
theorem pX6_begin_l7 (X : wCx p s m args meth c RX6 cX6_begin 2 D dA b0 ad) (hr : meth.sig.returnType = none)  {k : Nat} (hk : wI6 k) {KE : (wSt) → Prop} (hX0 : ∀ (nh : wSt), KE (nh) → wM p l e (wR 2) s m args below meth c 0 0 (wE below args s D dA b0 ad S0 F) 2 D dA b0 ad S0 53 [none, none] [] nh) : ∀ (n : Nat) (v1 : Int32) (h : wSt), wok (wit (fun v : (Int32 × wSt) => fX6_begin_l7 v.2 k v.1) n (v1, h)) KE → wM p l e (wR 2) s m args below meth c 0 0 (wE below args s D dA b0 ad S0 F) 2 D dA b0 ad S0 7 [some (.ref k), some (.int v1)] [] h := by
  have key := wit_M (b := (fun v : (Int32 × wSt) => fX6_begin_l7 v.2 k v.1)) (KE := KE) (G := fun v => wM p l e (wR 2) s m args below meth c 0 0 (wE below args s D dA b0 ad S0 F) 2 D dA b0 ad S0 7 [some (.ref k), some (.int v.1)] [] v.2) (fun v K hN hE hf => pX6_begin_l7b X hr hk (fun n1 nh hz => hN (n1, nh) hz) (fun z0 hz => hX0 z0 (hE _ hz)) hf)
  exact fun n v1 h hf => key n (v1, h) hf
set_option maxRecDepth 4000 in
theorem pX6_begin_b0 (X : wCx p s m args meth c RX6 cX6_begin 2 D dA b0 ad) (hr : meth.sig.returnType = none) {h : wSt} {k : Nat} (hk : wI6 k) {K : wSt → Prop} (hT : ∀ (h2 : wSt), K h2 → F none h2) (hf : wok (fX6_begin h k) K) : wM p l e (wR 2) s m args below meth c 0 0 (wE below args s D dA b0 ad S0 F) 2 D dA b0 ad S0 0 [some (.ref k), none] [] h := by
  unfold fX6_begin at hf
  refine w_aload_n X dX6_begin_0 rfl rfl rfl ?_
  refine w_iconst X dX6_begin_1 rfl ci_0 ?_
  refine w_putI X dX6_begin_2 rfl fp_X6_28 hk.1 rfl ?_
  refine w_nmh (fun yh21 eyh21 => ?_)
  have hf := wok_l hf eyh21
  refine w_iconst X dX6_begin_5 rfl ci_0 ?_
  refine w_istore_n X dX6_begin_6 rfl rfl rfl (Nat.le_of_ble_eq_true rfl) (ls' := [some (.ref k), some (.int 0)]) rfl ?_
  obtain ⟨ye26, hye26, hf⟩ := wok_b hf
  refine pX6_begin_l7 X hr hk (KE := fun z => ye26 = z) ?_ 3000 _ _ ⟨ye26, hye26, rfl⟩
  · intro yz27 hz
    subst hz
    exact w_vret X dX6_begin_53 hr (hT _ (wok_s hf))
set_option maxRecDepth 4000 in
theorem kX6_begin (l : Launch) {h : wSt} {k : Nat} (hk : wI6 k) {res : wSt} (hf : fX6_begin h k = some res) : wC l yX6_begin cX6_begin 2 none 2 S0 [.ref k] h (wFV (fun b => res = b)) := by
  refine w_meth2 1 (by decide) (Nat.le_of_ble_eq_true rfl) (ls := [some (.ref k), none]) rfl ?_
  intro p e s m args below meth c D dA b0 ad X hr
  exact pX6_begin_b0 X hr hk (K := fun z => res = z) (fun h2 hz => ⟨rfl, hz⟩) ⟨res, hf, rfl⟩
set_option maxRecDepth 4000 in
theorem pX6_damp_b0 (X : wCx p s m args meth c RX6 cX6_damp 1 D dA b0 ad) (hr : meth.sig.returnType = (some .int)) {h : wSt} {k : Nat} (hk : wI6 k) {K : Int32 → Prop} (hT : ∀ (x : Int32), K x → F (some (.int x)) h) (hf : wok (fX6_damp h k) K) : wM p l e (wR 2) s m args below meth c 0 0 (wE below args s D dA b0 ad S0 F) 1 D dA b0 ad S0 0 [some (.ref k)] [] h := by
  unfold fX6_damp at hf
  refine w_aload_n X dX6_damp_0 rfl rfl rfl ?_
  refine w_getR X dX6_damp_1 rfl fl_X6_24 hk.1 rfl ?_
  refine w_aload_n X dX6_damp_4 rfl rfl rfl ?_
  refine w_getI X dX6_damp_5 rfl fl_X6_28 hk.1 rfl ?_
  obtain ⟨yr21, eyr21, hf⟩ := wok_b hf
  refine w_callV X dX6_damp_8 rfl vl_X6_48 (kX4_dampOf l in_3 eyr21) S0_3 (As := [.int (h.1 k 1)]) (st := []) rfl rfl (Nat.le_of_ble_eq_true rfl) ⟨Nat.le_of_ble_eq_true rfl, Nat.le_of_ble_eq_true rfl⟩ ⟨Nat.zero_le _, Nat.zero_le _⟩ (fun r h2 hF => ?_)
  obtain ⟨_, rfl, rfl, rfl⟩ := hF
  show wM p l e (wR 2) s m args below meth c 0 0 (wE below args s D dA b0 ad S0 F) 1 D dA b0 ad S0 11 [some (.ref k)] [.int yr21] h
  exact w_iret X dX6_damp_11 hr (hT _ (wok_s hf))
set_option maxRecDepth 4000 in
theorem kX6_damp (l : Launch) {h : wSt} {k : Nat} (hk : wI6 k) {res : Int32} (hf : fX6_damp h k = some res) : wC l yX6_damp cX6_damp 1 (some .int) 2 S0 [.ref k] h (wFI (fun a b => res = a ∧ h = b)) := by
  refine w_meth2 0 (by decide) (Nat.le_of_ble_eq_true rfl) (ls := [some (.ref k)]) rfl ?_
  intro p e s m args below meth c D dA b0 ad X hr
  exact pX6_damp_b0 X hr hk (K := fun z => res = z) (fun x hz => ⟨x, rfl, hz, rfl⟩) ⟨res, hf, rfl⟩
set_option maxRecDepth 4000 in
theorem pX6_layerAt_b0 (X : wCx p s m args meth c RX6 cX6_layerAt 3 D dA b0 ad) (hr : meth.sig.returnType = (some .int)) {h : wSt} {k : Nat} {x0 : Int32} {x1 : Int32} (hk : wI6 k) {K : Int32 → Prop} (hT : ∀ (x : Int32), K x → F (some (.int x)) h) (hf : wok (fX6_layerAt h k x0 x1) K) : wM p l e (wR 1) s m args below meth c 0 0 (wE below args s D dA b0 ad S0 F) 3 D dA b0 ad S0 0 [some (.ref k), some (.int x0), some (.int x1)] [] h := by
  unfold fX6_layerAt at hf
  refine w_aload_n X dX6_layerAt_0 rfl rfl rfl ?_
  refine w_getR X dX6_layerAt_1 rfl fl_X6_21 hk.1 rfl ?_
  refine w_iload_n X dX6_layerAt_4 rfl rfl rfl ?_
  obtain ⟨yhg21, hf⟩ := wok_g hf
  refine w_iald X dX6_layerAt_5 rfl (j := x0.toNatClampNeg) rfl hk.2.2.2.2 yhg21 ?_
  refine w_iconst X dX6_layerAt_6 rfl ci_3 ?_
  refine w_iload_n X dX6_layerAt_7 rfl rfl rfl ?_
  refine w_imul X dX6_layerAt_8 rfl ?_
  refine w_ishr X dX6_layerAt_9 rfl ?_
  refine w_bipush X dX6_layerAt_10 rfl cb_7 ?_
  refine w_iand X dX6_layerAt_12 rfl ?_
  exact w_iret X dX6_layerAt_13 hr (hT _ (wok_s hf))
set_option maxRecDepth 4000 in
theorem kX6_layerAt (l : Launch) {h : wSt} {k : Nat} {x0 : Int32} {x1 : Int32} (hk : wI6 k) {res : Int32} (hf : fX6_layerAt h k x0 x1 = some res) : wC l yX6_layerAt cX6_layerAt 3 (some .int) 1 S0 [.ref k, .int x0, .int x1] h (wFI (fun a b => res = a ∧ h = b)) := by
  refine w_meth2 0 (by decide) (Nat.le_of_ble_eq_true rfl) (ls := [some (.ref k), some (.int x0), some (.int x1)]) rfl ?_
  intro p e s m args below meth c D dA b0 ad X hr
  exact pX6_layerAt_b0 X hr hk (K := fun z => res = z) (fun x hz => ⟨x, rfl, hz, rfl⟩) ⟨res, hf, rfl⟩
set_option maxRecDepth 4000 in
theorem pX6_freeLinesOf_b48_4 (X : wCx p s m args meth c RX6 cX6_freeLinesOf 4 D dA b0 ad) (hr : meth.sig.returnType = (some .int)) {h : wSt} {k : Nat} {v1 : Int32} {v2 : Int32} {v3 : Int32} (hk : wI6 k) {K : (Int32 × Int32) ⊕ ((Int32)) → Prop} (hN : ∀ (n2 : Int32) (n3 : Int32), K (.inl (n2, n3)) → wM p l e (wR 1) s m args below meth c 0 0 (wE below args s D dA b0 ad S0 F) 4 D dA b0 ad S0 4 [some (.ref k), some (.int v1), some (.int n2), some (.int n3)] [] h) (hX0 : ∀ (n2 : Int32), K (.inr n2) → wM p l e (wR 1) s m args below meth c 0 0 (wE below args s D dA b0 ad S0 F) 4 D dA b0 ad S0 54 [some (.ref k), some (.int v1), some (.int n2), none] [] h) (hf : wok (fX6_freeLinesOf_b48_4 h k v1 v2 v3) K) : wM p l e (wR 1) s m args below meth c 0 0 (wE below args s D dA b0 ad S0 F) 4 D dA b0 ad S0 48 [some (.ref k), some (.int v1), some (.int v2), some (.int v3)] [] h := by
  unfold fX6_freeLinesOf_b48_4 at hf
  refine w_iinc X dX6_freeLinesOf_48 rfl (v := (v3 + 1)) rfl rfl (Nat.le_of_ble_eq_true rfl) (cinc_1 _) (ls' := [some (.ref k), some (.int v1), some (.int v2), some (.int (v3 + 1))]) rfl ?_
  refine w_goto X dX6_freeLinesOf_51 (t := 4) rfl ?_
  exact hN _ _ (wok_s hf)
set_option maxRecDepth 4000 in
theorem pX6_freeLinesOf_l4b (X : wCx p s m args meth c RX6 cX6_freeLinesOf 4 D dA b0 ad) (hr : meth.sig.returnType = (some .int)) {h : wSt} {k : Nat} {v1 : Int32} {v2 : Int32} {v3 : Int32} (hk : wI6 k) {K : (Int32 × Int32) ⊕ ((Int32)) → Prop} (hN : ∀ (n2 : Int32) (n3 : Int32), K (.inl (n2, n3)) → wM p l e (wR 1) s m args below meth c 0 0 (wE below args s D dA b0 ad S0 F) 4 D dA b0 ad S0 4 [some (.ref k), some (.int v1), some (.int n2), some (.int n3)] [] h) (hX0 : ∀ (n2 : Int32), K (.inr n2) → wM p l e (wR 1) s m args below meth c 0 0 (wE below args s D dA b0 ad S0 F) 4 D dA b0 ad S0 54 [some (.ref k), some (.int v1), some (.int n2), none] [] h) (hf : wok (fX6_freeLinesOf_l4 h k v1 v2 v3) K) : wM p l e (wR 1) s m args below meth c 0 0 (wE below args s D dA b0 ad S0 F) 4 D dA b0 ad S0 4 [some (.ref k), some (.int v1), some (.int v2), some (.int v3)] [] h := by
  unfold fX6_freeLinesOf_l4 at hf
  refine w_iload_n X dX6_freeLinesOf_4 rfl rfl rfl ?_
  refine w_aload_n X dX6_freeLinesOf_5 rfl rfl rfl ?_
  refine w_getR X dX6_freeLinesOf_6 rfl fl_X6_24 hk.1 rfl ?_
  refine w_getR X dX6_freeLinesOf_9 rfl fl_X6_52 S0_3 rfl ?_
  refine w_iload_n X dX6_freeLinesOf_12 rfl rfl rfl ?_
  obtain ⟨yhg21, hf⟩ := wok_g hf
  refine w_iald X dX6_freeLinesOf_13 rfl (j := v1.toNatClampNeg) rfl S0_5 yhg21 ?_
  refine w_icmp_ge X dX6_freeLinesOf_14 rfl (t := 54) rfl (fun hc => ?_) (fun hc => ?_)
  · have hf := wok_t hf hc
    refine w_fg (ls2 := [some (.ref k), some (.int v1), some (.int v2), none]) ⟨rfl, rfl, rfl, trivial⟩ ?_
    exact hX0 _ (wok_s hf)
  · have hf := wok_f hf hc
    refine w_aload_n X dX6_freeLinesOf_17 rfl rfl rfl ?_
    refine w_getR X dX6_freeLinesOf_18 rfl fl_X6_9 hk.1 rfl ?_
    refine w_iload_n X dX6_freeLinesOf_21 rfl rfl rfl ?_
    refine w_iald X dX6_freeLinesOf_22 rfl (j := v1.toNatClampNeg) rfl hk.2.1 yhg21 ?_
    refine w_if_le X dX6_freeLinesOf_23 rfl (t := 54) rfl (fun hc => ?_) (fun hc => ?_)
    · have hf := wok_t hf hc
      refine w_fg (ls2 := [some (.ref k), some (.int v1), some (.int v2), none]) ⟨rfl, rfl, rfl, trivial⟩ ?_
      exact hX0 _ (wok_s hf)
    · have hf := wok_f hf hc
      refine w_aload_n X dX6_freeLinesOf_26 rfl rfl rfl ?_
      refine w_getR X dX6_freeLinesOf_27 rfl fl_X6_18 hk.1 rfl ?_
      refine w_bipush X dX6_freeLinesOf_30 rfl cb_6 ?_
      refine w_iload_n X dX6_freeLinesOf_32 rfl rfl rfl ?_
      refine w_imul X dX6_freeLinesOf_33 rfl ?_
      refine w_iload_n X dX6_freeLinesOf_34 rfl rfl rfl ?_
      refine w_iadd X dX6_freeLinesOf_35 rfl ?_
      obtain ⟨yhg22, hf⟩ := wok_g hf
      refine w_iald X dX6_freeLinesOf_36 rfl (j := ((6 * v1) + v3).toNatClampNeg) rfl hk.2.2.2.1 yhg22 ?_
      refine w_bipush X dX6_freeLinesOf_37 rfl cb_9 ?_
      refine w_icmp_ge X dX6_freeLinesOf_39 rfl (t := 48) rfl (fun hc => ?_) (fun hc => ?_)
      · have hf := wok_t hf hc
        exact pX6_freeLinesOf_b48_4 X hr hk hN hX0 hf
      · have hf := wok_f hf hc
        refine w_iload_n X dX6_freeLinesOf_42 rfl rfl rfl ?_
        refine w_iconst X dX6_freeLinesOf_43 rfl ci_1 ?_
        refine w_iload_n X dX6_freeLinesOf_44 rfl rfl rfl ?_
        refine w_ishl X dX6_freeLinesOf_45 rfl ?_
        refine w_ior X dX6_freeLinesOf_46 rfl ?_
        refine w_istore_n X dX6_freeLinesOf_47 rfl rfl rfl (Nat.le_of_ble_eq_true rfl) (ls' := [some (.ref k), some (.int v1), some (.int (v2 ||| (1 <<< (v3 &&& 31)))), some (.int v3)]) rfl ?_
        exact pX6_freeLinesOf_b48_4 X hr hk hN hX0 hf
set_option maxRecDepth 4000 in
theorem pX6_freeLinesOf_l4 (X : wCx p s m args meth c RX6 cX6_freeLinesOf 4 D dA b0 ad) (hr : meth.sig.returnType = (some .int)) {h : wSt} {k : Nat} {v1 : Int32} (hk : wI6 k) {KE : (Int32) → Prop} (hX0 : ∀ (n2 : Int32), KE (n2) → wM p l e (wR 1) s m args below meth c 0 0 (wE below args s D dA b0 ad S0 F) 4 D dA b0 ad S0 54 [some (.ref k), some (.int v1), some (.int n2), none] [] h) : ∀ (n : Nat) (v2 : Int32) (v3 : Int32), wok (wit (fun v : (Int32 × Int32) => fX6_freeLinesOf_l4 h k v1 v.1 v.2) n (v2, v3)) KE → wM p l e (wR 1) s m args below meth c 0 0 (wE below args s D dA b0 ad S0 F) 4 D dA b0 ad S0 4 [some (.ref k), some (.int v1), some (.int v2), some (.int v3)] [] h := by
  have key := wit_M (b := (fun v : (Int32 × Int32) => fX6_freeLinesOf_l4 h k v1 v.1 v.2)) (KE := KE) (G := fun v => wM p l e (wR 1) s m args below meth c 0 0 (wE below args s D dA b0 ad S0 F) 4 D dA b0 ad S0 4 [some (.ref k), some (.int v1), some (.int v.1), some (.int v.2)] [] h) (fun v K hN hE hf => pX6_freeLinesOf_l4b X hr hk (fun n2 n3 hz => hN (n2, n3) hz) (fun z0 hz => hX0 z0 (hE _ hz)) hf)
  exact fun n v2 v3 hf => key n (v2, v3) hf
set_option maxRecDepth 4000 in
theorem pX6_freeLinesOf_b0 (X : wCx p s m args meth c RX6 cX6_freeLinesOf 4 D dA b0 ad) (hr : meth.sig.returnType = (some .int)) {h : wSt} {k : Nat} {x0 : Int32} (hk : wI6 k) {K : Int32 → Prop} (hT : ∀ (x : Int32), K x → F (some (.int x)) h) (hf : wok (fX6_freeLinesOf h k x0) K) : wM p l e (wR 1) s m args below meth c 0 0 (wE below args s D dA b0 ad S0 F) 4 D dA b0 ad S0 0 [some (.ref k), some (.int x0), none, none] [] h := by
  unfold fX6_freeLinesOf at hf
  refine w_iconst X dX6_freeLinesOf_0 rfl ci_0 ?_
  refine w_istore_n X dX6_freeLinesOf_1 rfl rfl rfl (Nat.le_of_ble_eq_true rfl) (ls' := [some (.ref k), some (.int x0), some (.int 0), none]) rfl ?_
  refine w_iconst X dX6_freeLinesOf_2 rfl ci_0 ?_
  refine w_istore_n X dX6_freeLinesOf_3 rfl rfl rfl (Nat.le_of_ble_eq_true rfl) (ls' := [some (.ref k), some (.int x0), some (.int 0), some (.int 0)]) rfl ?_
  obtain ⟨ye23, hye23, hf⟩ := wok_b hf
  refine pX6_freeLinesOf_l4 X hr hk (KE := fun z => ye23 = z) ?_ 3000 _ _ ⟨ye23, hye23, rfl⟩
  · intro yz24 hz
    subst hz
    refine w_iload_n X dX6_freeLinesOf_54 rfl rfl rfl ?_
    refine w_aload_n X dX6_freeLinesOf_55 rfl rfl rfl ?_
    refine w_getR X dX6_freeLinesOf_56 rfl fl_X6_24 hk.1 rfl ?_
    refine w_getR X dX6_freeLinesOf_59 rfl fl_X6_55 S0_3 rfl ?_
    refine w_iload_n X dX6_freeLinesOf_62 rfl rfl rfl ?_
    obtain ⟨yhg25, hf⟩ := wok_g hf
    refine w_iald X dX6_freeLinesOf_63 rfl (j := x0.toNatClampNeg) rfl S0_7 yhg25 ?_
    refine w_iconst X dX6_freeLinesOf_64 rfl ci_m1 ?_
    refine w_ixor X dX6_freeLinesOf_65 rfl ?_
    refine w_iand X dX6_freeLinesOf_66 rfl ?_
    refine w_aload_n X dX6_freeLinesOf_67 rfl rfl rfl ?_
    refine w_getR X dX6_freeLinesOf_68 rfl fl_X6_15 hk.1 rfl ?_
    refine w_iload_n X dX6_freeLinesOf_71 rfl rfl rfl ?_
    refine w_iald X dX6_freeLinesOf_72 rfl (j := x0.toNatClampNeg) rfl hk.2.2.1 yhg25 ?_
    refine w_iconst X dX6_freeLinesOf_73 rfl ci_m1 ?_
    refine w_ixor X dX6_freeLinesOf_74 rfl ?_
    refine w_iand X dX6_freeLinesOf_75 rfl ?_
    exact w_iret X dX6_freeLinesOf_76 hr (hT _ (wok_s hf))
set_option maxRecDepth 4000 in
theorem kX6_freeLinesOf (l : Launch) {h : wSt} {k : Nat} {x0 : Int32} (hk : wI6 k) {res : Int32} (hf : fX6_freeLinesOf h k x0 = some res) : wC l yX6_freeLinesOf cX6_freeLinesOf 4 (some .int) 1 S0 [.ref k, .int x0] h (wFI (fun a b => res = a ∧ h = b)) := by
  refine w_meth2 2 (by decide) (Nat.le_of_ble_eq_true rfl) (ls := [some (.ref k), some (.int x0), none, none]) rfl ?_
  intro p e s m args below meth c D dA b0 ad X hr
  exact pX6_freeLinesOf_b0 X hr hk (K := fun z => res = z) (fun x hz => ⟨x, rfl, hz, rfl⟩) ⟨res, hf, rfl⟩
set_option maxRecDepth 4000 in
theorem pX6_freeLines_l4b (X : wCx p s m args meth c RX6 cX6_freeLines 3 D dA b0 ad) (hr : meth.sig.returnType = (some .int)) {h : wSt} {k : Nat} {v1 : Int32} {v2 : Int32} (hk : wI6 k) {K : (Int32 × Int32) ⊕ ((Int32)) → Prop} (hN : ∀ (n1 : Int32) (n2 : Int32), K (.inl (n1, n2)) → wM p l e (wR 2) s m args below meth c 0 0 (wE below args s D dA b0 ad S0 F) 3 D dA b0 ad S0 4 [some (.ref k), some (.int n1), some (.int n2)] [] h) (hX0 : ∀ (n1 : Int32), K (.inr n1) → wM p l e (wR 2) s m args below meth c 0 0 (wE below args s D dA b0 ad S0 F) 3 D dA b0 ad S0 34 [none, some (.int n1), none] [] h) (hf : wok (fX6_freeLines_l4 h k v1 v2) K) : wM p l e (wR 2) s m args below meth c 0 0 (wE below args s D dA b0 ad S0 F) 3 D dA b0 ad S0 4 [some (.ref k), some (.int v1), some (.int v2)] [] h := by
  unfold fX6_freeLines_l4 at hf
  refine w_iload_n X dX6_freeLines_4 rfl rfl rfl ?_
  refine w_aload_n X dX6_freeLines_5 rfl rfl rfl ?_
  refine w_getR X dX6_freeLines_6 rfl fl_X6_24 hk.1 rfl ?_
  refine w_getI X dX6_freeLines_9 rfl fl_X6_36 S0_3 rfl ?_
  refine w_icmp_ge X dX6_freeLines_12 rfl (t := 34) rfl (fun hc => ?_) (fun hc => ?_)
  · have hf := wok_t hf hc
    refine w_fg (ls2 := [none, some (.int v1), none]) ⟨rfl, trivial⟩ ?_
    exact hX0 _ (wok_s hf)
  · have hf := wok_f hf hc
    refine w_iload_n X dX6_freeLines_15 rfl rfl rfl ?_
    refine w_aload_n X dX6_freeLines_16 rfl rfl rfl ?_
    refine w_iload_n X dX6_freeLines_17 rfl rfl rfl ?_
    obtain ⟨yr21, eyr21, hf⟩ := wok_b hf
    refine w_callV X dX6_freeLines_18 rfl vl_X6_58 (kX6_freeLinesOf l hk eyr21) hk.1 (As := [.int v2]) (st := [.int v1]) rfl rfl (Nat.le_of_ble_eq_true rfl) ⟨Nat.le_of_ble_eq_true rfl, Nat.le_of_ble_eq_true rfl⟩ ⟨Nat.zero_le _, Nat.zero_le _⟩ (fun r h2 hF => ?_)
    obtain ⟨_, rfl, rfl, rfl⟩ := hF
    show wM p l e (wR 2) s m args below meth c 0 0 (wE below args s D dA b0 ad S0 F) 3 D dA b0 ad S0 21 [some (.ref k), some (.int v1), some (.int v2)] [.int yr21, .int v1] h
    refine w_bipush X dX6_freeLines_21 rfl cb_6 ?_
    refine w_iload_n X dX6_freeLines_23 rfl rfl rfl ?_
    refine w_imul X dX6_freeLines_24 rfl ?_
    refine w_ishl X dX6_freeLines_25 rfl ?_
    refine w_ior X dX6_freeLines_26 rfl ?_
    refine w_topi (fun yx22 eyx22 => ?_)
    have hf := wok_l hf eyx22
    refine w_istore_n X dX6_freeLines_27 rfl rfl rfl (Nat.le_of_ble_eq_true rfl) (ls' := [some (.ref k), some (.int yx22), some (.int v2)]) rfl ?_
    refine w_iinc X dX6_freeLines_28 rfl (v := (v2 + 1)) rfl rfl (Nat.le_of_ble_eq_true rfl) (cinc_1 _) (ls' := [some (.ref k), some (.int yx22), some (.int (v2 + 1))]) rfl ?_
    refine w_goto X dX6_freeLines_31 (t := 4) rfl ?_
    exact hN _ _ (wok_s hf)
set_option maxRecDepth 4000 in
theorem pX6_freeLines_l4 (X : wCx p s m args meth c RX6 cX6_freeLines 3 D dA b0 ad) (hr : meth.sig.returnType = (some .int)) {h : wSt} {k : Nat} (hk : wI6 k) {KE : (Int32) → Prop} (hX0 : ∀ (n1 : Int32), KE (n1) → wM p l e (wR 2) s m args below meth c 0 0 (wE below args s D dA b0 ad S0 F) 3 D dA b0 ad S0 34 [none, some (.int n1), none] [] h) : ∀ (n : Nat) (v1 : Int32) (v2 : Int32), wok (wit (fun v : (Int32 × Int32) => fX6_freeLines_l4 h k v.1 v.2) n (v1, v2)) KE → wM p l e (wR 2) s m args below meth c 0 0 (wE below args s D dA b0 ad S0 F) 3 D dA b0 ad S0 4 [some (.ref k), some (.int v1), some (.int v2)] [] h := by
  have key := wit_M (b := (fun v : (Int32 × Int32) => fX6_freeLines_l4 h k v.1 v.2)) (KE := KE) (G := fun v => wM p l e (wR 2) s m args below meth c 0 0 (wE below args s D dA b0 ad S0 F) 3 D dA b0 ad S0 4 [some (.ref k), some (.int v.1), some (.int v.2)] [] h) (fun v K hN hE hf => pX6_freeLines_l4b X hr hk (fun n1 n2 hz => hN (n1, n2) hz) (fun z0 hz => hX0 z0 (hE _ hz)) hf)
  exact fun n v1 v2 hf => key n (v1, v2) hf
set_option maxRecDepth 4000 in
theorem pX6_freeLines_b0 (X : wCx p s m args meth c RX6 cX6_freeLines 3 D dA b0 ad) (hr : meth.sig.returnType = (some .int)) {h : wSt} {k : Nat} (hk : wI6 k) {K : Int32 → Prop} (hT : ∀ (x : Int32), K x → F (some (.int x)) h) (hf : wok (fX6_freeLines h k) K) : wM p l e (wR 2) s m args below meth c 0 0 (wE below args s D dA b0 ad S0 F) 3 D dA b0 ad S0 0 [some (.ref k), none, none] [] h := by
  unfold fX6_freeLines at hf
  refine w_iconst X dX6_freeLines_0 rfl ci_0 ?_
  refine w_istore_n X dX6_freeLines_1 rfl rfl rfl (Nat.le_of_ble_eq_true rfl) (ls' := [some (.ref k), some (.int 0), none]) rfl ?_
  refine w_iconst X dX6_freeLines_2 rfl ci_0 ?_
  refine w_istore_n X dX6_freeLines_3 rfl rfl rfl (Nat.le_of_ble_eq_true rfl) (ls' := [some (.ref k), some (.int 0), some (.int 0)]) rfl ?_
  obtain ⟨ye23, hye23, hf⟩ := wok_b hf
  refine pX6_freeLines_l4 X hr hk (KE := fun z => ye23 = z) ?_ 3000 _ _ ⟨ye23, hye23, rfl⟩
  · intro yz24 hz
    subst hz
    refine w_iload_n X dX6_freeLines_34 rfl rfl rfl ?_
    exact w_iret X dX6_freeLines_35 hr (hT _ (wok_s hf))
set_option maxRecDepth 4000 in
theorem kX6_freeLines (l : Launch) {h : wSt} {k : Nat} (hk : wI6 k) {res : Int32} (hf : fX6_freeLines h k = some res) : wC l yX6_freeLines cX6_freeLines 3 (some .int) 2 S0 [.ref k] h (wFI (fun a b => res = a ∧ h = b)) := by
  refine w_meth2 2 (by decide) (Nat.le_of_ble_eq_true rfl) (ls := [some (.ref k), none, none]) rfl ?_
  intro p e s m args below meth c D dA b0 ad X hr
  exact pX6_freeLines_b0 X hr hk (K := fun z => res = z) (fun x hz => ⟨x, rfl, hz, rfl⟩) ⟨res, hf, rfl⟩
set_option maxRecDepth 4000 in
theorem pX6_canWrite_b0 (X : wCx p s m args meth c RX6 cX6_canWrite 5 D dA b0 ad) (hr : meth.sig.returnType = (some .boolean)) {h : wSt} {k : Nat} {x0 : Int32} {x1 : Int32} {x2 : Int32} (hk : wI6 k) {K : Bool → Prop} (hT : ∀ (x : Bool), K x → F (some (.int (wb x))) h) (hf : wok (fX6_canWrite h k x0 x1 x2) K) : wM p l e (wR 2) s m args below meth c 0 0 (wE below args s D dA b0 ad S0 F) 5 D dA b0 ad S0 0 [some (.ref k), some (.int x0), some (.int x1), some (.int x2), none] [] h := by
  unfold fX6_canWrite at hf
  refine w_iload_n X dX6_canWrite_0 rfl rfl rfl ?_
  refine w_if_lt X dX6_canWrite_1 rfl (t := 27) rfl (fun hc => ?_) (fun hc => ?_)
  · have hf := wok_t hf hc
    refine w_iconst X dX6_canWrite_27 rfl ci_0 ?_
    exact w_zret X dX6_canWrite_28 hr rfl (hT false (wok_s hf))
  · have hf := wok_f hf hc
    refine w_iload_n X dX6_canWrite_4 rfl rfl rfl ?_
    refine w_aload_n X dX6_canWrite_5 rfl rfl rfl ?_
    refine w_getR X dX6_canWrite_6 rfl fl_X6_24 hk.1 rfl ?_
    refine w_getR X dX6_canWrite_9 rfl fl_X6_52 S0_3 rfl ?_
    refine w_iload_n X dX6_canWrite_12 rfl rfl rfl ?_
    obtain ⟨yhg21, hf⟩ := wok_g hf
    refine w_iald X dX6_canWrite_13 rfl (j := x1.toNatClampNeg) rfl S0_5 yhg21 ?_
    refine w_aload_n X dX6_canWrite_14 rfl rfl rfl ?_
    refine w_getR X dX6_canWrite_15 rfl fl_X6_24 hk.1 rfl ?_
    refine w_getR X dX6_canWrite_18 rfl fl_X6_61 S0_3 rfl ?_
    refine w_iload_n X dX6_canWrite_21 rfl rfl rfl ?_
    obtain ⟨yhg22, hf⟩ := wok_g hf
    refine w_iald X dX6_canWrite_22 rfl (j := x0.toNatClampNeg) rfl S0_11 yhg22 ?_
    refine w_isub X dX6_canWrite_23 rfl ?_
    refine w_icmp_le X dX6_canWrite_24 rfl (t := 29) rfl (fun hc => ?_) (fun hc => ?_)
    · have hf := wok_t hf hc
      refine w_iconst X dX6_canWrite_29 rfl ci_1 ?_
      refine w_aload_n X dX6_canWrite_30 rfl rfl rfl ?_
      refine w_getR X dX6_canWrite_31 rfl fl_X6_24 hk.1 rfl ?_
      refine w_getR X dX6_canWrite_34 rfl fl_X6_61 S0_3 rfl ?_
      refine w_iload_n X dX6_canWrite_37 rfl rfl rfl ?_
      refine w_iald X dX6_canWrite_38 rfl (j := x0.toNatClampNeg) rfl S0_11 yhg22 ?_
      refine w_ishl X dX6_canWrite_39 rfl ?_
      refine w_iconst X dX6_canWrite_40 rfl ci_1 ?_
      refine w_isub X dX6_canWrite_41 rfl ?_
      refine w_iload_n X dX6_canWrite_42 rfl rfl rfl ?_
      refine w_ishl X dX6_canWrite_43 rfl ?_
      refine w_topi (fun yx23 eyx23 => ?_)
      have hf := wok_l hf eyx23
      refine w_istore X dX6_canWrite_44 rfl rfl (Nat.le_of_ble_eq_true rfl) (ls' := [some (.ref k), some (.int x0), some (.int x1), some (.int x2), some (.int yx23)]) rfl ?_
      refine w_iload X dX6_canWrite_46 rfl rfl ?_
      refine w_aload_n X dX6_canWrite_48 rfl rfl rfl ?_
      refine w_iload_n X dX6_canWrite_49 rfl rfl rfl ?_
      obtain ⟨yr24, eyr24, hf⟩ := wok_b hf
      refine w_callV X dX6_canWrite_50 rfl vl_X6_58 (kX6_freeLinesOf l hk eyr24) hk.1 (As := [.int x1]) (st := [.int yx23]) rfl rfl (Nat.le_of_ble_eq_true rfl) ⟨Nat.le_of_ble_eq_true rfl, Nat.le_of_ble_eq_true rfl⟩ ⟨Nat.zero_le _, Nat.zero_le _⟩ (fun r h2 hF => ?_)
      obtain ⟨_, rfl, rfl, rfl⟩ := hF
      show wM p l e (wR 2) s m args below meth c 0 0 (wE below args s D dA b0 ad S0 F) 5 D dA b0 ad S0 53 [some (.ref k), some (.int x0), some (.int x1), some (.int x2), some (.int yx23)] [.int yr24, .int yx23] h
      refine w_iconst X dX6_canWrite_53 rfl ci_m1 ?_
      refine w_ixor X dX6_canWrite_54 rfl ?_
      refine w_iand X dX6_canWrite_55 rfl ?_
      refine w_if_ne X dX6_canWrite_56 rfl (t := 63) rfl (fun hc => ?_) (fun hc => ?_)
      · have hf := wok_f hf hc
        refine w_iconst X dX6_canWrite_63 rfl ci_0 ?_
        exact w_zret X dX6_canWrite_64 hr rfl (hT false (wok_s hf))
      · have hf := wok_t hf hc
        refine w_iconst X dX6_canWrite_59 rfl ci_1 ?_
        refine w_goto X dX6_canWrite_60 (t := 64) rfl ?_
        exact w_zret X dX6_canWrite_64 hr rfl (hT true (wok_s hf))
    · have hf := wok_f hf hc
      refine w_iconst X dX6_canWrite_27 rfl ci_0 ?_
      exact w_zret X dX6_canWrite_28 hr rfl (hT false (wok_s hf))
set_option maxRecDepth 4000 in
theorem kX6_canWrite (l : Launch) {h : wSt} {k : Nat} {x0 : Int32} {x1 : Int32} {x2 : Int32} (hk : wI6 k) {res : Bool} (hf : fX6_canWrite h k x0 x1 x2 = some res) : wC l yX6_canWrite cX6_canWrite 5 (some .boolean) 2 S0 [.ref k, .int x0, .int x1, .int x2] h (wFZ (fun a b => res = a ∧ h = b)) := by
  refine w_meth2 1 (by decide) (Nat.le_of_ble_eq_true rfl) (ls := [some (.ref k), some (.int x0), some (.int x1), some (.int x2), none]) rfl ?_
  intro p e s m args below meth c D dA b0 ad X hr
  exact pX6_canWrite_b0 X hr hk (K := fun z => res = z) (fun x hz => ⟨x, rfl, hz, rfl⟩) ⟨res, hf, rfl⟩
set_option maxRecDepth 4000 in
theorem pX6_firstPlace_l2b (X : wCx p s m args meth c RX6 cX6_firstPlace 4 D dA b0 ad) (hr : meth.sig.returnType = (some .int)) {h : wSt} {k : Nat} {v1 : Int32} {v2 : Int32} {v3 : Int32} (hk : wI6 k) {K : (Int32) ⊕ ((Unit) ⊕ (Int32)) → Prop} (hN : ∀ (n3 : Int32), K (.inl n3) → wM p l e (wR 3) s m args below meth c 0 0 (wE below args s D dA b0 ad S0 F) 4 D dA b0 ad S0 2 [some (.ref k), some (.int v1), some (.int v2), some (.int n3)] [] h) (hX0 : K (.inr (.inl ())) → wM p l e (wR 3) s m args below meth c 0 0 (wE below args s D dA b0 ad S0 F) 4 D dA b0 ad S0 33 [none, none, none, none] [] h) (hT : ∀ (x : Int32), K (.inr (.inr x)) → F (some (.int x)) h) (hf : wok (fX6_firstPlace_l2 h k v1 v2 v3) K) : wM p l e (wR 3) s m args below meth c 0 0 (wE below args s D dA b0 ad S0 F) 4 D dA b0 ad S0 2 [some (.ref k), some (.int v1), some (.int v2), some (.int v3)] [] h := by
  unfold fX6_firstPlace_l2 at hf
  refine w_iload_n X dX6_firstPlace_2 rfl rfl rfl ?_
  refine w_aload_n X dX6_firstPlace_3 rfl rfl rfl ?_
  refine w_getR X dX6_firstPlace_4 rfl fl_X6_24 hk.1 rfl ?_
  refine w_getR X dX6_firstPlace_7 rfl fl_X6_52 S0_3 rfl ?_
  refine w_iload_n X dX6_firstPlace_10 rfl rfl rfl ?_
  obtain ⟨yhg21, hf⟩ := wok_g hf
  refine w_iald X dX6_firstPlace_11 rfl (j := v2.toNatClampNeg) rfl S0_5 yhg21 ?_
  refine w_icmp_ge X dX6_firstPlace_12 rfl (t := 33) rfl (fun hc => ?_) (fun hc => ?_)
  · have hf := wok_t hf hc
    refine w_fg (ls2 := [none, none, none, none]) trivial ?_
    exact hX0 (wok_s hf)
  · have hf := wok_f hf hc
    refine w_aload_n X dX6_firstPlace_15 rfl rfl rfl ?_
    refine w_iload_n X dX6_firstPlace_16 rfl rfl rfl ?_
    refine w_iload_n X dX6_firstPlace_17 rfl rfl rfl ?_
    refine w_iload_n X dX6_firstPlace_18 rfl rfl rfl ?_
    obtain ⟨yr22, eyr22, hf⟩ := wok_b hf
    refine w_callV X dX6_firstPlace_19 rfl vl_X6_64 (kX6_canWrite l hk eyr22) hk.1 (As := [.int v1, .int v2, .int v3]) (st := []) rfl rfl (Nat.le_of_ble_eq_true rfl) ⟨Nat.le_of_ble_eq_true rfl, Nat.le_of_ble_eq_true rfl⟩ ⟨Nat.zero_le _, Nat.zero_le _⟩ (fun r h2 hF => ?_)
    obtain ⟨_, rfl, rfl, rfl⟩ := hF
    show wM p l e (wR 3) s m args below meth c 0 0 (wE below args s D dA b0 ad S0 F) 4 D dA b0 ad S0 22 [some (.ref k), some (.int v1), some (.int v2), some (.int v3)] [.int (wb yr22)] h
    refine w_if_eq X dX6_firstPlace_22 rfl (t := 27) rfl (fun hc => ?_) (fun hc => ?_)
    · have hf := wok_f hf (wb_0 hc)
      refine w_iinc X dX6_firstPlace_27 rfl (v := (v3 + 1)) rfl rfl (Nat.le_of_ble_eq_true rfl) (cinc_1 _) (ls' := [some (.ref k), some (.int v1), some (.int v2), some (.int (v3 + 1))]) rfl ?_
      refine w_goto X dX6_firstPlace_30 (t := 2) rfl ?_
      exact hN _ (wok_s hf)
    · have hf := wok_t hf (wb_n0 hc)
      refine w_iload_n X dX6_firstPlace_25 rfl rfl rfl ?_
      exact w_iret X dX6_firstPlace_26 hr (hT _ (wok_s hf))
set_option maxRecDepth 4000 in
theorem pX6_firstPlace_l2 (X : wCx p s m args meth c RX6 cX6_firstPlace 4 D dA b0 ad) (hr : meth.sig.returnType = (some .int)) {h : wSt} {k : Nat} {v1 : Int32} {v2 : Int32} (hk : wI6 k) {KE : (Unit) ⊕ (Int32) → Prop} (hX0 : KE ((.inl ())) → wM p l e (wR 3) s m args below meth c 0 0 (wE below args s D dA b0 ad S0 F) 4 D dA b0 ad S0 33 [none, none, none, none] [] h) (hT : ∀ (x : Int32), KE ((.inr x)) → F (some (.int x)) h) : ∀ (n : Nat) (v3 : Int32), wok (wit (fun v : (Int32) => fX6_firstPlace_l2 h k v1 v2 v) n v3) KE → wM p l e (wR 3) s m args below meth c 0 0 (wE below args s D dA b0 ad S0 F) 4 D dA b0 ad S0 2 [some (.ref k), some (.int v1), some (.int v2), some (.int v3)] [] h := by
  have key := wit_M (b := (fun v : (Int32) => fX6_firstPlace_l2 h k v1 v2 v)) (KE := KE) (G := fun v => wM p l e (wR 3) s m args below meth c 0 0 (wE below args s D dA b0 ad S0 F) 4 D dA b0 ad S0 2 [some (.ref k), some (.int v1), some (.int v2), some (.int v)] [] h) (fun v K hN hE hf => pX6_firstPlace_l2b X hr hk (fun n3 hz => hN n3 hz) (fun  hz => hX0  (hE _ hz)) (fun z0 hz => hT z0 (hE _ hz)) hf)
  exact fun n v3 hf => key n v3 hf
set_option maxRecDepth 4000 in
theorem pX6_firstPlace_b0 (X : wCx p s m args meth c RX6 cX6_firstPlace 4 D dA b0 ad) (hr : meth.sig.returnType = (some .int)) {h : wSt} {k : Nat} {x0 : Int32} {x1 : Int32} (hk : wI6 k) {K : Int32 → Prop} (hT : ∀ (x : Int32), K x → F (some (.int x)) h) (hf : wok (fX6_firstPlace h k x0 x1) K) : wM p l e (wR 3) s m args below meth c 0 0 (wE below args s D dA b0 ad S0 F) 4 D dA b0 ad S0 0 [some (.ref k), some (.int x0), some (.int x1), none] [] h := by
  unfold fX6_firstPlace at hf
  refine w_iconst X dX6_firstPlace_0 rfl ci_0 ?_
  refine w_istore_n X dX6_firstPlace_1 rfl rfl rfl (Nat.le_of_ble_eq_true rfl) (ls' := [some (.ref k), some (.int x0), some (.int x1), some (.int 0)]) rfl ?_
  obtain ⟨ye23, hye23, hf⟩ := wok_b hf
  refine pX6_firstPlace_l2 X hr hk (KE := fun z => ye23 = z) ?_ ?_ 3000 _ ⟨ye23, hye23, rfl⟩
  · intro hz
    subst hz
    refine w_iconst X dX6_firstPlace_33 rfl ci_m1 ?_
    exact w_iret X dX6_firstPlace_34 hr (hT _ (wok_s hf))
  · intro z hz
    subst hz
    exact hT _ (wok_s hf)
set_option maxRecDepth 4000 in
theorem kX6_firstPlace (l : Launch) {h : wSt} {k : Nat} {x0 : Int32} {x1 : Int32} (hk : wI6 k) {res : Int32} (hf : fX6_firstPlace h k x0 x1 = some res) : wC l yX6_firstPlace cX6_firstPlace 4 (some .int) 3 S0 [.ref k, .int x0, .int x1] h (wFI (fun a b => res = a ∧ h = b)) := by
  refine w_meth2 1 (by decide) (Nat.le_of_ble_eq_true rfl) (ls := [some (.ref k), some (.int x0), some (.int x1), none]) rfl ?_
  intro p e s m args below meth c D dA b0 ad X hr
  exact pX6_firstPlace_b0 X hr hk (K := fun z => res = z) (fun x hz => ⟨x, rfl, hz, rfl⟩) ⟨res, hf, rfl⟩
set_option maxRecDepth 4000 in
theorem pX6_put_l3b (X : wCx p s m args meth c RX6 cX6_put 6 D dA b0 ad) (hr : meth.sig.returnType = none) {h : wSt} {k : Nat} {v1 : Int32} {v2 : Int32} {v3 : Int32} {v4 : Int32} (hk : wI6 k) {K : (Int32 × wSt) ⊕ ((wSt)) → Prop} (hN : ∀ (n4 : Int32) (nh : wSt), K (.inl (n4, nh)) → wM p l e (wR 1) s m args below meth c 0 0 (wE below args s D dA b0 ad S0 F) 6 D dA b0 ad S0 3 [some (.ref k), some (.int v1), some (.int v2), some (.int v3), some (.int n4), none] [] nh) (hX0 : ∀ (nh : wSt), K (.inr nh) → wM p l e (wR 1) s m args below meth c 0 0 (wE below args s D dA b0 ad S0 F) 6 D dA b0 ad S0 86 [none, none, none, none, none, none] [] nh) (hf : wok (fX6_put_l3 h k v1 v2 v3 v4) K) : wM p l e (wR 1) s m args below meth c 0 0 (wE below args s D dA b0 ad S0 F) 6 D dA b0 ad S0 3 [some (.ref k), some (.int v1), some (.int v2), some (.int v3), some (.int v4), none] [] h := by
  unfold fX6_put_l3 at hf
  refine w_iload X dX6_put_3 rfl rfl ?_
  refine w_iload_n X dX6_put_5 rfl rfl rfl ?_
  refine w_aload_n X dX6_put_6 rfl rfl rfl ?_
  refine w_getR X dX6_put_7 rfl fl_X6_24 hk.1 rfl ?_
  refine w_getR X dX6_put_10 rfl fl_X6_61 S0_3 rfl ?_
  refine w_iload_n X dX6_put_13 rfl rfl rfl ?_
  obtain ⟨yhg21, hf⟩ := wok_g hf
  refine w_iald X dX6_put_14 rfl (j := v1.toNatClampNeg) rfl S0_11 yhg21 ?_
  refine w_iadd X dX6_put_15 rfl ?_
  refine w_icmp_ge X dX6_put_16 rfl (t := 86) rfl (fun hc => ?_) (fun hc => ?_)
  · have hf := wok_t hf hc
    refine w_fg (ls2 := [none, none, none, none, none, none]) trivial ?_
    exact hX0 _ (wok_s hf)
  · have hf := wok_f hf hc
    refine w_iload X dX6_put_19 rfl rfl ?_
    refine w_bipush X dX6_put_21 rfl cb_6 ?_
    refine w_icmp_ge X dX6_put_23 rfl (t := 86) rfl (fun hc => ?_) (fun hc => ?_)
    · have hf := wok_t hf hc
      refine w_fg (ls2 := [none, none, none, none, none, none]) trivial ?_
      exact hX0 _ (wok_s hf)
    · have hf := wok_f hf hc
      refine w_bipush X dX6_put_26 rfl cb_6 ?_
      refine w_iload_n X dX6_put_28 rfl rfl rfl ?_
      refine w_imul X dX6_put_29 rfl ?_
      refine w_iload X dX6_put_30 rfl rfl ?_
      refine w_iadd X dX6_put_32 rfl ?_
      refine w_istore X dX6_put_33 rfl rfl (Nat.le_of_ble_eq_true rfl) (ls' := [some (.ref k), some (.int v1), some (.int v2), some (.int v3), some (.int v4), some (.int ((6 * v2) + v4))]) rfl ?_
      refine w_aload_n X dX6_put_35 rfl rfl rfl ?_
      refine w_getR X dX6_put_36 rfl fl_X6_21 hk.1 rfl ?_
      refine w_iload X dX6_put_39 rfl rfl ?_
      refine w_dup2 X dX6_put_41 rfl rfl rfl ?_
      obtain ⟨yhg22, hf⟩ := wok_g hf
      refine w_iald X dX6_put_42 rfl (j := ((6 * v2) + v4).toNatClampNeg) rfl hk.2.2.2.2 yhg22 ?_
      refine w_iload_n X dX6_put_43 rfl rfl rfl ?_
      refine w_iconst X dX6_put_44 rfl ci_3 ?_
      refine w_aload_n X dX6_put_45 rfl rfl rfl ?_
      refine w_getR X dX6_put_46 rfl fl_X6_18 hk.1 rfl ?_
      refine w_iload X dX6_put_49 rfl rfl ?_
      refine w_iald X dX6_put_51 rfl (j := ((6 * v2) + v4).toNatClampNeg) rfl hk.2.2.2.1 yhg22 ?_
      refine w_imul X dX6_put_52 rfl ?_
      refine w_ishl X dX6_put_53 rfl ?_
      refine w_ior X dX6_put_54 rfl ?_
      refine w_iast X dX6_put_55 rfl (j := ((6 * v2) + v4).toNatClampNeg) rfl hk.2.2.2.2 yhg22 ?_
      refine w_nmh (fun yh23 eyh23 => ?_)
      have hf := wok_l hf eyh23
      refine w_aload_n X dX6_put_56 rfl rfl rfl ?_
      refine w_getR X dX6_put_57 rfl fl_X6_18 hk.1 rfl ?_
      refine w_iload X dX6_put_60 rfl rfl ?_
      refine w_dup2 X dX6_put_62 rfl rfl rfl ?_
      refine w_iald X dX6_put_63 rfl (j := ((6 * v2) + v4).toNatClampNeg) rfl hk.2.2.2.1 yhg22 ?_
      refine w_iconst X dX6_put_64 rfl ci_1 ?_
      refine w_iadd X dX6_put_65 rfl ?_
      refine w_iast X dX6_put_66 rfl (j := ((6 * v2) + v4).toNatClampNeg) rfl hk.2.2.2.1 yhg22 ?_
      refine w_nmh (fun yh24 eyh24 => ?_)
      have hf := wok_l hf eyh24
      refine w_aload_n X dX6_put_67 rfl rfl rfl ?_
      refine w_getR X dX6_put_68 rfl fl_X6_15 hk.1 rfl ?_
      refine w_iload_n X dX6_put_71 rfl rfl rfl ?_
      refine w_dup2 X dX6_put_72 rfl rfl rfl ?_
      obtain ⟨yhg25, hf⟩ := wok_g hf
      refine w_iald X dX6_put_73 rfl (j := v2.toNatClampNeg) rfl hk.2.2.1 yhg25 ?_
      refine w_iconst X dX6_put_74 rfl ci_1 ?_
      refine w_iload X dX6_put_75 rfl rfl ?_
      refine w_ishl X dX6_put_77 rfl ?_
      refine w_ior X dX6_put_78 rfl ?_
      refine w_iast X dX6_put_79 rfl (j := v2.toNatClampNeg) rfl hk.2.2.1 yhg25 ?_
      refine w_nmh (fun yh26 eyh26 => ?_)
      have hf := wok_l hf eyh26
      refine w_iinc X dX6_put_80 rfl (v := (v4 + 1)) rfl rfl (Nat.le_of_ble_eq_true rfl) (cinc_1 _) (ls' := [some (.ref k), some (.int v1), some (.int v2), some (.int v3), some (.int (v4 + 1)), some (.int ((6 * v2) + v4))]) rfl ?_
      refine w_goto X dX6_put_83 (t := 3) rfl ?_
      refine w_fg (ls2 := [some (.ref k), some (.int v1), some (.int v2), some (.int v3), some (.int (v4 + 1)), none]) ⟨rfl, rfl, rfl, rfl, rfl, trivial⟩ ?_
      exact hN _ _ (wok_s hf)
set_option maxRecDepth 4000 in
theorem pX6_put_l3 (X : wCx p s m args meth c RX6 cX6_put 6 D dA b0 ad) (hr : meth.sig.returnType = none)  {k : Nat} {v1 : Int32} {v2 : Int32} {v3 : Int32} (hk : wI6 k) {KE : (wSt) → Prop} (hX0 : ∀ (nh : wSt), KE (nh) → wM p l e (wR 1) s m args below meth c 0 0 (wE below args s D dA b0 ad S0 F) 6 D dA b0 ad S0 86 [none, none, none, none, none, none] [] nh) : ∀ (n : Nat) (v4 : Int32) (h : wSt), wok (wit (fun v : (Int32 × wSt) => fX6_put_l3 v.2 k v1 v2 v3 v.1) n (v4, h)) KE → wM p l e (wR 1) s m args below meth c 0 0 (wE below args s D dA b0 ad S0 F) 6 D dA b0 ad S0 3 [some (.ref k), some (.int v1), some (.int v2), some (.int v3), some (.int v4), none] [] h := by
  have key := wit_M (b := (fun v : (Int32 × wSt) => fX6_put_l3 v.2 k v1 v2 v3 v.1)) (KE := KE) (G := fun v => wM p l e (wR 1) s m args below meth c 0 0 (wE below args s D dA b0 ad S0 F) 6 D dA b0 ad S0 3 [some (.ref k), some (.int v1), some (.int v2), some (.int v3), some (.int v.1), none] [] v.2) (fun v K hN hE hf => pX6_put_l3b X hr hk (fun n4 nh hz => hN (n4, nh) hz) (fun z0 hz => hX0 z0 (hE _ hz)) hf)
  exact fun n v4 h hf => key n (v4, h) hf
set_option maxRecDepth 4000 in
theorem pX6_put_b0 (X : wCx p s m args meth c RX6 cX6_put 6 D dA b0 ad) (hr : meth.sig.returnType = none) {h : wSt} {k : Nat} {x0 : Int32} {x1 : Int32} {x2 : Int32} (hk : wI6 k) {K : wSt → Prop} (hT : ∀ (h2 : wSt), K h2 → F none h2) (hf : wok (fX6_put h k x0 x1 x2) K) : wM p l e (wR 1) s m args below meth c 0 0 (wE below args s D dA b0 ad S0 F) 6 D dA b0 ad S0 0 [some (.ref k), some (.int x0), some (.int x1), some (.int x2), none, none] [] h := by
  unfold fX6_put at hf
  refine w_iload_n X dX6_put_0 rfl rfl rfl ?_
  refine w_istore X dX6_put_1 rfl rfl (Nat.le_of_ble_eq_true rfl) (ls' := [some (.ref k), some (.int x0), some (.int x1), some (.int x2), some (.int x2), none]) rfl ?_
  obtain ⟨ye27, hye27, hf⟩ := wok_b hf
  refine pX6_put_l3 X hr hk (KE := fun z => ye27 = z) ?_ 3000 _ _ ⟨ye27, hye27, rfl⟩
  · intro yz28 hz
    subst hz
    exact w_vret X dX6_put_86 hr (hT _ (wok_s hf))
set_option maxRecDepth 4000 in
theorem kX6_put (l : Launch) {h : wSt} {k : Nat} {x0 : Int32} {x1 : Int32} {x2 : Int32} (hk : wI6 k) {res : wSt} (hf : fX6_put h k x0 x1 x2 = some res) : wC l yX6_put cX6_put 6 none 1 S0 [.ref k, .int x0, .int x1, .int x2] h (wFV (fun b => res = b)) := by
  refine w_meth2 2 (by decide) (Nat.le_of_ble_eq_true rfl) (ls := [some (.ref k), some (.int x0), some (.int x1), some (.int x2), none, none]) rfl ?_
  intro p e s m args below meth c D dA b0 ad X hr
  exact pX6_put_b0 X hr hk (K := fun z => res = z) (fun h2 hz => ⟨rfl, hz⟩) ⟨res, hf, rfl⟩
set_option maxRecDepth 4000 in
theorem pX6_canRub_b0 (X : wCx p s m args meth c RX6 cX6_canRub 3 D dA b0 ad) (hr : meth.sig.returnType = (some .boolean)) {h : wSt} {k : Nat} {x0 : Int32} {x1 : Int32} (hk : wI6 k) {K : Bool → Prop} (hT : ∀ (x : Bool), K x → F (some (.int (wb x))) h) (hf : wok (fX6_canRub h k x0 x1) K) : wM p l e (wR 1) s m args below meth c 0 0 (wE below args s D dA b0 ad S0 F) 3 D dA b0 ad S0 0 [some (.ref k), some (.int x0), some (.int x1)] [] h := by
  unfold fX6_canRub at hf
  refine w_aload_n X dX6_canRub_0 rfl rfl rfl ?_
  refine w_getR X dX6_canRub_1 rfl fl_X6_15 hk.1 rfl ?_
  refine w_iload_n X dX6_canRub_4 rfl rfl rfl ?_
  obtain ⟨yhg21, hf⟩ := wok_g hf
  refine w_iald X dX6_canRub_5 rfl (j := x0.toNatClampNeg) rfl hk.2.2.1 yhg21 ?_
  refine w_iload_n X dX6_canRub_6 rfl rfl rfl ?_
  refine w_iand X dX6_canRub_7 rfl ?_
  refine w_if_eq X dX6_canRub_8 rfl (t := 15) rfl (fun hc => ?_) (fun hc => ?_)
  · have hf := wok_t hf hc
    refine w_iconst X dX6_canRub_15 rfl ci_0 ?_
    exact w_zret X dX6_canRub_16 hr rfl (hT false (wok_s hf))
  · have hf := wok_f hf hc
    refine w_iconst X dX6_canRub_11 rfl ci_1 ?_
    refine w_goto X dX6_canRub_12 (t := 16) rfl ?_
    exact w_zret X dX6_canRub_16 hr rfl (hT true (wok_s hf))
set_option maxRecDepth 4000 in
theorem kX6_canRub (l : Launch) {h : wSt} {k : Nat} {x0 : Int32} {x1 : Int32} (hk : wI6 k) {res : Bool} (hf : fX6_canRub h k x0 x1 = some res) : wC l yX6_canRub cX6_canRub 3 (some .boolean) 1 S0 [.ref k, .int x0, .int x1] h (wFZ (fun a b => res = a ∧ h = b)) := by
  refine w_meth2 0 (by decide) (Nat.le_of_ble_eq_true rfl) (ls := [some (.ref k), some (.int x0), some (.int x1)]) rfl ?_
  intro p e s m args below meth c D dA b0 ad X hr
  exact pX6_canRub_b0 X hr hk (K := fun z => res = z) (fun x hz => ⟨x, rfl, hz, rfl⟩) ⟨res, hf, rfl⟩
set_option maxRecDepth 4000 in
theorem pX6_wearOf_b97_8 (X : wCx p s m args meth c RX6 cX6_wearOf 8 D dA b0 ad) (hr : meth.sig.returnType = (some .int)) {h : wSt} {k : Nat} {v1 : Int32} {v2 : Int32} {v3 : Int32} {v4 : Int32} {v5 : Int32} (hk : wI6 k) {K : (Int32 × Int32 × Int32) ⊕ ((Int32 × Int32)) → Prop} (hN : ∀ (n3 : Int32) (n4 : Int32) (n5 : Int32), K (.inl (n3, n4, n5)) → wM p l e (wR 2) s m args below meth c 0 0 (wE below args s D dA b0 ad S0 F) 8 D dA b0 ad S0 8 [some (.ref k), some (.int v1), some (.int v2), some (.int n3), some (.int n4), some (.int n5), none, none] [] h) (hX0 : ∀ (n3 : Int32) (n4 : Int32), K (.inr (n3, n4)) → wM p l e (wR 2) s m args below meth c 0 0 (wE below args s D dA b0 ad S0 F) 8 D dA b0 ad S0 103 [none, none, none, some (.int n3), some (.int n4), none, none, none] [] h) (hf : wok (fX6_wearOf_b97_8 h k v1 v2 v3 v4 v5) K) : wM p l e (wR 2) s m args below meth c 0 0 (wE below args s D dA b0 ad S0 F) 8 D dA b0 ad S0 97 [some (.ref k), some (.int v1), some (.int v2), some (.int v3), some (.int v4), some (.int v5), none, none] [] h := by
  unfold fX6_wearOf_b97_8 at hf
  refine w_iinc X dX6_wearOf_97 rfl (v := (v5 + 1)) rfl rfl (Nat.le_of_ble_eq_true rfl) (cinc_1 _) (ls' := [some (.ref k), some (.int v1), some (.int v2), some (.int v3), some (.int v4), some (.int (v5 + 1)), none, none]) rfl ?_
  refine w_goto X dX6_wearOf_100 (t := 8) rfl ?_
  exact hN _ _ _ (wok_s hf)
set_option maxRecDepth 4000 in
theorem pX6_wearOf_b94_8 (X : wCx p s m args meth c RX6 cX6_wearOf 8 D dA b0 ad) (hr : meth.sig.returnType = (some .int)) {h : wSt} {k : Nat} {v1 : Int32} {v2 : Int32} {v3 : Int32} {v5 : Int32} {w0 : Int32} {w1 : Int32} (hk : wI6 k) {K : (Int32 × Int32 × Int32) ⊕ ((Int32 × Int32)) → Prop} (hN : ∀ (n3 : Int32) (n4 : Int32) (n5 : Int32), K (.inl (n3, n4, n5)) → wM p l e (wR 2) s m args below meth c 0 0 (wE below args s D dA b0 ad S0 F) 8 D dA b0 ad S0 8 [some (.ref k), some (.int v1), some (.int v2), some (.int n3), some (.int n4), some (.int n5), none, none] [] h) (hX0 : ∀ (n3 : Int32) (n4 : Int32), K (.inr (n3, n4)) → wM p l e (wR 2) s m args below meth c 0 0 (wE below args s D dA b0 ad S0 F) 8 D dA b0 ad S0 103 [none, none, none, some (.int n3), some (.int n4), none, none, none] [] h) (hf : wok (fX6_wearOf_b94_8 h k v1 v2 v3 v5 w0 w1) K) : wM p l e (wR 2) s m args below meth c 0 0 (wE below args s D dA b0 ad S0 F) 8 D dA b0 ad S0 94 [some (.ref k), some (.int v1), some (.int v2), some (.int v3), none, some (.int v5), none, none] [.int w1, .int w0] h := by
  unfold fX6_wearOf_b94_8 at hf
  refine w_ior X dX6_wearOf_94 rfl ?_
  refine w_istore X dX6_wearOf_95 rfl rfl (Nat.le_of_ble_eq_true rfl) (ls' := [some (.ref k), some (.int v1), some (.int v2), some (.int v3), some (.int (w0 ||| w1)), some (.int v5), none, none]) rfl ?_
  exact pX6_wearOf_b97_8 X hr hk hN hX0 hf
set_option maxRecDepth 4000 in
theorem pX6_wearOf_l8b (X : wCx p s m args meth c RX6 cX6_wearOf 8 D dA b0 ad) (hr : meth.sig.returnType = (some .int)) {h : wSt} {k : Nat} {v1 : Int32} {v2 : Int32} {v3 : Int32} {v4 : Int32} {v5 : Int32} (hk : wI6 k) {K : (Int32 × Int32 × Int32) ⊕ ((Int32 × Int32)) → Prop} (hN : ∀ (n3 : Int32) (n4 : Int32) (n5 : Int32), K (.inl (n3, n4, n5)) → wM p l e (wR 2) s m args below meth c 0 0 (wE below args s D dA b0 ad S0 F) 8 D dA b0 ad S0 8 [some (.ref k), some (.int v1), some (.int v2), some (.int n3), some (.int n4), some (.int n5), none, none] [] h) (hX0 : ∀ (n3 : Int32) (n4 : Int32), K (.inr (n3, n4)) → wM p l e (wR 2) s m args below meth c 0 0 (wE below args s D dA b0 ad S0 F) 8 D dA b0 ad S0 103 [none, none, none, some (.int n3), some (.int n4), none, none, none] [] h) (hf : wok (fX6_wearOf_l8 h k v1 v2 v3 v4 v5) K) : wM p l e (wR 2) s m args below meth c 0 0 (wE below args s D dA b0 ad S0 F) 8 D dA b0 ad S0 8 [some (.ref k), some (.int v1), some (.int v2), some (.int v3), some (.int v4), some (.int v5), none, none] [] h := by
  unfold fX6_wearOf_l8 at hf
  refine w_iload X dX6_wearOf_8 rfl rfl ?_
  refine w_bipush X dX6_wearOf_10 rfl cb_6 ?_
  refine w_icmp_ge X dX6_wearOf_12 rfl (t := 103) rfl (fun hc => ?_) (fun hc => ?_)
  · have hf := wok_t hf hc
    refine w_fg (ls2 := [none, none, none, some (.int v3), some (.int v4), none, none, none]) ⟨rfl, rfl, trivial⟩ ?_
    exact hX0 _ _ (wok_s hf)
  · have hf := wok_f hf hc
    refine w_bipush X dX6_wearOf_15 rfl cb_6 ?_
    refine w_iload_n X dX6_wearOf_17 rfl rfl rfl ?_
    refine w_imul X dX6_wearOf_18 rfl ?_
    refine w_iload X dX6_wearOf_19 rfl rfl ?_
    refine w_iadd X dX6_wearOf_21 rfl ?_
    refine w_istore X dX6_wearOf_22 rfl rfl (Nat.le_of_ble_eq_true rfl) (ls' := [some (.ref k), some (.int v1), some (.int v2), some (.int v3), some (.int v4), some (.int v5), some (.int ((6 * v1) + v5)), none]) rfl ?_
    refine w_iload_n X dX6_wearOf_24 rfl rfl rfl ?_
    refine w_iload X dX6_wearOf_25 rfl rfl ?_
    refine w_ishr X dX6_wearOf_27 rfl ?_
    refine w_iconst X dX6_wearOf_28 rfl ci_1 ?_
    refine w_iand X dX6_wearOf_29 rfl ?_
    refine w_if_eq X dX6_wearOf_30 rfl (t := 97) rfl (fun hc => ?_) (fun hc => ?_)
    · have hf := wok_t hf hc
      refine w_fg (ls2 := [some (.ref k), some (.int v1), some (.int v2), some (.int v3), some (.int v4), some (.int v5), none, none]) ⟨rfl, rfl, rfl, rfl, rfl, rfl, trivial⟩ ?_
      exact pX6_wearOf_b97_8 X hr hk hN hX0 hf
    · have hf := wok_f hf hc
      refine w_aload_n X dX6_wearOf_33 rfl rfl rfl ?_
      refine w_getR X dX6_wearOf_34 rfl fl_X6_18 hk.1 rfl ?_
      refine w_iload X dX6_wearOf_37 rfl rfl ?_
      obtain ⟨yhg21, hf⟩ := wok_g hf
      refine w_iald X dX6_wearOf_39 rfl (j := ((6 * v1) + v5).toNatClampNeg) rfl hk.2.2.2.1 yhg21 ?_
      refine w_if_le X dX6_wearOf_40 rfl (t := 97) rfl (fun hc => ?_) (fun hc => ?_)
      · have hf := wok_t hf hc
        refine w_fg (ls2 := [some (.ref k), some (.int v1), some (.int v2), some (.int v3), some (.int v4), some (.int v5), none, none]) ⟨rfl, rfl, rfl, rfl, rfl, rfl, trivial⟩ ?_
        exact pX6_wearOf_b97_8 X hr hk hN hX0 hf
      · have hf := wok_f hf hc
        refine w_aload_n X dX6_wearOf_43 rfl rfl rfl ?_
        refine w_iload X dX6_wearOf_44 rfl rfl ?_
        refine w_aload_n X dX6_wearOf_46 rfl rfl rfl ?_
        refine w_getR X dX6_wearOf_47 rfl fl_X6_18 hk.1 rfl ?_
        refine w_iload X dX6_wearOf_50 rfl rfl ?_
        refine w_iald X dX6_wearOf_52 rfl (j := ((6 * v1) + v5).toNatClampNeg) rfl hk.2.2.2.1 yhg21 ?_
        refine w_iconst X dX6_wearOf_53 rfl ci_1 ?_
        refine w_isub X dX6_wearOf_54 rfl ?_
        obtain ⟨yr22, eyr22, hf⟩ := wok_b hf
        refine w_callV X dX6_wearOf_55 rfl vl_X6_77 (kX6_layerAt l hk eyr22) hk.1 (As := [.int ((6 * v1) + v5), .int ((h.1 (k + 3) ((6 * v1) + v5).toNatClampNeg) - 1)]) (st := []) rfl rfl (Nat.le_of_ble_eq_true rfl) ⟨Nat.le_of_ble_eq_true rfl, Nat.le_of_ble_eq_true rfl⟩ ⟨Nat.zero_le _, Nat.zero_le _⟩ (fun r h2 hF => ?_)
        obtain ⟨_, rfl, rfl, rfl⟩ := hF
        show wM p l e (wR 2) s m args below meth c 0 0 (wE below args s D dA b0 ad S0 F) 8 D dA b0 ad S0 58 [some (.ref k), some (.int v1), some (.int v2), some (.int v3), some (.int v4), some (.int v5), some (.int ((6 * v1) + v5)), none] [.int yr22] h
        refine w_istore X dX6_wearOf_58 rfl rfl (Nat.le_of_ble_eq_true rfl) (ls' := [some (.ref k), some (.int v1), some (.int v2), some (.int v3), some (.int v4), some (.int v5), some (.int ((6 * v1) + v5)), some (.int yr22)]) rfl ?_
        refine w_iload_n X dX6_wearOf_60 rfl rfl rfl ?_
        refine w_aload_n X dX6_wearOf_61 rfl rfl rfl ?_
        refine w_getR X dX6_wearOf_62 rfl fl_X6_24 hk.1 rfl ?_
        refine w_getR X dX6_wearOf_65 rfl fl_X6_80 S0_3 rfl ?_
        refine w_iload X dX6_wearOf_68 rfl rfl ?_
        obtain ⟨yhg23, hf⟩ := wok_g hf
        refine w_iald X dX6_wearOf_70 rfl (j := yr22.toNatClampNeg) rfl S0_10 yhg23 ?_
        refine w_ior X dX6_wearOf_71 rfl ?_
        refine w_topi (fun yx24 eyx24 => ?_)
        have hf := wok_l hf eyx24
        refine w_istore_n X dX6_wearOf_72 rfl rfl rfl (Nat.le_of_ble_eq_true rfl) (ls' := [some (.ref k), some (.int v1), some (.int v2), some (.int yx24), some (.int v4), some (.int v5), some (.int ((6 * v1) + v5)), some (.int yr22)]) rfl ?_
        refine w_iload X dX6_wearOf_73 rfl rfl ?_
        refine w_aload_n X dX6_wearOf_75 rfl rfl rfl ?_
        refine w_getR X dX6_wearOf_76 rfl fl_X6_24 hk.1 rfl ?_
        refine w_getR X dX6_wearOf_79 rfl fl_X6_83 S0_3 rfl ?_
        refine w_iload X dX6_wearOf_82 rfl rfl ?_
        refine w_iald X dX6_wearOf_84 rfl (j := yr22.toNatClampNeg) rfl S0_9 yhg23 ?_
        refine w_iconst X dX6_wearOf_85 rfl ci_3 ?_
        refine w_icmp_ne X dX6_wearOf_86 rfl (t := 93) rfl (fun hc => ?_) (fun hc => ?_)
        · have hf := wok_f hf hc
          refine w_iconst X dX6_wearOf_93 rfl ci_0 ?_
          refine w_fg (ls2 := [some (.ref k), some (.int v1), some (.int v2), some (.int yx24), none, some (.int v5), none, none]) ⟨rfl, rfl, rfl, rfl, rfl, trivial⟩ ?_
          exact pX6_wearOf_b94_8 X hr hk hN hX0 hf
        · have hf := wok_t hf hc
          refine w_iconst X dX6_wearOf_89 rfl ci_1 ?_
          refine w_goto X dX6_wearOf_90 (t := 94) rfl ?_
          refine w_fg (ls2 := [some (.ref k), some (.int v1), some (.int v2), some (.int yx24), none, some (.int v5), none, none]) ⟨rfl, rfl, rfl, rfl, rfl, trivial⟩ ?_
          exact pX6_wearOf_b94_8 X hr hk hN hX0 hf
set_option maxRecDepth 4000 in
theorem pX6_wearOf_l8 (X : wCx p s m args meth c RX6 cX6_wearOf 8 D dA b0 ad) (hr : meth.sig.returnType = (some .int)) {h : wSt} {k : Nat} {v1 : Int32} {v2 : Int32} (hk : wI6 k) {KE : (Int32 × Int32) → Prop} (hX0 : ∀ (n3 : Int32) (n4 : Int32), KE ((n3, n4)) → wM p l e (wR 2) s m args below meth c 0 0 (wE below args s D dA b0 ad S0 F) 8 D dA b0 ad S0 103 [none, none, none, some (.int n3), some (.int n4), none, none, none] [] h) : ∀ (n : Nat) (v3 : Int32) (v4 : Int32) (v5 : Int32), wok (wit (fun v : (Int32 × Int32 × Int32) => fX6_wearOf_l8 h k v1 v2 v.1 v.2.1 v.2.2) n (v3, v4, v5)) KE → wM p l e (wR 2) s m args below meth c 0 0 (wE below args s D dA b0 ad S0 F) 8 D dA b0 ad S0 8 [some (.ref k), some (.int v1), some (.int v2), some (.int v3), some (.int v4), some (.int v5), none, none] [] h := by
  have key := wit_M (b := (fun v : (Int32 × Int32 × Int32) => fX6_wearOf_l8 h k v1 v2 v.1 v.2.1 v.2.2)) (KE := KE) (G := fun v => wM p l e (wR 2) s m args below meth c 0 0 (wE below args s D dA b0 ad S0 F) 8 D dA b0 ad S0 8 [some (.ref k), some (.int v1), some (.int v2), some (.int v.1), some (.int v.2.1), some (.int v.2.2), none, none] [] h) (fun v K hN hE hf => pX6_wearOf_l8b X hr hk (fun n3 n4 n5 hz => hN (n3, n4, n5) hz) (fun z0 z1 hz => hX0 z0 z1 (hE _ hz)) hf)
  exact fun n v3 v4 v5 hf => key n (v3, v4, v5) hf
set_option maxRecDepth 4000 in
theorem pX6_wearOf_b0 (X : wCx p s m args meth c RX6 cX6_wearOf 8 D dA b0 ad) (hr : meth.sig.returnType = (some .int)) {h : wSt} {k : Nat} {x0 : Int32} {x1 : Int32} (hk : wI6 k) {K : Int32 → Prop} (hT : ∀ (x : Int32), K x → F (some (.int x)) h) (hf : wok (fX6_wearOf h k x0 x1) K) : wM p l e (wR 2) s m args below meth c 0 0 (wE below args s D dA b0 ad S0 F) 8 D dA b0 ad S0 0 [some (.ref k), some (.int x0), some (.int x1), none, none, none, none, none] [] h := by
  unfold fX6_wearOf at hf
  refine w_iconst X dX6_wearOf_0 rfl ci_0 ?_
  refine w_istore_n X dX6_wearOf_1 rfl rfl rfl (Nat.le_of_ble_eq_true rfl) (ls' := [some (.ref k), some (.int x0), some (.int x1), some (.int 0), none, none, none, none]) rfl ?_
  refine w_iconst X dX6_wearOf_2 rfl ci_0 ?_
  refine w_istore X dX6_wearOf_3 rfl rfl (Nat.le_of_ble_eq_true rfl) (ls' := [some (.ref k), some (.int x0), some (.int x1), some (.int 0), some (.int 0), none, none, none]) rfl ?_
  refine w_iconst X dX6_wearOf_5 rfl ci_0 ?_
  refine w_istore X dX6_wearOf_6 rfl rfl (Nat.le_of_ble_eq_true rfl) (ls' := [some (.ref k), some (.int x0), some (.int x1), some (.int 0), some (.int 0), some (.int 0), none, none]) rfl ?_
  obtain ⟨ye25, hye25, hf⟩ := wok_b hf
  refine pX6_wearOf_l8 X hr hk (KE := fun z => ye25 = z) ?_ 3000 _ _ _ ⟨ye25, hye25, rfl⟩
  · intro yz26 yz27 hz
    subst hz
    refine w_iconst X dX6_wearOf_103 rfl ci_1 ?_
    refine w_iload_n X dX6_wearOf_104 rfl rfl rfl ?_
    refine w_iadd X dX6_wearOf_105 rfl ?_
    refine w_iload X dX6_wearOf_106 rfl rfl ?_
    refine w_iadd X dX6_wearOf_108 rfl ?_
    exact w_iret X dX6_wearOf_109 hr (hT _ (wok_s hf))
set_option maxRecDepth 4000 in
theorem kX6_wearOf (l : Launch) {h : wSt} {k : Nat} {x0 : Int32} {x1 : Int32} (hk : wI6 k) {res : Int32} (hf : fX6_wearOf h k x0 x1 = some res) : wC l yX6_wearOf cX6_wearOf 8 (some .int) 2 S0 [.ref k, .int x0, .int x1] h (wFI (fun a b => res = a ∧ h = b)) := by
  refine w_meth2 5 (by decide) (Nat.le_of_ble_eq_true rfl) (ls := [some (.ref k), some (.int x0), some (.int x1), none, none, none, none, none]) rfl ?_
  intro p e s m args below meth c D dA b0 ad X hr
  exact pX6_wearOf_b0 X hr hk (K := fun z => res = z) (fun x hz => ⟨x, rfl, hz, rfl⟩) ⟨res, hf, rfl⟩
set_option maxRecDepth 4000 in
theorem pX6_rub_b0 (X : wCx p s m args meth c RX6 cX6_rub 4 D dA b0 ad) (hr : meth.sig.returnType = (some .boolean)) {h : wSt} {k : Nat} {x0 : Int32} {x1 : Int32} (hk : wI6 k) {K : Bool × wSt → Prop} (hT : ∀ (x : Bool) (h2 : wSt), K (x, h2) → F (some (.int (wb x))) h2) (hf : wok (fX6_rub h k x0 x1) K) : wM p l e (wR 3) s m args below meth c 0 0 (wE below args s D dA b0 ad S0 F) 4 D dA b0 ad S0 0 [some (.ref k), some (.int x0), some (.int x1), none] [] h := by
  unfold fX6_rub at hf
  refine w_aload_n X dX6_rub_0 rfl rfl rfl ?_
  refine w_getR X dX6_rub_1 rfl fl_X6_15 hk.1 rfl ?_
  refine w_iload_n X dX6_rub_4 rfl rfl rfl ?_
  obtain ⟨yhg21, hf⟩ := wok_g hf
  refine w_iald X dX6_rub_5 rfl (j := x0.toNatClampNeg) rfl hk.2.2.1 yhg21 ?_
  refine w_iload_n X dX6_rub_6 rfl rfl rfl ?_
  refine w_iand X dX6_rub_7 rfl ?_
  refine w_topi (fun yx22 eyx22 => ?_)
  have hf := wok_l hf eyx22
  refine w_istore_n X dX6_rub_8 rfl rfl rfl (Nat.le_of_ble_eq_true rfl) (ls' := [some (.ref k), some (.int x0), some (.int x1), some (.int yx22)]) rfl ?_
  refine w_iload_n X dX6_rub_9 rfl rfl rfl ?_
  refine w_if_ne X dX6_rub_10 rfl (t := 15) rfl (fun hc => ?_) (fun hc => ?_)
  · have hf := wok_f hf hc
    refine w_aload_n X dX6_rub_15 rfl rfl rfl ?_
    refine w_getR X dX6_rub_16 rfl fl_X6_9 hk.1 rfl ?_
    refine w_iload_n X dX6_rub_19 rfl rfl rfl ?_
    refine w_iconst X dX6_rub_20 rfl ci_0 ?_
    refine w_aload_n X dX6_rub_21 rfl rfl rfl ?_
    refine w_getR X dX6_rub_22 rfl fl_X6_9 hk.1 rfl ?_
    refine w_iload_n X dX6_rub_25 rfl rfl rfl ?_
    refine w_iald X dX6_rub_26 rfl (j := x0.toNatClampNeg) rfl hk.2.1 yhg21 ?_
    refine w_aload_n X dX6_rub_27 rfl rfl rfl ?_
    refine w_iload_n X dX6_rub_28 rfl rfl rfl ?_
    refine w_iload_n X dX6_rub_29 rfl rfl rfl ?_
    obtain ⟨yr23, eyr23, hf⟩ := wok_b hf
    refine w_callV X dX6_rub_30 rfl vl_X6_68 (kX6_wearOf l hk eyr23) hk.1 (As := [.int x0, .int yx22]) (st := [.int (h.1 (k + 1) x0.toNatClampNeg), .int 0, .int x0, .ref (k + 1)]) rfl rfl (Nat.le_of_ble_eq_true rfl) ⟨Nat.le_of_ble_eq_true rfl, Nat.le_of_ble_eq_true rfl⟩ ⟨Nat.zero_le _, Nat.zero_le _⟩ (fun r h2 hF => ?_)
    obtain ⟨_, rfl, rfl, rfl⟩ := hF
    show wM p l e (wR 3) s m args below meth c 0 0 (wE below args s D dA b0 ad S0 F) 4 D dA b0 ad S0 33 [some (.ref k), some (.int x0), some (.int x1), some (.int yx22)] [.int yr23, .int (h.1 (k + 1) x0.toNatClampNeg), .int 0, .int x0, .ref (k + 1)] h
    refine w_isub X dX6_rub_33 rfl ?_
    refine w_mmax X dX6_rub_34 rfl wd_846 wd_422 wd_15 wd_423 (Nat.le_of_ble_eq_true rfl) (Nat.le_of_ble_eq_true rfl) (Nat.zero_le _) (Nat.zero_le _) ?_
    refine w_iast X dX6_rub_37 rfl (j := x0.toNatClampNeg) rfl hk.2.1 yhg21 ?_
    refine w_nmh (fun yh24 eyh24 => ?_)
    have hf := wok_l hf eyh24
    refine w_aload_n X dX6_rub_38 rfl rfl rfl ?_
    refine w_getR X dX6_rub_39 rfl fl_X6_15 hk.1 rfl ?_
    refine w_iload_n X dX6_rub_42 rfl rfl rfl ?_
    refine w_dup2 X dX6_rub_43 rfl rfl rfl ?_
    refine w_iald X dX6_rub_44 rfl (j := x0.toNatClampNeg) rfl hk.2.2.1 yhg21 ?_
    refine w_iload_n X dX6_rub_45 rfl rfl rfl ?_
    refine w_iconst X dX6_rub_46 rfl ci_m1 ?_
    refine w_ixor X dX6_rub_47 rfl ?_
    refine w_iand X dX6_rub_48 rfl ?_
    refine w_iast X dX6_rub_49 rfl (j := x0.toNatClampNeg) rfl hk.2.2.1 yhg21 ?_
    refine w_nmh (fun yh25 eyh25 => ?_)
    have hf := wok_l hf eyh25
    refine w_aload_n X dX6_rub_50 rfl rfl rfl ?_
    refine w_getR X dX6_rub_51 rfl fl_X6_9 hk.1 rfl ?_
    refine w_iload_n X dX6_rub_54 rfl rfl rfl ?_
    refine w_iald X dX6_rub_55 rfl (j := x0.toNatClampNeg) rfl hk.2.1 yhg21 ?_
    refine w_if_ne X dX6_rub_56 rfl (t := 64) rfl (fun hc => ?_) (fun hc => ?_)
    · have hf := wok_f hf hc
      refine w_iconst X dX6_rub_64 rfl ci_1 ?_
      exact w_zret X dX6_rub_65 hr rfl (hT true _ (wok_s hf))
    · have hf := wok_t hf hc
      refine w_aload_n X dX6_rub_59 rfl rfl rfl ?_
      refine w_iload_n X dX6_rub_60 rfl rfl rfl ?_
      obtain ⟨yr26, eyr26, hf⟩ := wok_b hf
      refine w_callV X dX6_rub_61 rfl vl_X6_32 (kX6_strip l hk eyr26) hk.1 (As := [.int x0]) (st := []) rfl rfl (Nat.le_of_ble_eq_true rfl) ⟨Nat.le_of_ble_eq_true rfl, Nat.le_of_ble_eq_true rfl⟩ ⟨Nat.zero_le _, Nat.zero_le _⟩ (fun r h2 hF => ?_)
      obtain ⟨rfl, rfl⟩ := hF
      show wM p l e (wR 3) s m args below meth c 0 0 (wE below args s D dA b0 ad S0 F) 4 D dA b0 ad S0 64 [some (.ref k), some (.int x0), some (.int x1), some (.int yx22)] [] yr26
      refine w_iconst X dX6_rub_64 rfl ci_1 ?_
      exact w_zret X dX6_rub_65 hr rfl (hT true _ (wok_s hf))
  · have hf := wok_t hf hc
    refine w_iconst X dX6_rub_13 rfl ci_0 ?_
    exact w_zret X dX6_rub_14 hr rfl (hT false _ (wok_s hf))
set_option maxRecDepth 4000 in
theorem kX6_rub (l : Launch) {h : wSt} {k : Nat} {x0 : Int32} {x1 : Int32} (hk : wI6 k) {res : Bool × wSt} (hf : fX6_rub h k x0 x1 = some res) : wC l yX6_rub cX6_rub 4 (some .boolean) 3 S0 [.ref k, .int x0, .int x1] h (wFZ (fun a b => res.1 = a ∧ res.2 = b)) := by
  refine w_meth2 1 (by decide) (Nat.le_of_ble_eq_true rfl) (ls := [some (.ref k), some (.int x0), some (.int x1), none]) rfl ?_
  intro p e s m args below meth c D dA b0 ad X hr
  exact pX6_rub_b0 X hr hk (K := fun z => res = z) (fun x h2 hz => ⟨x, rfl, by rw [hz], by rw [hz]⟩) ⟨res, hf, rfl⟩
set_option maxRecDepth 4000 in
theorem pX6_writeIfCan_b0 (X : wCx p s m args meth c RX6 cX6_writeIfCan 4 D dA b0 ad) (hr : meth.sig.returnType = (some .boolean)) {h : wSt} {k : Nat} {x0 : Int32} {x1 : Int32} {x2 : Int32} (hk : wI6 k) {K : Bool × wSt → Prop} (hT : ∀ (x : Bool) (h2 : wSt), K (x, h2) → F (some (.int (wb x))) h2) (hf : wok (fX6_writeIfCan h k x0 x1 x2) K) : wM p l e (wR 3) s m args below meth c 0 0 (wE below args s D dA b0 ad S0 F) 4 D dA b0 ad S0 0 [some (.ref k), some (.int x0), some (.int x1), some (.int x2)] [] h := by
  unfold fX6_writeIfCan at hf
  refine w_aload_n X dX6_writeIfCan_0 rfl rfl rfl ?_
  refine w_iload_n X dX6_writeIfCan_1 rfl rfl rfl ?_
  refine w_iload_n X dX6_writeIfCan_2 rfl rfl rfl ?_
  refine w_iload_n X dX6_writeIfCan_3 rfl rfl rfl ?_
  obtain ⟨yr21, eyr21, hf⟩ := wok_b hf
  refine w_callV X dX6_writeIfCan_4 rfl vl_X6_64 (kX6_canWrite l hk eyr21) hk.1 (As := [.int x0, .int x1, .int x2]) (st := []) rfl rfl (Nat.le_of_ble_eq_true rfl) ⟨Nat.le_of_ble_eq_true rfl, Nat.le_of_ble_eq_true rfl⟩ ⟨Nat.zero_le _, Nat.zero_le _⟩ (fun r h2 hF => ?_)
  obtain ⟨_, rfl, rfl, rfl⟩ := hF
  show wM p l e (wR 3) s m args below meth c 0 0 (wE below args s D dA b0 ad S0 F) 4 D dA b0 ad S0 7 [some (.ref k), some (.int x0), some (.int x1), some (.int x2)] [.int (wb yr21)] h
  refine w_if_ne X dX6_writeIfCan_7 rfl (t := 12) rfl (fun hc => ?_) (fun hc => ?_)
  · have hf := wok_t hf (wb_n0 hc)
    refine w_aload_n X dX6_writeIfCan_12 rfl rfl rfl ?_
    refine w_iload_n X dX6_writeIfCan_13 rfl rfl rfl ?_
    refine w_iload_n X dX6_writeIfCan_14 rfl rfl rfl ?_
    refine w_iload_n X dX6_writeIfCan_15 rfl rfl rfl ?_
    obtain ⟨yr22, eyr22, hf⟩ := wok_b hf
    refine w_callV X dX6_writeIfCan_16 rfl vl_X6_102 (kX6_put l hk eyr22) hk.1 (As := [.int x0, .int x1, .int x2]) (st := []) rfl rfl (Nat.le_of_ble_eq_true rfl) ⟨Nat.le_of_ble_eq_true rfl, Nat.le_of_ble_eq_true rfl⟩ ⟨Nat.zero_le _, Nat.zero_le _⟩ (fun r h2 hF => ?_)
    obtain ⟨rfl, rfl⟩ := hF
    show wM p l e (wR 3) s m args below meth c 0 0 (wE below args s D dA b0 ad S0 F) 4 D dA b0 ad S0 19 [some (.ref k), some (.int x0), some (.int x1), some (.int x2)] [] yr22
    refine w_iconst X dX6_writeIfCan_19 rfl ci_1 ?_
    exact w_zret X dX6_writeIfCan_20 hr rfl (hT true _ (wok_s hf))
  · have hf := wok_f hf (wb_0 hc)
    refine w_iconst X dX6_writeIfCan_10 rfl ci_0 ?_
    exact w_zret X dX6_writeIfCan_11 hr rfl (hT false _ (wok_s hf))
set_option maxRecDepth 4000 in
theorem kX6_writeIfCan (l : Launch) {h : wSt} {k : Nat} {x0 : Int32} {x1 : Int32} {x2 : Int32} (hk : wI6 k) {res : Bool × wSt} (hf : fX6_writeIfCan h k x0 x1 x2 = some res) : wC l yX6_writeIfCan cX6_writeIfCan 4 (some .boolean) 3 S0 [.ref k, .int x0, .int x1, .int x2] h (wFZ (fun a b => res.1 = a ∧ res.2 = b)) := by
  refine w_meth2 0 (by decide) (Nat.le_of_ble_eq_true rfl) (ls := [some (.ref k), some (.int x0), some (.int x1), some (.int x2)]) rfl ?_
  intro p e s m args below meth c D dA b0 ad X hr
  exact pX6_writeIfCan_b0 X hr hk (K := fun z => res = z) (fun x h2 hz => ⟨x, rfl, by rw [hz], by rw [hz]⟩) ⟨res, hf, rfl⟩
set_option maxRecDepth 4000 in
theorem pX6_follow_b103 (X : wCx p s m args meth c RX6 cX6_follow 5 D dA b0 ad) (hr : meth.sig.returnType = (some .boolean)) {h : wSt} {k : Nat} {w1 : Int32} {w2 : Int32} (hk : wI6 k) {K : Bool × wSt → Prop} (hT : ∀ (x : Bool) (h2 : wSt), K (x, h2) → F (some (.int (wb x))) h2)  (hf : wok (fX6_follow_b103 h k w1 w2) K) : wM p l e (wR 4) s m args below meth c 0 0 (wE below args s D dA b0 ad S0 F) 5 D dA b0 ad S0 103 [none, none, none, none, none] [.int w2, .int w1, .ref k] h := by
  unfold fX6_follow_b103 at hf
  obtain ⟨yr22, eyr22, hf⟩ := wok_b hf
  refine w_callV X dX6_follow_103 rfl vl_X6_98 (kX6_rub l hk eyr22) hk.1 (As := [.int w1, .int w2]) (st := []) rfl rfl (Nat.le_of_ble_eq_true rfl) ⟨Nat.le_of_ble_eq_true rfl, Nat.le_of_ble_eq_true rfl⟩ ⟨Nat.zero_le _, Nat.zero_le _⟩ (fun r h2 hF => ?_)
  obtain ⟨_, rfl, rfl, rfl⟩ := hF
  show wM p l e (wR 4) s m args below meth c 0 0 (wE below args s D dA b0 ad S0 F) 5 D dA b0 ad S0 106 [none, none, none, none, none] [.int (wb yr22.1)] yr22.2
  exact w_zret X dX6_follow_106 hr (wb_n _) (hT _ _ (wok_s hf))
set_option maxRecDepth 4000 in
theorem pX6_follow_b0 (X : wCx p s m args meth c RX6 cX6_follow 5 D dA b0 ad) (hr : meth.sig.returnType = (some .boolean)) {h : wSt} {k : Nat} {x0 : Int32} (hk : wI6 k) {K : Bool × wSt → Prop} (hT : ∀ (x : Bool) (h2 : wSt), K (x, h2) → F (some (.int (wb x))) h2) (hf : wok (fX6_follow h k x0) K) : wM p l e (wR 4) s m args below meth c 0 0 (wE below args s D dA b0 ad S0 F) 5 D dA b0 ad S0 0 [some (.ref k), some (.int x0), none, none, none] [] h := by
  unfold fX6_follow at hf
  refine w_iload_n X dX6_follow_0 rfl rfl rfl ?_
  refine w_sipush X dX6_follow_1 rfl cs_1000 ?_
  refine w_idiv X dX6_follow_4 rfl (by decide) ?_
  refine w_istore_n X dX6_follow_5 rfl rfl rfl (Nat.le_of_ble_eq_true rfl) (ls' := [some (.ref k), some (.int x0), some (.int (x0 / 1000)), none, none]) rfl ?_
  refine w_iload_n X dX6_follow_6 rfl rfl rfl ?_
  refine w_bipush X dX6_follow_7 rfl cb_10 ?_
  refine w_idiv X dX6_follow_9 rfl (by decide) ?_
  refine w_bipush X dX6_follow_10 rfl cb_10 ?_
  refine w_irem X dX6_follow_12 rfl (by decide) ?_
  refine w_istore_n X dX6_follow_13 rfl rfl rfl (Nat.le_of_ble_eq_true rfl) (ls' := [some (.ref k), some (.int x0), some (.int (x0 / 1000)), some (.int ((x0 / 10) - (x0 / 10) / 10 * 10)), none]) rfl ?_
  refine w_iload_n X dX6_follow_14 rfl rfl rfl ?_
  refine w_iconst X dX6_follow_15 rfl ci_3 ?_
  refine w_icmp_ne X dX6_follow_16 rfl (t := 31) rfl (fun hc => ?_) (fun hc => ?_)
  · have hf := wok_f hf hc
    refine w_aload_n X dX6_follow_31 rfl rfl rfl ?_
    refine w_getR X dX6_follow_32 rfl fl_X6_24 hk.1 rfl ?_
    refine w_iload_n X dX6_follow_35 rfl rfl rfl ?_
    obtain ⟨yr21, eyr21, hf⟩ := wok_b hf
    refine w_callV X dX6_follow_36 rfl vl_X6_88 (kX4_hasSkin l in_3 eyr21) S0_3 (As := [.int ((x0 / 10) - (x0 / 10) / 10 * 10)]) (st := []) rfl rfl (Nat.le_of_ble_eq_true rfl) ⟨Nat.le_of_ble_eq_true rfl, Nat.le_of_ble_eq_true rfl⟩ ⟨Nat.zero_le _, Nat.zero_le _⟩ (fun r h2 hF => ?_)
    obtain ⟨_, rfl, rfl, rfl⟩ := hF
    show wM p l e (wR 4) s m args below meth c 0 0 (wE below args s D dA b0 ad S0 F) 5 D dA b0 ad S0 39 [some (.ref k), some (.int x0), some (.int (x0 / 1000)), some (.int ((x0 / 10) - (x0 / 10) / 10 * 10)), none] [.int (wb yr21)] h
    refine w_if_ne X dX6_follow_39 rfl (t := 44) rfl (fun hc => ?_) (fun hc => ?_)
    · have hf := wok_t hf (wb_n0 hc)
      refine w_iload_n X dX6_follow_44 rfl rfl rfl ?_
      refine w_if_ne X dX6_follow_45 rfl (t := 89) rfl (fun hc => ?_) (fun hc => ?_)
      · have hf := wok_f hf hc
        refine w_aload_n X dX6_follow_89 rfl rfl rfl ?_
        refine w_iload_n X dX6_follow_90 rfl rfl rfl ?_
        refine w_iload_n X dX6_follow_91 rfl rfl rfl ?_
        refine w_iconst X dX6_follow_92 rfl ci_1 ?_
        refine w_icmp_ne X dX6_follow_93 rfl (t := 101) rfl (fun hc => ?_) (fun hc => ?_)
        · have hf := wok_f hf hc
          refine w_bipush X dX6_follow_101 rfl cb_9 ?_
          refine w_fg (ls2 := [none, none, none, none, none]) trivial ?_
          exact pX6_follow_b103 X hr hk hT hf
        · have hf := wok_t hf hc
          refine w_bipush X dX6_follow_96 rfl cb_63 ?_
          refine w_goto X dX6_follow_98 (t := 103) rfl ?_
          refine w_fg (ls2 := [none, none, none, none, none]) trivial ?_
          exact pX6_follow_b103 X hr hk hT hf
      · have hf := wok_t hf hc
        refine w_iload_n X dX6_follow_48 rfl rfl rfl ?_
        refine w_bipush X dX6_follow_49 rfl cb_100 ?_
        refine w_idiv X dX6_follow_51 rfl (by decide) ?_
        refine w_bipush X dX6_follow_52 rfl cb_10 ?_
        refine w_irem X dX6_follow_54 rfl (by decide) ?_
        refine w_topi (fun yx23 eyx23 => ?_)
        have hf := wok_l hf eyx23
        refine w_istore X dX6_follow_55 rfl rfl (Nat.le_of_ble_eq_true rfl) (ls' := [some (.ref k), some (.int x0), some (.int (x0 / 1000)), some (.int ((x0 / 10) - (x0 / 10) / 10 * 10)), some (.int yx23)]) rfl ?_
        refine w_aload_n X dX6_follow_57 rfl rfl rfl ?_
        refine w_getR X dX6_follow_58 rfl fl_X6_24 hk.1 rfl ?_
        refine w_iload X dX6_follow_61 rfl rfl ?_
        obtain ⟨yr24, eyr24, hf⟩ := wok_b hf
        refine w_callV X dX6_follow_63 rfl vl_X6_92 (kX4_hasText l in_3 eyr24) S0_3 (As := [.int yx23]) (st := []) rfl rfl (Nat.le_of_ble_eq_true rfl) ⟨Nat.le_of_ble_eq_true rfl, Nat.le_of_ble_eq_true rfl⟩ ⟨Nat.zero_le _, Nat.zero_le _⟩ (fun r h2 hF => ?_)
        obtain ⟨_, rfl, rfl, rfl⟩ := hF
        show wM p l e (wR 4) s m args below meth c 0 0 (wE below args s D dA b0 ad S0 F) 5 D dA b0 ad S0 66 [some (.ref k), some (.int x0), some (.int (x0 / 1000)), some (.int ((x0 / 10) - (x0 / 10) / 10 * 10)), some (.int yx23)] [.int (wb yr24)] h
        refine w_if_eq X dX6_follow_66 rfl (t := 87) rfl (fun hc => ?_) (fun hc => ?_)
        · have hf := wok_f hf (wb_0 hc)
          refine w_iconst X dX6_follow_87 rfl ci_0 ?_
          exact w_zret X dX6_follow_88 hr rfl (hT false _ (wok_s hf))
        · have hf := wok_t hf (wb_n0 hc)
          refine w_aload_n X dX6_follow_69 rfl rfl rfl ?_
          refine w_iload X dX6_follow_70 rfl rfl ?_
          refine w_iload_n X dX6_follow_72 rfl rfl rfl ?_
          refine w_iload_n X dX6_follow_73 rfl rfl rfl ?_
          refine w_bipush X dX6_follow_74 rfl cb_10 ?_
          refine w_irem X dX6_follow_76 rfl (by decide) ?_
          obtain ⟨yr25, eyr25, hf⟩ := wok_b hf
          refine w_callV X dX6_follow_77 rfl vl_X6_95 (kX6_writeIfCan l hk eyr25) hk.1 (As := [.int yx23, .int ((x0 / 10) - (x0 / 10) / 10 * 10), .int (x0 - x0 / 10 * 10)]) (st := []) rfl rfl (Nat.le_of_ble_eq_true rfl) ⟨Nat.le_of_ble_eq_true rfl, Nat.le_of_ble_eq_true rfl⟩ ⟨Nat.zero_le _, Nat.zero_le _⟩ (fun r h2 hF => ?_)
          obtain ⟨_, rfl, rfl, rfl⟩ := hF
          show wM p l e (wR 4) s m args below meth c 0 0 (wE below args s D dA b0 ad S0 F) 5 D dA b0 ad S0 80 [some (.ref k), some (.int x0), some (.int (x0 / 1000)), some (.int ((x0 / 10) - (x0 / 10) / 10 * 10)), some (.int yx23)] [.int (wb yr25.1)] yr25.2
          refine w_if_eq X dX6_follow_80 rfl (t := 87) rfl (fun hc => ?_) (fun hc => ?_)
          · have hf := wok_f hf (wb_0 hc)
            refine w_iconst X dX6_follow_87 rfl ci_0 ?_
            exact w_zret X dX6_follow_88 hr rfl (hT false _ (wok_s hf))
          · have hf := wok_t hf (wb_n0 hc)
            refine w_iconst X dX6_follow_83 rfl ci_1 ?_
            refine w_goto X dX6_follow_84 (t := 88) rfl ?_
            exact w_zret X dX6_follow_88 hr rfl (hT true _ (wok_s hf))
    · have hf := wok_f hf (wb_0 hc)
      refine w_iconst X dX6_follow_42 rfl ci_0 ?_
      exact w_zret X dX6_follow_43 hr rfl (hT false _ (wok_s hf))
  · have hf := wok_t hf hc
    refine w_aload_n X dX6_follow_19 rfl rfl rfl ?_
    refine w_dup X dX6_follow_20 rfl rfl ?_
    refine w_getI X dX6_follow_21 rfl fl_X6_28 hk.1 rfl ?_
    refine w_iconst X dX6_follow_24 rfl ci_1 ?_
    refine w_iadd X dX6_follow_25 rfl ?_
    refine w_putI X dX6_follow_26 rfl fp_X6_28 hk.1 rfl ?_
    refine w_nmh (fun yh26 eyh26 => ?_)
    have hf := wok_l hf eyh26
    refine w_iconst X dX6_follow_29 rfl ci_1 ?_
    exact w_zret X dX6_follow_30 hr rfl (hT true _ (wok_s hf))
set_option maxRecDepth 4000 in
theorem kX6_follow (l : Launch) {h : wSt} {k : Nat} {x0 : Int32} (hk : wI6 k) {res : Bool × wSt} (hf : fX6_follow h k x0 = some res) : wC l yX6_follow cX6_follow 5 (some .boolean) 4 S0 [.ref k, .int x0] h (wFZ (fun a b => res.1 = a ∧ res.2 = b)) := by
  refine w_meth2 3 (by decide) (Nat.le_of_ble_eq_true rfl) (ls := [some (.ref k), some (.int x0), none, none, none]) rfl ?_
  intro p e s m args below meth c D dA b0 ad X hr
  exact pX6_follow_b0 X hr hk (K := fun z => res = z) (fun x h2 hz => ⟨x, rfl, by rw [hz], by rw [hz]⟩) ⟨res, hf, rfl⟩
set_option maxRecDepth 4000 in
theorem pX6_liveByDraws_b72 (X : wCx p s m args meth c RX6 cX6_liveByDraws 6 D dA b0 ad) (hr : meth.sig.returnType = (some .boolean)) {h : wSt} {k : Nat} {w1 : Int32} {w2 : Int32} (hk : wI6 k) {K : Bool × wSt → Prop} (hT : ∀ (x : Bool) (h2 : wSt), K (x, h2) → F (some (.int (wb x))) h2)  (hf : wok (fX6_liveByDraws_b72 h k w1 w2) K) : wM p l e (wR 4) s m args below meth c 0 0 (wE below args s D dA b0 ad S0 F) 6 D dA b0 ad S0 72 [none, none, none, none, none, none] [.int w2, .int w1, .ref k] h := by
  unfold fX6_liveByDraws_b72 at hf
  obtain ⟨yr26, eyr26, hf⟩ := wok_b hf
  refine w_callV X dX6_liveByDraws_72 rfl vl_X6_98 (kX6_rub l hk eyr26) hk.1 (As := [.int w1, .int w2]) (st := []) rfl rfl (Nat.le_of_ble_eq_true rfl) ⟨Nat.le_of_ble_eq_true rfl, Nat.le_of_ble_eq_true rfl⟩ ⟨Nat.zero_le _, Nat.zero_le _⟩ (fun r h2 hF => ?_)
  obtain ⟨_, rfl, rfl, rfl⟩ := hF
  show wM p l e (wR 4) s m args below meth c 0 0 (wE below args s D dA b0 ad S0 F) 6 D dA b0 ad S0 75 [none, none, none, none, none, none] [.int (wb yr26.1)] yr26.2
  refine w_pop X dX6_liveByDraws_75 rfl rfl ?_
  refine w_iconst X dX6_liveByDraws_76 rfl ci_0 ?_
  exact w_zret X dX6_liveByDraws_77 hr rfl (hT false _ (wok_s hf))
set_option maxRecDepth 4000 in
theorem pX6_liveByDraws_b0 (X : wCx p s m args meth c RX6 cX6_liveByDraws 6 D dA b0 ad) (hr : meth.sig.returnType = (some .boolean)) {h : wSt} {k : Nat} (hk : wI6 k) {K : Bool × wSt → Prop} (hT : ∀ (x : Bool) (h2 : wSt), K (x, h2) → F (some (.int (wb x))) h2) (hf : wok (fX6_liveByDraws h k) K) : wM p l e (wR 4) s m args below meth c 0 0 (wE below args s D dA b0 ad S0 F) 6 D dA b0 ad S0 0 [some (.ref k), some (.ref 134), none, none, none, none] [] h := by
  unfold fX6_liveByDraws at hf
  refine w_aload_n X dX6_liveByDraws_0 rfl rfl rfl ?_
  refine w_aload_n X dX6_liveByDraws_1 rfl rfl rfl ?_
  refine w_getR X dX6_liveByDraws_2 rfl fl_X6_24 hk.1 rfl ?_
  refine w_getI X dX6_liveByDraws_5 rfl fl_X6_106 S0_3 rfl ?_
  obtain ⟨yr21, eyr21, hf⟩ := wok_b hf
  refine w_callV X dX6_liveByDraws_8 rfl vl_X6_109 (kX1_below l  eyr21) S0_134 (As := [.int (h.1 3 5)]) (st := []) rfl rfl (Nat.le_of_ble_eq_true rfl) ⟨Nat.le_of_ble_eq_true rfl, Nat.le_of_ble_eq_true rfl⟩ ⟨Nat.zero_le _, Nat.zero_le _⟩ (fun r h2 hF => ?_)
  obtain ⟨_, rfl, rfl, rfl⟩ := hF
  show wM p l e (wR 4) s m args below meth c 0 0 (wE below args s D dA b0 ad S0 F) 6 D dA b0 ad S0 11 [some (.ref k), some (.ref 134), none, none, none, none] [.int yr21.1] yr21.2
  refine w_istore_n X dX6_liveByDraws_11 rfl rfl rfl (Nat.le_of_ble_eq_true rfl) (ls' := [some (.ref k), some (.ref 134), some (.int yr21.1), none, none, none]) rfl ?_
  refine w_aload_n X dX6_liveByDraws_12 rfl rfl rfl ?_
  refine w_aload_n X dX6_liveByDraws_13 rfl rfl rfl ?_
  refine w_getR X dX6_liveByDraws_14 rfl fl_X6_24 hk.1 rfl ?_
  refine w_getI X dX6_liveByDraws_17 rfl fl_X6_36 S0_3 rfl ?_
  obtain ⟨yr22, eyr22, hf⟩ := wok_b hf
  refine w_callV X dX6_liveByDraws_20 rfl vl_X6_109 (kX1_below l  eyr22) S0_134 (As := [.int (yr21.2.1 3 0)]) (st := []) rfl rfl (Nat.le_of_ble_eq_true rfl) ⟨Nat.le_of_ble_eq_true rfl, Nat.le_of_ble_eq_true rfl⟩ ⟨Nat.zero_le _, Nat.zero_le _⟩ (fun r h2 hF => ?_)
  obtain ⟨_, rfl, rfl, rfl⟩ := hF
  show wM p l e (wR 4) s m args below meth c 0 0 (wE below args s D dA b0 ad S0 F) 6 D dA b0 ad S0 23 [some (.ref k), some (.ref 134), some (.int yr21.1), none, none, none] [.int yr22.1] yr22.2
  refine w_istore_n X dX6_liveByDraws_23 rfl rfl rfl (Nat.le_of_ble_eq_true rfl) (ls' := [some (.ref k), some (.ref 134), some (.int yr21.1), some (.int yr22.1), none, none]) rfl ?_
  refine w_aload_n X dX6_liveByDraws_24 rfl rfl rfl ?_
  refine w_bipush X dX6_liveByDraws_25 rfl cb_6 ?_
  obtain ⟨yr23, eyr23, hf⟩ := wok_b hf
  refine w_callV X dX6_liveByDraws_27 rfl vl_X6_109 (kX1_below l  eyr23) S0_134 (As := [.int 6]) (st := []) rfl rfl (Nat.le_of_ble_eq_true rfl) ⟨Nat.le_of_ble_eq_true rfl, Nat.le_of_ble_eq_true rfl⟩ ⟨Nat.zero_le _, Nat.zero_le _⟩ (fun r h2 hF => ?_)
  obtain ⟨_, rfl, rfl, rfl⟩ := hF
  show wM p l e (wR 4) s m args below meth c 0 0 (wE below args s D dA b0 ad S0 F) 6 D dA b0 ad S0 30 [some (.ref k), some (.ref 134), some (.int yr21.1), some (.int yr22.1), none, none] [.int yr23.1] yr23.2
  refine w_istore X dX6_liveByDraws_30 rfl rfl (Nat.le_of_ble_eq_true rfl) (ls' := [some (.ref k), some (.ref 134), some (.int yr21.1), some (.int yr22.1), some (.int yr23.1), none]) rfl ?_
  refine w_aload_n X dX6_liveByDraws_32 rfl rfl rfl ?_
  refine w_iload_n X dX6_liveByDraws_33 rfl rfl rfl ?_
  refine w_iload_n X dX6_liveByDraws_34 rfl rfl rfl ?_
  refine w_iload X dX6_liveByDraws_35 rfl rfl ?_
  obtain ⟨yr24, eyr24, hf⟩ := wok_b hf
  refine w_callV X dX6_liveByDraws_37 rfl vl_X6_95 (kX6_writeIfCan l hk eyr24) hk.1 (As := [.int yr21.1, .int yr22.1, .int yr23.1]) (st := []) rfl rfl (Nat.le_of_ble_eq_true rfl) ⟨Nat.le_of_ble_eq_true rfl, Nat.le_of_ble_eq_true rfl⟩ ⟨Nat.zero_le _, Nat.zero_le _⟩ (fun r h2 hF => ?_)
  obtain ⟨_, rfl, rfl, rfl⟩ := hF
  show wM p l e (wR 4) s m args below meth c 0 0 (wE below args s D dA b0 ad S0 F) 6 D dA b0 ad S0 40 [some (.ref k), some (.ref 134), some (.int yr21.1), some (.int yr22.1), some (.int yr23.1), none] [.int (wb yr24.1)] yr24.2
  refine w_if_eq X dX6_liveByDraws_40 rfl (t := 45) rfl (fun hc => ?_) (fun hc => ?_)
  · have hf := wok_f hf (wb_0 hc)
    refine w_aload_n X dX6_liveByDraws_45 rfl rfl rfl ?_
    refine w_iconst X dX6_liveByDraws_46 rfl ci_3 ?_
    obtain ⟨yr25, eyr25, hf⟩ := wok_b hf
    refine w_callV X dX6_liveByDraws_47 rfl vl_X6_109 (kX1_below l  eyr25) S0_134 (As := [.int 3]) (st := []) rfl rfl (Nat.le_of_ble_eq_true rfl) ⟨Nat.le_of_ble_eq_true rfl, Nat.le_of_ble_eq_true rfl⟩ ⟨Nat.zero_le _, Nat.zero_le _⟩ (fun r h2 hF => ?_)
    obtain ⟨_, rfl, rfl, rfl⟩ := hF
    show wM p l e (wR 4) s m args below meth c 0 0 (wE below args s D dA b0 ad S0 F) 6 D dA b0 ad S0 50 [some (.ref k), some (.ref 134), some (.int yr21.1), some (.int yr22.1), some (.int yr23.1), none] [.int yr25.1] yr25.2
    refine w_istore X dX6_liveByDraws_50 rfl rfl (Nat.le_of_ble_eq_true rfl) (ls' := [some (.ref k), some (.ref 134), some (.int yr21.1), some (.int yr22.1), some (.int yr23.1), some (.int yr25.1)]) rfl ?_
    refine w_iload X dX6_liveByDraws_52 rfl rfl ?_
    refine w_iconst X dX6_liveByDraws_54 rfl ci_2 ?_
    refine w_icmp_ge X dX6_liveByDraws_55 rfl (t := 76) rfl (fun hc => ?_) (fun hc => ?_)
    · have hf := wok_t hf hc
      refine w_iconst X dX6_liveByDraws_76 rfl ci_0 ?_
      exact w_zret X dX6_liveByDraws_77 hr rfl (hT false _ (wok_s hf))
    · have hf := wok_f hf hc
      refine w_aload_n X dX6_liveByDraws_58 rfl rfl rfl ?_
      refine w_iload_n X dX6_liveByDraws_59 rfl rfl rfl ?_
      refine w_iload X dX6_liveByDraws_60 rfl rfl ?_
      refine w_if_ne X dX6_liveByDraws_62 rfl (t := 70) rfl (fun hc => ?_) (fun hc => ?_)
      · have hf := wok_f hf hc
        refine w_bipush X dX6_liveByDraws_70 rfl cb_9 ?_
        refine w_fg (ls2 := [none, none, none, none, none, none]) trivial ?_
        exact pX6_liveByDraws_b72 X hr hk hT hf
      · have hf := wok_t hf hc
        refine w_bipush X dX6_liveByDraws_65 rfl cb_63 ?_
        refine w_goto X dX6_liveByDraws_67 (t := 72) rfl ?_
        refine w_fg (ls2 := [none, none, none, none, none, none]) trivial ?_
        exact pX6_liveByDraws_b72 X hr hk hT hf
  · have hf := wok_t hf (wb_n0 hc)
    refine w_iconst X dX6_liveByDraws_43 rfl ci_1 ?_
    exact w_zret X dX6_liveByDraws_44 hr rfl (hT true _ (wok_s hf))
set_option maxRecDepth 4000 in
theorem kX6_liveByDraws (l : Launch) {h : wSt} {k : Nat} (hk : wI6 k) {res : Bool × wSt} (hf : fX6_liveByDraws h k = some res) : wC l yX6_liveByDraws cX6_liveByDraws 6 (some .boolean) 4 S0 [.ref k, .ref 134] h (wFZ (fun a b => res.1 = a ∧ res.2 = b)) := by
  refine w_meth2 4 (by decide) (Nat.le_of_ble_eq_true rfl) (ls := [some (.ref k), some (.ref 134), none, none, none, none]) rfl ?_
  intro p e s m args below meth c D dA b0 ad X hr
  exact pX6_liveByDraws_b0 X hr hk (K := fun z => res = z) (fun x h2 hz => ⟨x, rfl, by rw [hz], by rw [hz]⟩) ⟨res, hf, rfl⟩
set_option maxRecDepth 4000 in
theorem pX6_shown_l49b (X : wCx p s m args meth c RX6 cX6_shown 8 D dA b0 ad) (hr : meth.sig.returnType = (some .int)) {h : wSt} {k : Nat} {v1 : Int32} {v3 : Int32} {v4 : Int32} {v5 : Int32} {v6 : Int32} (hk : wI6 k) {K : (Int32 × wSt) ⊕ ((wSt) ⊕ (Int32 × wSt)) → Prop} (hN : ∀ (n6 : Int32) (nh : wSt), K (.inl (n6, nh)) → wM p l e (wR 4) s m args below meth c 0 0 (wE below args s D dA b0 ad S0 F) 8 D dA b0 ad S0 49 [some (.ref k), some (.int v1), none, some (.int v3), some (.int v4), some (.int v5), some (.int n6), none] [] nh) (hX0 : ∀ (nh : wSt), K (.inr (.inl nh)) → wM p l e (wR 4) s m args below meth c 0 0 (wE below args s D dA b0 ad S0 F) 8 D dA b0 ad S0 99 [none, none, none, none, none, none, none, none] [] nh) (hT : ∀ (x : Int32) (h2 : wSt), K (.inr (.inr (x, h2))) → F (some (.int x)) h2) (hf : wok (fX6_shown_l49 h k v1 v3 v4 v5 v6) K) : wM p l e (wR 4) s m args below meth c 0 0 (wE below args s D dA b0 ad S0 F) 8 D dA b0 ad S0 49 [some (.ref k), some (.int v1), none, some (.int v3), some (.int v4), some (.int v5), some (.int v6), none] [] h := by
  unfold fX6_shown_l49 at hf
  refine w_iload X dX6_shown_49 rfl rfl ?_
  refine w_iload X dX6_shown_51 rfl rfl ?_
  refine w_icmp_gt X dX6_shown_53 rfl (t := 99) rfl (fun hc => ?_) (fun hc => ?_)
  · have hf := wok_t hf hc
    refine w_fg (ls2 := [none, none, none, none, none, none, none, none]) trivial ?_
    exact hX0 _ (wok_s hf)
  · have hf := wok_f hf hc
    refine w_aload_n X dX6_shown_56 rfl rfl rfl ?_
    refine w_iload X dX6_shown_57 rfl rfl ?_
    refine w_iload X dX6_shown_59 rfl rfl ?_
    refine w_iload X dX6_shown_61 rfl rfl ?_
    refine w_isub X dX6_shown_63 rfl ?_
    obtain ⟨yr23, eyr23, hf⟩ := wok_b hf
    refine w_callV X dX6_shown_64 rfl vl_X6_77 (kX6_layerAt l hk eyr23) hk.1 (As := [.int v4, .int (v5 - v6)]) (st := []) rfl rfl (Nat.le_of_ble_eq_true rfl) ⟨Nat.le_of_ble_eq_true rfl, Nat.le_of_ble_eq_true rfl⟩ ⟨Nat.zero_le _, Nat.zero_le _⟩ (fun r h2 hF => ?_)
    obtain ⟨_, rfl, rfl, rfl⟩ := hF
    show wM p l e (wR 4) s m args below meth c 0 0 (wE below args s D dA b0 ad S0 F) 8 D dA b0 ad S0 67 [some (.ref k), some (.int v1), none, some (.int v3), some (.int v4), some (.int v5), some (.int v6), none] [.int yr23] h
    refine w_istore X dX6_shown_67 rfl rfl (Nat.le_of_ble_eq_true rfl) (ls' := [some (.ref k), some (.int v1), none, some (.int v3), some (.int v4), some (.int v5), some (.int v6), some (.int yr23)]) rfl ?_
    refine w_aload_n X dX6_shown_69 rfl rfl rfl ?_
    refine w_getR X dX6_shown_70 rfl fl_X6_24 hk.1 rfl ?_
    refine w_iload X dX6_shown_73 rfl rfl ?_
    refine w_iload X dX6_shown_75 rfl rfl ?_
    refine w_iload_n X dX6_shown_77 rfl rfl rfl ?_
    refine w_aload_n X dX6_shown_78 rfl rfl rfl ?_
    refine w_getR X dX6_shown_79 rfl fl_X6_9 hk.1 rfl ?_
    refine w_iload_n X dX6_shown_82 rfl rfl rfl ?_
    obtain ⟨yhg24, hf⟩ := wok_g hf
    refine w_iald X dX6_shown_83 rfl (j := v1.toNatClampNeg) rfl hk.2.1 yhg24 ?_
    obtain ⟨yr25, eyr25, hf⟩ := wok_b hf
    refine w_callV X dX6_shown_84 rfl vl_X6_114 (kX4_showsText l in_3 eyr25) S0_3 (As := [.int yr23, .int v6, .int v3, .int (h.1 (k + 1) v1.toNatClampNeg)]) (st := []) rfl rfl (Nat.le_of_ble_eq_true rfl) ⟨Nat.le_of_ble_eq_true rfl, Nat.le_of_ble_eq_true rfl⟩ ⟨Nat.zero_le _, Nat.zero_le _⟩ (fun r h2 hF => ?_)
    obtain ⟨_, rfl, rfl, rfl⟩ := hF
    show wM p l e (wR 4) s m args below meth c 0 0 (wE below args s D dA b0 ad S0 F) 8 D dA b0 ad S0 87 [some (.ref k), some (.int v1), none, some (.int v3), some (.int v4), some (.int v5), some (.int v6), some (.int yr23)] [.int (wb yr25.1)] yr25.2
    refine w_if_eq X dX6_shown_87 rfl (t := 93) rfl (fun hc => ?_) (fun hc => ?_)
    · have hf := wok_f hf (wb_0 hc)
      refine w_iinc X dX6_shown_93 rfl (v := (v6 + 1)) rfl rfl (Nat.le_of_ble_eq_true rfl) (cinc_1 _) (ls' := [some (.ref k), some (.int v1), none, some (.int v3), some (.int v4), some (.int v5), some (.int (v6 + 1)), some (.int yr23)]) rfl ?_
      refine w_goto X dX6_shown_96 (t := 49) rfl ?_
      refine w_fg (ls2 := [some (.ref k), some (.int v1), none, some (.int v3), some (.int v4), some (.int v5), some (.int (v6 + 1)), none]) ⟨rfl, rfl, rfl, rfl, rfl, rfl, trivial⟩ ?_
      exact hN _ _ (wok_s hf)
    · have hf := wok_t hf (wb_n0 hc)
      refine w_iload X dX6_shown_90 rfl rfl ?_
      exact w_iret X dX6_shown_92 hr (hT _ _ (wok_s hf))
set_option maxRecDepth 4000 in
theorem pX6_shown_l49 (X : wCx p s m args meth c RX6 cX6_shown 8 D dA b0 ad) (hr : meth.sig.returnType = (some .int))  {k : Nat} {v1 : Int32} {v3 : Int32} {v4 : Int32} {v5 : Int32} (hk : wI6 k) {KE : (wSt) ⊕ (Int32 × wSt) → Prop} (hX0 : ∀ (nh : wSt), KE ((.inl nh)) → wM p l e (wR 4) s m args below meth c 0 0 (wE below args s D dA b0 ad S0 F) 8 D dA b0 ad S0 99 [none, none, none, none, none, none, none, none] [] nh) (hT : ∀ (x : Int32) (h2 : wSt), KE ((.inr (x, h2))) → F (some (.int x)) h2) : ∀ (n : Nat) (v6 : Int32) (h : wSt), wok (wit (fun v : (Int32 × wSt) => fX6_shown_l49 v.2 k v1 v3 v4 v5 v.1) n (v6, h)) KE → wM p l e (wR 4) s m args below meth c 0 0 (wE below args s D dA b0 ad S0 F) 8 D dA b0 ad S0 49 [some (.ref k), some (.int v1), none, some (.int v3), some (.int v4), some (.int v5), some (.int v6), none] [] h := by
  have key := wit_M (b := (fun v : (Int32 × wSt) => fX6_shown_l49 v.2 k v1 v3 v4 v5 v.1)) (KE := KE) (G := fun v => wM p l e (wR 4) s m args below meth c 0 0 (wE below args s D dA b0 ad S0 F) 8 D dA b0 ad S0 49 [some (.ref k), some (.int v1), none, some (.int v3), some (.int v4), some (.int v5), some (.int v.1), none] [] v.2) (fun v K hN hE hf => pX6_shown_l49b X hr hk (fun n6 nh hz => hN (n6, nh) hz) (fun z0 hz => hX0 z0 (hE _ hz)) (fun z0 z1 hz => hT z0 z1 (hE _ hz)) hf)
  exact fun n v6 h hf => key n (v6, h) hf
set_option maxRecDepth 4000 in
theorem pX6_shown_b46 (X : wCx p s m args meth c RX6 cX6_shown 8 D dA b0 ad) (hr : meth.sig.returnType = (some .int)) {h : wSt} {k : Nat} {v1 : Int32} {v3 : Int32} {v4 : Int32} {v5 : Int32} (hk : wI6 k) {K : Int32 × wSt → Prop} (hT : ∀ (x : Int32) (h2 : wSt), K (x, h2) → F (some (.int x)) h2)  (hf : wok (fX6_shown_b46 h k v1 v3 v4 v5) K) : wM p l e (wR 4) s m args below meth c 0 0 (wE below args s D dA b0 ad S0 F) 8 D dA b0 ad S0 46 [some (.ref k), some (.int v1), none, some (.int v3), some (.int v4), some (.int v5), none, none] [] h := by
  unfold fX6_shown_b46 at hf
  refine w_iconst X dX6_shown_46 rfl ci_1 ?_
  refine w_istore X dX6_shown_47 rfl rfl (Nat.le_of_ble_eq_true rfl) (ls' := [some (.ref k), some (.int v1), none, some (.int v3), some (.int v4), some (.int v5), some (.int 1), none]) rfl ?_
  obtain ⟨ye26, hye26, hf⟩ := wok_b hf
  refine pX6_shown_l49 X hr hk (KE := fun z => ye26 = z) ?_ ?_ 3000 _ _ ⟨ye26, hye26, rfl⟩
  · intro yz27 hz
    subst hz
    refine w_iconst X dX6_shown_99 rfl ci_m1 ?_
    exact w_iret X dX6_shown_100 hr (hT _ _ (wok_s hf))
  · intro z zh hz
    subst hz
    exact hT _ _ (wok_s hf)
set_option maxRecDepth 4000 in
theorem pX6_shown_b0 (X : wCx p s m args meth c RX6 cX6_shown 8 D dA b0 ad) (hr : meth.sig.returnType = (some .int)) {h : wSt} {k : Nat} {x0 : Int32} {x1 : Int32} {x2 : Int32} (hk : wI6 k) {K : Int32 × wSt → Prop} (hT : ∀ (x : Int32) (h2 : wSt), K (x, h2) → F (some (.int x)) h2) (hf : wok (fX6_shown h k x0 x1 x2) K) : wM p l e (wR 4) s m args below meth c 0 0 (wE below args s D dA b0 ad S0 F) 8 D dA b0 ad S0 0 [some (.ref k), some (.int x0), some (.int x1), some (.int x2), none, none, none, none] [] h := by
  unfold fX6_shown at hf
  refine w_bipush X dX6_shown_0 rfl cb_6 ?_
  refine w_iload_n X dX6_shown_2 rfl rfl rfl ?_
  refine w_imul X dX6_shown_3 rfl ?_
  refine w_iload_n X dX6_shown_4 rfl rfl rfl ?_
  refine w_iadd X dX6_shown_5 rfl ?_
  refine w_istore X dX6_shown_6 rfl rfl (Nat.le_of_ble_eq_true rfl) (ls' := [some (.ref k), some (.int x0), some (.int x1), some (.int x2), some (.int ((6 * x0) + x1)), none, none, none]) rfl ?_
  refine w_aload_n X dX6_shown_8 rfl rfl rfl ?_
  refine w_getR X dX6_shown_9 rfl fl_X6_18 hk.1 rfl ?_
  refine w_iload X dX6_shown_12 rfl rfl ?_
  obtain ⟨yhg21, hf⟩ := wok_g hf
  refine w_iald X dX6_shown_14 rfl (j := ((6 * x0) + x1).toNatClampNeg) rfl hk.2.2.2.1 yhg21 ?_
  refine w_topi (fun yx22 eyx22 => ?_)
  have hf := wok_l hf eyx22
  refine w_istore X dX6_shown_15 rfl rfl (Nat.le_of_ble_eq_true rfl) (ls' := [some (.ref k), some (.int x0), some (.int x1), some (.int x2), some (.int ((6 * x0) + x1)), some (.int yx22), none, none]) rfl ?_
  refine w_iload X dX6_shown_17 rfl rfl ?_
  refine w_if_le X dX6_shown_19 rfl (t := 46) rfl (fun hc => ?_) (fun hc => ?_)
  · have hf := wok_t hf hc
    refine w_fg (ls2 := [some (.ref k), some (.int x0), none, some (.int x2), some (.int ((6 * x0) + x1)), some (.int yx22), none, none]) ⟨rfl, rfl, rfl, rfl, rfl, trivial⟩ ?_
    exact pX6_shown_b46 X hr hk hT hf
  · have hf := wok_f hf hc
    refine w_aload_n X dX6_shown_22 rfl rfl rfl ?_
    refine w_getR X dX6_shown_23 rfl fl_X6_15 hk.1 rfl ?_
    refine w_iload_n X dX6_shown_26 rfl rfl rfl ?_
    obtain ⟨yhg28, hf⟩ := wok_g hf
    refine w_iald X dX6_shown_27 rfl (j := x0.toNatClampNeg) rfl hk.2.2.1 yhg28 ?_
    refine w_iload_n X dX6_shown_28 rfl rfl rfl ?_
    refine w_ishr X dX6_shown_29 rfl ?_
    refine w_iconst X dX6_shown_30 rfl ci_1 ?_
    refine w_iand X dX6_shown_31 rfl ?_
    refine w_if_eq X dX6_shown_32 rfl (t := 46) rfl (fun hc => ?_) (fun hc => ?_)
    · have hf := wok_t hf hc
      refine w_fg (ls2 := [some (.ref k), some (.int x0), none, some (.int x2), some (.int ((6 * x0) + x1)), some (.int yx22), none, none]) ⟨rfl, rfl, rfl, rfl, rfl, trivial⟩ ?_
      exact pX6_shown_b46 X hr hk hT hf
    · have hf := wok_f hf hc
      refine w_aload_n X dX6_shown_35 rfl rfl rfl ?_
      refine w_iload X dX6_shown_36 rfl rfl ?_
      refine w_iload X dX6_shown_38 rfl rfl ?_
      refine w_iconst X dX6_shown_40 rfl ci_1 ?_
      refine w_isub X dX6_shown_41 rfl ?_
      obtain ⟨yr29, eyr29, hf⟩ := wok_b hf
      refine w_callV X dX6_shown_42 rfl vl_X6_77 (kX6_layerAt l hk eyr29) hk.1 (As := [.int ((6 * x0) + x1), .int (yx22 - 1)]) (st := []) rfl rfl (Nat.le_of_ble_eq_true rfl) ⟨Nat.le_of_ble_eq_true rfl, Nat.le_of_ble_eq_true rfl⟩ ⟨Nat.zero_le _, Nat.zero_le _⟩ (fun r h2 hF => ?_)
      obtain ⟨_, rfl, rfl, rfl⟩ := hF
      show wM p l e (wR 4) s m args below meth c 0 0 (wE below args s D dA b0 ad S0 F) 8 D dA b0 ad S0 45 [some (.ref k), some (.int x0), some (.int x1), some (.int x2), some (.int ((6 * x0) + x1)), some (.int yx22), none, none] [.int yr29] h
      exact w_iret X dX6_shown_45 hr (hT _ _ (wok_s hf))
set_option maxRecDepth 4000 in
theorem kX6_shown (l : Launch) {h : wSt} {k : Nat} {x0 : Int32} {x1 : Int32} {x2 : Int32} (hk : wI6 k) {res : Int32 × wSt} (hf : fX6_shown h k x0 x1 x2 = some res) : wC l yX6_shown cX6_shown 8 (some .int) 4 S0 [.ref k, .int x0, .int x1, .int x2] h (wFI (fun a b => res.1 = a ∧ res.2 = b)) := by
  refine w_meth2 4 (by decide) (Nat.le_of_ble_eq_true rfl) (ls := [some (.ref k), some (.int x0), some (.int x1), some (.int x2), none, none, none, none]) rfl ?_
  intro p e s m args below meth c D dA b0 ad X hr
  exact pX6_shown_b0 X hr hk (K := fun z => res = z) (fun x h2 hz => ⟨x, rfl, by rw [hz], by rw [hz]⟩) ⟨res, hf, rfl⟩
set_option maxRecDepth 4000 in
theorem pX6_shownLines_b38_5 (X : wCx p s m args meth c RX6 cX6_shownLines 5 D dA b0 ad) (hr : meth.sig.returnType = (some .int)) {h : wSt} {k : Nat} {v1 : Int32} {v2 : Int32} {v3 : Int32} {v4 : Int32} (hk : wI6 k) {K : (Int32 × Int32 × wSt) ⊕ ((Int32 × wSt)) → Prop} (hN : ∀ (n3 : Int32) (n4 : Int32) (nh : wSt), K (.inl (n3, n4, nh)) → wM p l e (wR 5) s m args below meth c 0 0 (wE below args s D dA b0 ad S0 F) 5 D dA b0 ad S0 5 [some (.ref k), some (.int v1), some (.int v2), some (.int n3), some (.int n4)] [] nh) (hX0 : ∀ (n3 : Int32) (nh : wSt), K (.inr (n3, nh)) → wM p l e (wR 5) s m args below meth c 0 0 (wE below args s D dA b0 ad S0 F) 5 D dA b0 ad S0 44 [none, none, none, some (.int n3), none] [] nh) (hf : wok (fX6_shownLines_b38_5 h k v1 v2 v3 v4) K) : wM p l e (wR 5) s m args below meth c 0 0 (wE below args s D dA b0 ad S0 F) 5 D dA b0 ad S0 38 [some (.ref k), some (.int v1), some (.int v2), some (.int v3), some (.int v4)] [] h := by
  unfold fX6_shownLines_b38_5 at hf
  refine w_iinc X dX6_shownLines_38 rfl (v := (v4 + 1)) rfl rfl (Nat.le_of_ble_eq_true rfl) (cinc_1 _) (ls' := [some (.ref k), some (.int v1), some (.int v2), some (.int v3), some (.int (v4 + 1))]) rfl ?_
  refine w_goto X dX6_shownLines_41 (t := 5) rfl ?_
  exact hN _ _ _ (wok_s hf)
set_option maxRecDepth 4000 in
theorem pX6_shownLines_l5b (X : wCx p s m args meth c RX6 cX6_shownLines 5 D dA b0 ad) (hr : meth.sig.returnType = (some .int)) {h : wSt} {k : Nat} {v1 : Int32} {v2 : Int32} {v3 : Int32} {v4 : Int32} (hk : wI6 k) {K : (Int32 × Int32 × wSt) ⊕ ((Int32 × wSt)) → Prop} (hN : ∀ (n3 : Int32) (n4 : Int32) (nh : wSt), K (.inl (n3, n4, nh)) → wM p l e (wR 5) s m args below meth c 0 0 (wE below args s D dA b0 ad S0 F) 5 D dA b0 ad S0 5 [some (.ref k), some (.int v1), some (.int v2), some (.int n3), some (.int n4)] [] nh) (hX0 : ∀ (n3 : Int32) (nh : wSt), K (.inr (n3, nh)) → wM p l e (wR 5) s m args below meth c 0 0 (wE below args s D dA b0 ad S0 F) 5 D dA b0 ad S0 44 [none, none, none, some (.int n3), none] [] nh) (hf : wok (fX6_shownLines_l5 h k v1 v2 v3 v4) K) : wM p l e (wR 5) s m args below meth c 0 0 (wE below args s D dA b0 ad S0 F) 5 D dA b0 ad S0 5 [some (.ref k), some (.int v1), some (.int v2), some (.int v3), some (.int v4)] [] h := by
  unfold fX6_shownLines_l5 at hf
  refine w_iload X dX6_shownLines_5 rfl rfl ?_
  refine w_aload_n X dX6_shownLines_7 rfl rfl rfl ?_
  refine w_getR X dX6_shownLines_8 rfl fl_X6_24 hk.1 rfl ?_
  refine w_getR X dX6_shownLines_11 rfl fl_X6_52 S0_3 rfl ?_
  refine w_iload_n X dX6_shownLines_14 rfl rfl rfl ?_
  obtain ⟨yhg21, hf⟩ := wok_g hf
  refine w_iald X dX6_shownLines_15 rfl (j := v1.toNatClampNeg) rfl S0_5 yhg21 ?_
  refine w_icmp_ge X dX6_shownLines_16 rfl (t := 44) rfl (fun hc => ?_) (fun hc => ?_)
  · have hf := wok_t hf hc
    refine w_fg (ls2 := [none, none, none, some (.int v3), none]) ⟨rfl, trivial⟩ ?_
    exact hX0 _ _ (wok_s hf)
  · have hf := wok_f hf hc
    refine w_aload_n X dX6_shownLines_19 rfl rfl rfl ?_
    refine w_iload_n X dX6_shownLines_20 rfl rfl rfl ?_
    refine w_iload X dX6_shownLines_21 rfl rfl ?_
    refine w_iload_n X dX6_shownLines_23 rfl rfl rfl ?_
    obtain ⟨yr22, eyr22, hf⟩ := wok_b hf
    refine w_callV X dX6_shownLines_24 rfl vl_X6_118 (kX6_shown l hk eyr22) hk.1 (As := [.int v1, .int v4, .int v2]) (st := []) rfl rfl (Nat.le_of_ble_eq_true rfl) ⟨Nat.le_of_ble_eq_true rfl, Nat.le_of_ble_eq_true rfl⟩ ⟨Nat.zero_le _, Nat.zero_le _⟩ (fun r h2 hF => ?_)
    obtain ⟨_, rfl, rfl, rfl⟩ := hF
    show wM p l e (wR 5) s m args below meth c 0 0 (wE below args s D dA b0 ad S0 F) 5 D dA b0 ad S0 27 [some (.ref k), some (.int v1), some (.int v2), some (.int v3), some (.int v4)] [.int yr22.1] yr22.2
    refine w_iconst X dX6_shownLines_27 rfl ci_m1 ?_
    refine w_icmp_eq X dX6_shownLines_28 rfl (t := 38) rfl (fun hc => ?_) (fun hc => ?_)
    · have hf := wok_t hf hc
      exact pX6_shownLines_b38_5 X hr hk hN hX0 hf
    · have hf := wok_f hf hc
      refine w_iload_n X dX6_shownLines_31 rfl rfl rfl ?_
      refine w_iconst X dX6_shownLines_32 rfl ci_1 ?_
      refine w_iload X dX6_shownLines_33 rfl rfl ?_
      refine w_ishl X dX6_shownLines_35 rfl ?_
      refine w_ior X dX6_shownLines_36 rfl ?_
      refine w_istore_n X dX6_shownLines_37 rfl rfl rfl (Nat.le_of_ble_eq_true rfl) (ls' := [some (.ref k), some (.int v1), some (.int v2), some (.int (v3 ||| (1 <<< (v4 &&& 31)))), some (.int v4)]) rfl ?_
      exact pX6_shownLines_b38_5 X hr hk hN hX0 hf
set_option maxRecDepth 4000 in
theorem pX6_shownLines_l5 (X : wCx p s m args meth c RX6 cX6_shownLines 5 D dA b0 ad) (hr : meth.sig.returnType = (some .int))  {k : Nat} {v1 : Int32} {v2 : Int32} (hk : wI6 k) {KE : (Int32 × wSt) → Prop} (hX0 : ∀ (n3 : Int32) (nh : wSt), KE ((n3, nh)) → wM p l e (wR 5) s m args below meth c 0 0 (wE below args s D dA b0 ad S0 F) 5 D dA b0 ad S0 44 [none, none, none, some (.int n3), none] [] nh) : ∀ (n : Nat) (v3 : Int32) (v4 : Int32) (h : wSt), wok (wit (fun v : (Int32 × Int32 × wSt) => fX6_shownLines_l5 v.2.2 k v1 v2 v.1 v.2.1) n (v3, v4, h)) KE → wM p l e (wR 5) s m args below meth c 0 0 (wE below args s D dA b0 ad S0 F) 5 D dA b0 ad S0 5 [some (.ref k), some (.int v1), some (.int v2), some (.int v3), some (.int v4)] [] h := by
  have key := wit_M (b := (fun v : (Int32 × Int32 × wSt) => fX6_shownLines_l5 v.2.2 k v1 v2 v.1 v.2.1)) (KE := KE) (G := fun v => wM p l e (wR 5) s m args below meth c 0 0 (wE below args s D dA b0 ad S0 F) 5 D dA b0 ad S0 5 [some (.ref k), some (.int v1), some (.int v2), some (.int v.1), some (.int v.2.1)] [] v.2.2) (fun v K hN hE hf => pX6_shownLines_l5b X hr hk (fun n3 n4 nh hz => hN (n3, n4, nh) hz) (fun z0 z1 hz => hX0 z0 z1 (hE _ hz)) hf)
  exact fun n v3 v4 h hf => key n (v3, v4, h) hf
set_option maxRecDepth 4000 in
theorem pX6_shownLines_b0 (X : wCx p s m args meth c RX6 cX6_shownLines 5 D dA b0 ad) (hr : meth.sig.returnType = (some .int)) {h : wSt} {k : Nat} {x0 : Int32} {x1 : Int32} (hk : wI6 k) {K : Int32 × wSt → Prop} (hT : ∀ (x : Int32) (h2 : wSt), K (x, h2) → F (some (.int x)) h2) (hf : wok (fX6_shownLines h k x0 x1) K) : wM p l e (wR 5) s m args below meth c 0 0 (wE below args s D dA b0 ad S0 F) 5 D dA b0 ad S0 0 [some (.ref k), some (.int x0), some (.int x1), none, none] [] h := by
  unfold fX6_shownLines at hf
  refine w_iconst X dX6_shownLines_0 rfl ci_0 ?_
  refine w_istore_n X dX6_shownLines_1 rfl rfl rfl (Nat.le_of_ble_eq_true rfl) (ls' := [some (.ref k), some (.int x0), some (.int x1), some (.int 0), none]) rfl ?_
  refine w_iconst X dX6_shownLines_2 rfl ci_0 ?_
  refine w_istore X dX6_shownLines_3 rfl rfl (Nat.le_of_ble_eq_true rfl) (ls' := [some (.ref k), some (.int x0), some (.int x1), some (.int 0), some (.int 0)]) rfl ?_
  obtain ⟨ye23, hye23, hf⟩ := wok_b hf
  refine pX6_shownLines_l5 X hr hk (KE := fun z => ye23 = z) ?_ 3000 _ _ _ ⟨ye23, hye23, rfl⟩
  · intro yz24 yz25 hz
    subst hz
    refine w_iload_n X dX6_shownLines_44 rfl rfl rfl ?_
    exact w_iret X dX6_shownLines_45 hr (hT _ _ (wok_s hf))
set_option maxRecDepth 4000 in
theorem kX6_shownLines (l : Launch) {h : wSt} {k : Nat} {x0 : Int32} {x1 : Int32} (hk : wI6 k) {res : Int32 × wSt} (hf : fX6_shownLines h k x0 x1 = some res) : wC l yX6_shownLines cX6_shownLines 5 (some .int) 5 S0 [.ref k, .int x0, .int x1] h (wFI (fun a b => res.1 = a ∧ res.2 = b)) := by
  refine w_meth2 2 (by decide) (Nat.le_of_ble_eq_true rfl) (ls := [some (.ref k), some (.int x0), some (.int x1), none, none]) rfl ?_
  intro p e s m args below meth c D dA b0 ad X hr
  exact pX6_shownLines_b0 X hr hk (K := fun z => res = z) (fun x h2 hz => ⟨x, rfl, by rw [hz], by rw [hz]⟩) ⟨res, hf, rfl⟩
set_option maxRecDepth 4000 in
theorem pX6_shownTexts_b57_18 (X : wCx p s m args meth c RX6 cX6_shownTexts 6 D dA b0 ad) (hr : meth.sig.returnType = (some .int)) {h : wSt} {k : Nat} {v1 : Int32} {v3 : Int32} {v4 : Int32} {w0 : Int32} {w1 : Int32} (hk : wI6 k) {K : (Int32 × Int32 × wSt) ⊕ ((Int32 × wSt)) → Prop} (hN : ∀ (n2 : Int32) (n4 : Int32) (nh : wSt), K (.inl (n2, n4, nh)) → wM p l e (wR 5) s m args below meth c 0 0 (wE below args s D dA b0 ad S0 F) 6 D dA b0 ad S0 18 [some (.ref k), some (.int v1), some (.int n2), some (.int v3), some (.int n4), none] [] nh) (hX0 : ∀ (n2 : Int32) (nh : wSt), K (.inr (n2, nh)) → wM p l e (wR 5) s m args below meth c 0 0 (wE below args s D dA b0 ad S0 F) 6 D dA b0 ad S0 65 [some (.ref k), some (.int v1), some (.int n2), some (.int v3), none, none] [] nh) (hf : wok (fX6_shownTexts_b57_18 h k v1 v3 v4 w0 w1) K) : wM p l e (wR 5) s m args below meth c 0 0 (wE below args s D dA b0 ad S0 F) 6 D dA b0 ad S0 57 [some (.ref k), some (.int v1), none, some (.int v3), some (.int v4), none] [.int w1, .int w0] h := by
  unfold fX6_shownTexts_b57_18 at hf
  refine w_ior X dX6_shownTexts_57 rfl ?_
  refine w_istore_n X dX6_shownTexts_58 rfl rfl rfl (Nat.le_of_ble_eq_true rfl) (ls' := [some (.ref k), some (.int v1), some (.int (w0 ||| w1)), some (.int v3), some (.int v4), none]) rfl ?_
  refine w_iinc X dX6_shownTexts_59 rfl (v := (v4 + 1)) rfl rfl (Nat.le_of_ble_eq_true rfl) (cinc_1 _) (ls' := [some (.ref k), some (.int v1), some (.int (w0 ||| w1)), some (.int v3), some (.int (v4 + 1)), none]) rfl ?_
  refine w_goto X dX6_shownTexts_62 (t := 18) rfl ?_
  exact hN _ _ _ (wok_s hf)
set_option maxRecDepth 4000 in
theorem pX6_shownTexts_l18b (X : wCx p s m args meth c RX6 cX6_shownTexts 6 D dA b0 ad) (hr : meth.sig.returnType = (some .int)) {h : wSt} {k : Nat} {v1 : Int32} {v3 : Int32} {v2 : Int32} {v4 : Int32} (hk : wI6 k) {K : (Int32 × Int32 × wSt) ⊕ ((Int32 × wSt)) → Prop} (hN : ∀ (n2 : Int32) (n4 : Int32) (nh : wSt), K (.inl (n2, n4, nh)) → wM p l e (wR 5) s m args below meth c 0 0 (wE below args s D dA b0 ad S0 F) 6 D dA b0 ad S0 18 [some (.ref k), some (.int v1), some (.int n2), some (.int v3), some (.int n4), none] [] nh) (hX0 : ∀ (n2 : Int32) (nh : wSt), K (.inr (n2, nh)) → wM p l e (wR 5) s m args below meth c 0 0 (wE below args s D dA b0 ad S0 F) 6 D dA b0 ad S0 65 [some (.ref k), some (.int v1), some (.int n2), some (.int v3), none, none] [] nh) (hf : wok (fX6_shownTexts_l18 h k v1 v3 v2 v4) K) : wM p l e (wR 5) s m args below meth c 0 0 (wE below args s D dA b0 ad S0 F) 6 D dA b0 ad S0 18 [some (.ref k), some (.int v1), some (.int v2), some (.int v3), some (.int v4), none] [] h := by
  unfold fX6_shownTexts_l18 at hf
  refine w_iload X dX6_shownTexts_18 rfl rfl ?_
  refine w_aload_n X dX6_shownTexts_20 rfl rfl rfl ?_
  refine w_getR X dX6_shownTexts_21 rfl fl_X6_24 hk.1 rfl ?_
  refine w_getR X dX6_shownTexts_24 rfl fl_X6_52 S0_3 rfl ?_
  refine w_iload_n X dX6_shownTexts_27 rfl rfl rfl ?_
  obtain ⟨yhg21, hf⟩ := wok_g hf
  refine w_iald X dX6_shownTexts_28 rfl (j := v3.toNatClampNeg) rfl S0_5 yhg21 ?_
  refine w_icmp_ge X dX6_shownTexts_29 rfl (t := 65) rfl (fun hc => ?_) (fun hc => ?_)
  · have hf := wok_t hf hc
    refine w_fg (ls2 := [some (.ref k), some (.int v1), some (.int v2), some (.int v3), none, none]) ⟨rfl, rfl, rfl, rfl, trivial⟩ ?_
    exact hX0 _ _ (wok_s hf)
  · have hf := wok_f hf hc
    refine w_aload_n X dX6_shownTexts_32 rfl rfl rfl ?_
    refine w_iload_n X dX6_shownTexts_33 rfl rfl rfl ?_
    refine w_iload X dX6_shownTexts_34 rfl rfl ?_
    refine w_iload_n X dX6_shownTexts_36 rfl rfl rfl ?_
    obtain ⟨yr22, eyr22, hf⟩ := wok_b hf
    refine w_callV X dX6_shownTexts_37 rfl vl_X6_118 (kX6_shown l hk eyr22) hk.1 (As := [.int v3, .int v4, .int v1]) (st := []) rfl rfl (Nat.le_of_ble_eq_true rfl) ⟨Nat.le_of_ble_eq_true rfl, Nat.le_of_ble_eq_true rfl⟩ ⟨Nat.zero_le _, Nat.zero_le _⟩ (fun r h2 hF => ?_)
    obtain ⟨_, rfl, rfl, rfl⟩ := hF
    show wM p l e (wR 5) s m args below meth c 0 0 (wE below args s D dA b0 ad S0 F) 6 D dA b0 ad S0 40 [some (.ref k), some (.int v1), some (.int v2), some (.int v3), some (.int v4), none] [.int yr22.1] yr22.2
    refine w_istore X dX6_shownTexts_40 rfl rfl (Nat.le_of_ble_eq_true rfl) (ls' := [some (.ref k), some (.int v1), some (.int v2), some (.int v3), some (.int v4), some (.int yr22.1)]) rfl ?_
    refine w_iload_n X dX6_shownTexts_42 rfl rfl rfl ?_
    refine w_iload X dX6_shownTexts_43 rfl rfl ?_
    refine w_iconst X dX6_shownTexts_45 rfl ci_m1 ?_
    refine w_icmp_ne X dX6_shownTexts_46 rfl (t := 53) rfl (fun hc => ?_) (fun hc => ?_)
    · have hf := wok_f hf hc
      refine w_iconst X dX6_shownTexts_53 rfl ci_1 ?_
      refine w_iload X dX6_shownTexts_54 rfl rfl ?_
      refine w_ishl X dX6_shownTexts_56 rfl ?_
      refine w_fg (ls2 := [some (.ref k), some (.int v1), none, some (.int v3), some (.int v4), none]) ⟨rfl, rfl, rfl, rfl, trivial⟩ ?_
      exact pX6_shownTexts_b57_18 X hr hk hN hX0 hf
    · have hf := wok_t hf hc
      refine w_iconst X dX6_shownTexts_49 rfl ci_0 ?_
      refine w_goto X dX6_shownTexts_50 (t := 57) rfl ?_
      refine w_fg (ls2 := [some (.ref k), some (.int v1), none, some (.int v3), some (.int v4), none]) ⟨rfl, rfl, rfl, rfl, trivial⟩ ?_
      exact pX6_shownTexts_b57_18 X hr hk hN hX0 hf
set_option maxRecDepth 4000 in
theorem pX6_shownTexts_l18 (X : wCx p s m args meth c RX6 cX6_shownTexts 6 D dA b0 ad) (hr : meth.sig.returnType = (some .int))  {k : Nat} {v1 : Int32} {v3 : Int32} (hk : wI6 k) {KE : (Int32 × wSt) → Prop} (hX0 : ∀ (n2 : Int32) (nh : wSt), KE ((n2, nh)) → wM p l e (wR 5) s m args below meth c 0 0 (wE below args s D dA b0 ad S0 F) 6 D dA b0 ad S0 65 [some (.ref k), some (.int v1), some (.int n2), some (.int v3), none, none] [] nh) : ∀ (n : Nat) (v2 : Int32) (v4 : Int32) (h : wSt), wok (wit (fun v : (Int32 × Int32 × wSt) => fX6_shownTexts_l18 v.2.2 k v1 v3 v.1 v.2.1) n (v2, v4, h)) KE → wM p l e (wR 5) s m args below meth c 0 0 (wE below args s D dA b0 ad S0 F) 6 D dA b0 ad S0 18 [some (.ref k), some (.int v1), some (.int v2), some (.int v3), some (.int v4), none] [] h := by
  have key := wit_M (b := (fun v : (Int32 × Int32 × wSt) => fX6_shownTexts_l18 v.2.2 k v1 v3 v.1 v.2.1)) (KE := KE) (G := fun v => wM p l e (wR 5) s m args below meth c 0 0 (wE below args s D dA b0 ad S0 F) 6 D dA b0 ad S0 18 [some (.ref k), some (.int v1), some (.int v.1), some (.int v3), some (.int v.2.1), none] [] v.2.2) (fun v K hN hE hf => pX6_shownTexts_l18b X hr hk (fun n2 n4 nh hz => hN (n2, n4, nh) hz) (fun z0 z1 hz => hX0 z0 z1 (hE _ hz)) hf)
  exact fun n v2 v4 h hf => key n (v2, v4, h) hf
set_option maxRecDepth 4000 in
theorem pX6_shownTexts_l4b (X : wCx p s m args meth c RX6 cX6_shownTexts 6 D dA b0 ad) (hr : meth.sig.returnType = (some .int)) {h : wSt} {k : Nat} {v1 : Int32} {v2 : Int32} {v3 : Int32} (hk : wI6 k) {K : (Int32 × Int32 × wSt) ⊕ ((Int32 × wSt)) → Prop} (hN : ∀ (n2 : Int32) (n3 : Int32) (nh : wSt), K (.inl (n2, n3, nh)) → wM p l e (wR 5) s m args below meth c 0 0 (wE below args s D dA b0 ad S0 F) 6 D dA b0 ad S0 4 [some (.ref k), some (.int v1), some (.int n2), some (.int n3), none, none] [] nh) (hX0 : ∀ (n2 : Int32) (nh : wSt), K (.inr (n2, nh)) → wM p l e (wR 5) s m args below meth c 0 0 (wE below args s D dA b0 ad S0 F) 6 D dA b0 ad S0 71 [none, none, some (.int n2), none, none, none] [] nh) (hf : wok (fX6_shownTexts_l4 h k v1 v2 v3) K) : wM p l e (wR 5) s m args below meth c 0 0 (wE below args s D dA b0 ad S0 F) 6 D dA b0 ad S0 4 [some (.ref k), some (.int v1), some (.int v2), some (.int v3), none, none] [] h := by
  unfold fX6_shownTexts_l4 at hf
  refine w_iload_n X dX6_shownTexts_4 rfl rfl rfl ?_
  refine w_aload_n X dX6_shownTexts_5 rfl rfl rfl ?_
  refine w_getR X dX6_shownTexts_6 rfl fl_X6_24 hk.1 rfl ?_
  refine w_getI X dX6_shownTexts_9 rfl fl_X6_36 S0_3 rfl ?_
  refine w_icmp_ge X dX6_shownTexts_12 rfl (t := 71) rfl (fun hc => ?_) (fun hc => ?_)
  · have hf := wok_t hf hc
    refine w_fg (ls2 := [none, none, some (.int v2), none, none, none]) ⟨rfl, trivial⟩ ?_
    exact hX0 _ _ (wok_s hf)
  · have hf := wok_f hf hc
    refine w_iconst X dX6_shownTexts_15 rfl ci_0 ?_
    refine w_istore X dX6_shownTexts_16 rfl rfl (Nat.le_of_ble_eq_true rfl) (ls' := [some (.ref k), some (.int v1), some (.int v2), some (.int v3), some (.int 0), none]) rfl ?_
    obtain ⟨ye23, hye23, hf⟩ := wok_b hf
    refine pX6_shownTexts_l18 X hr hk (KE := fun z => ye23 = z) ?_ 3000 _ _ _ ⟨ye23, hye23, rfl⟩
    · intro yz24 yz25 hz
      subst hz
      refine w_iinc X dX6_shownTexts_65 rfl (v := (v3 + 1)) rfl rfl (Nat.le_of_ble_eq_true rfl) (cinc_1 _) (ls' := [some (.ref k), some (.int v1), some (.int yz24), some (.int (v3 + 1)), none, none]) rfl ?_
      refine w_goto X dX6_shownTexts_68 (t := 4) rfl ?_
      exact hN _ _ _ (wok_s hf)
set_option maxRecDepth 4000 in
theorem pX6_shownTexts_l4 (X : wCx p s m args meth c RX6 cX6_shownTexts 6 D dA b0 ad) (hr : meth.sig.returnType = (some .int))  {k : Nat} {v1 : Int32} (hk : wI6 k) {KE : (Int32 × wSt) → Prop} (hX0 : ∀ (n2 : Int32) (nh : wSt), KE ((n2, nh)) → wM p l e (wR 5) s m args below meth c 0 0 (wE below args s D dA b0 ad S0 F) 6 D dA b0 ad S0 71 [none, none, some (.int n2), none, none, none] [] nh) : ∀ (n : Nat) (v2 : Int32) (v3 : Int32) (h : wSt), wok (wit (fun v : (Int32 × Int32 × wSt) => fX6_shownTexts_l4 v.2.2 k v1 v.1 v.2.1) n (v2, v3, h)) KE → wM p l e (wR 5) s m args below meth c 0 0 (wE below args s D dA b0 ad S0 F) 6 D dA b0 ad S0 4 [some (.ref k), some (.int v1), some (.int v2), some (.int v3), none, none] [] h := by
  have key := wit_M (b := (fun v : (Int32 × Int32 × wSt) => fX6_shownTexts_l4 v.2.2 k v1 v.1 v.2.1)) (KE := KE) (G := fun v => wM p l e (wR 5) s m args below meth c 0 0 (wE below args s D dA b0 ad S0 F) 6 D dA b0 ad S0 4 [some (.ref k), some (.int v1), some (.int v.1), some (.int v.2.1), none, none] [] v.2.2) (fun v K hN hE hf => pX6_shownTexts_l4b X hr hk (fun n2 n3 nh hz => hN (n2, n3, nh) hz) (fun z0 z1 hz => hX0 z0 z1 (hE _ hz)) hf)
  exact fun n v2 v3 h hf => key n (v2, v3, h) hf
set_option maxRecDepth 4000 in
theorem pX6_shownTexts_b0 (X : wCx p s m args meth c RX6 cX6_shownTexts 6 D dA b0 ad) (hr : meth.sig.returnType = (some .int)) {h : wSt} {k : Nat} {x0 : Int32} (hk : wI6 k) {K : Int32 × wSt → Prop} (hT : ∀ (x : Int32) (h2 : wSt), K (x, h2) → F (some (.int x)) h2) (hf : wok (fX6_shownTexts h k x0) K) : wM p l e (wR 5) s m args below meth c 0 0 (wE below args s D dA b0 ad S0 F) 6 D dA b0 ad S0 0 [some (.ref k), some (.int x0), none, none, none, none] [] h := by
  unfold fX6_shownTexts at hf
  refine w_iconst X dX6_shownTexts_0 rfl ci_0 ?_
  refine w_istore_n X dX6_shownTexts_1 rfl rfl rfl (Nat.le_of_ble_eq_true rfl) (ls' := [some (.ref k), some (.int x0), some (.int 0), none, none, none]) rfl ?_
  refine w_iconst X dX6_shownTexts_2 rfl ci_0 ?_
  refine w_istore_n X dX6_shownTexts_3 rfl rfl rfl (Nat.le_of_ble_eq_true rfl) (ls' := [some (.ref k), some (.int x0), some (.int 0), some (.int 0), none, none]) rfl ?_
  obtain ⟨ye26, hye26, hf⟩ := wok_b hf
  refine pX6_shownTexts_l4 X hr hk (KE := fun z => ye26 = z) ?_ 3000 _ _ _ ⟨ye26, hye26, rfl⟩
  · intro yz27 yz28 hz
    subst hz
    refine w_iload_n X dX6_shownTexts_71 rfl rfl rfl ?_
    exact w_iret X dX6_shownTexts_72 hr (hT _ _ (wok_s hf))
set_option maxRecDepth 4000 in
theorem kX6_shownTexts (l : Launch) {h : wSt} {k : Nat} {x0 : Int32} (hk : wI6 k) {res : Int32 × wSt} (hf : fX6_shownTexts h k x0 = some res) : wC l yX6_shownTexts cX6_shownTexts 6 (some .int) 5 S0 [.ref k, .int x0] h (wFI (fun a b => res.1 = a ∧ res.2 = b)) := by
  refine w_meth2 4 (by decide) (Nat.le_of_ble_eq_true rfl) (ls := [some (.ref k), some (.int x0), none, none, none, none]) rfl ?_
  intro p e s m args below meth c D dA b0 ad X hr
  exact pX6_shownTexts_b0 X hr hk (K := fun z => res = z) (fun x h2 hz => ⟨x, rfl, by rw [hz], by rw [hz]⟩) ⟨res, hf, rfl⟩
set_option maxRecDepth 4000 in
theorem pX6_made_b51_20 (X : wCx p s m args meth c RX6 cX6_made 6 D dA b0 ad) (hr : meth.sig.returnType = (some .int)) {h : wSt} {k : Nat} {v1 : Int32} {v2 : Int32} {v3 : Int32} {v4 : Int32} {v5 : Int32} (hk : wI6 k) {K : (Int32 × Int32 × wSt) ⊕ ((Int32 × wSt)) → Prop} (hN : ∀ (n3 : Int32) (n5 : Int32) (nh : wSt), K (.inl (n3, n5, nh)) → wM p l e (wR 5) s m args below meth c 0 0 (wE below args s D dA b0 ad S0 F) 6 D dA b0 ad S0 20 [some (.ref k), some (.int v1), some (.int v2), some (.int n3), some (.int v4), some (.int n5)] [] nh) (hX0 : ∀ (n3 : Int32) (nh : wSt), K (.inr (n3, nh)) → wM p l e (wR 5) s m args below meth c 0 0 (wE below args s D dA b0 ad S0 F) 6 D dA b0 ad S0 57 [some (.ref k), some (.int v1), some (.int v2), some (.int n3), some (.int v4), none] [] nh) (hf : wok (fX6_made_b51_20 h k v1 v2 v3 v4 v5) K) : wM p l e (wR 5) s m args below meth c 0 0 (wE below args s D dA b0 ad S0 F) 6 D dA b0 ad S0 51 [some (.ref k), some (.int v1), some (.int v2), some (.int v3), some (.int v4), some (.int v5)] [] h := by
  unfold fX6_made_b51_20 at hf
  refine w_iinc X dX6_made_51 rfl (v := (v5 + 1)) rfl rfl (Nat.le_of_ble_eq_true rfl) (cinc_1 _) (ls' := [some (.ref k), some (.int v1), some (.int v2), some (.int v3), some (.int v4), some (.int (v5 + 1))]) rfl ?_
  refine w_goto X dX6_made_54 (t := 20) rfl ?_
  exact hN _ _ _ (wok_s hf)
set_option maxRecDepth 4000 in
theorem pX6_made_l20b (X : wCx p s m args meth c RX6 cX6_made 6 D dA b0 ad) (hr : meth.sig.returnType = (some .int)) {h : wSt} {k : Nat} {v1 : Int32} {v2 : Int32} {v4 : Int32} {v3 : Int32} {v5 : Int32} (hk : wI6 k) {K : (Int32 × Int32 × wSt) ⊕ ((Int32 × wSt)) → Prop} (hN : ∀ (n3 : Int32) (n5 : Int32) (nh : wSt), K (.inl (n3, n5, nh)) → wM p l e (wR 5) s m args below meth c 0 0 (wE below args s D dA b0 ad S0 F) 6 D dA b0 ad S0 20 [some (.ref k), some (.int v1), some (.int v2), some (.int n3), some (.int v4), some (.int n5)] [] nh) (hX0 : ∀ (n3 : Int32) (nh : wSt), K (.inr (n3, nh)) → wM p l e (wR 5) s m args below meth c 0 0 (wE below args s D dA b0 ad S0 F) 6 D dA b0 ad S0 57 [some (.ref k), some (.int v1), some (.int v2), some (.int n3), some (.int v4), none] [] nh) (hf : wok (fX6_made_l20 h k v1 v2 v4 v3 v5) K) : wM p l e (wR 5) s m args below meth c 0 0 (wE below args s D dA b0 ad S0 F) 6 D dA b0 ad S0 20 [some (.ref k), some (.int v1), some (.int v2), some (.int v3), some (.int v4), some (.int v5)] [] h := by
  unfold fX6_made_l20 at hf
  refine w_iload X dX6_made_20 rfl rfl ?_
  refine w_aload_n X dX6_made_22 rfl rfl rfl ?_
  refine w_getR X dX6_made_23 rfl fl_X6_24 hk.1 rfl ?_
  refine w_getR X dX6_made_26 rfl fl_X6_52 S0_3 rfl ?_
  refine w_iload X dX6_made_29 rfl rfl ?_
  obtain ⟨yhg21, hf⟩ := wok_g hf
  refine w_iald X dX6_made_31 rfl (j := v4.toNatClampNeg) rfl S0_5 yhg21 ?_
  refine w_icmp_ge X dX6_made_32 rfl (t := 57) rfl (fun hc => ?_) (fun hc => ?_)
  · have hf := wok_t hf hc
    refine w_fg (ls2 := [some (.ref k), some (.int v1), some (.int v2), some (.int v3), some (.int v4), none]) ⟨rfl, rfl, rfl, rfl, rfl, trivial⟩ ?_
    exact hX0 _ _ (wok_s hf)
  · have hf := wok_f hf hc
    refine w_aload_n X dX6_made_35 rfl rfl rfl ?_
    refine w_iload X dX6_made_36 rfl rfl ?_
    refine w_iload X dX6_made_38 rfl rfl ?_
    refine w_iload_n X dX6_made_40 rfl rfl rfl ?_
    obtain ⟨yr22, eyr22, hf⟩ := wok_b hf
    refine w_callV X dX6_made_41 rfl vl_X6_118 (kX6_shown l hk eyr22) hk.1 (As := [.int v4, .int v5, .int v2]) (st := []) rfl rfl (Nat.le_of_ble_eq_true rfl) ⟨Nat.le_of_ble_eq_true rfl, Nat.le_of_ble_eq_true rfl⟩ ⟨Nat.zero_le _, Nat.zero_le _⟩ (fun r h2 hF => ?_)
    obtain ⟨_, rfl, rfl, rfl⟩ := hF
    show wM p l e (wR 5) s m args below meth c 0 0 (wE below args s D dA b0 ad S0 F) 6 D dA b0 ad S0 44 [some (.ref k), some (.int v1), some (.int v2), some (.int v3), some (.int v4), some (.int v5)] [.int yr22.1] yr22.2
    refine w_iload_n X dX6_made_44 rfl rfl rfl ?_
    refine w_icmp_ne X dX6_made_45 rfl (t := 51) rfl (fun hc => ?_) (fun hc => ?_)
    · have hf := wok_f hf hc
      exact pX6_made_b51_20 X hr hk hN hX0 hf
    · have hf := wok_t hf hc
      refine w_iinc X dX6_made_48 rfl (v := (v3 + 1)) rfl rfl (Nat.le_of_ble_eq_true rfl) (cinc_1 _) (ls' := [some (.ref k), some (.int v1), some (.int v2), some (.int (v3 + 1)), some (.int v4), some (.int v5)]) rfl ?_
      exact pX6_made_b51_20 X hr hk hN hX0 hf
set_option maxRecDepth 4000 in
theorem pX6_made_l20 (X : wCx p s m args meth c RX6 cX6_made 6 D dA b0 ad) (hr : meth.sig.returnType = (some .int))  {k : Nat} {v1 : Int32} {v2 : Int32} {v4 : Int32} (hk : wI6 k) {KE : (Int32 × wSt) → Prop} (hX0 : ∀ (n3 : Int32) (nh : wSt), KE ((n3, nh)) → wM p l e (wR 5) s m args below meth c 0 0 (wE below args s D dA b0 ad S0 F) 6 D dA b0 ad S0 57 [some (.ref k), some (.int v1), some (.int v2), some (.int n3), some (.int v4), none] [] nh) : ∀ (n : Nat) (v3 : Int32) (v5 : Int32) (h : wSt), wok (wit (fun v : (Int32 × Int32 × wSt) => fX6_made_l20 v.2.2 k v1 v2 v4 v.1 v.2.1) n (v3, v5, h)) KE → wM p l e (wR 5) s m args below meth c 0 0 (wE below args s D dA b0 ad S0 F) 6 D dA b0 ad S0 20 [some (.ref k), some (.int v1), some (.int v2), some (.int v3), some (.int v4), some (.int v5)] [] h := by
  have key := wit_M (b := (fun v : (Int32 × Int32 × wSt) => fX6_made_l20 v.2.2 k v1 v2 v4 v.1 v.2.1)) (KE := KE) (G := fun v => wM p l e (wR 5) s m args below meth c 0 0 (wE below args s D dA b0 ad S0 F) 6 D dA b0 ad S0 20 [some (.ref k), some (.int v1), some (.int v2), some (.int v.1), some (.int v4), some (.int v.2.1)] [] v.2.2) (fun v K hN hE hf => pX6_made_l20b X hr hk (fun n3 n5 nh hz => hN (n3, n5, nh) hz) (fun z0 z1 hz => hX0 z0 z1 (hE _ hz)) hf)
  exact fun n v3 v5 h hf => key n (v3, v5, h) hf
set_option maxRecDepth 4000 in
theorem pX6_made_l5b (X : wCx p s m args meth c RX6 cX6_made 6 D dA b0 ad) (hr : meth.sig.returnType = (some .int)) {h : wSt} {k : Nat} {v1 : Int32} {v2 : Int32} {v3 : Int32} {v4 : Int32} (hk : wI6 k) {K : (Int32 × Int32 × wSt) ⊕ ((Int32 × wSt)) → Prop} (hN : ∀ (n3 : Int32) (n4 : Int32) (nh : wSt), K (.inl (n3, n4, nh)) → wM p l e (wR 5) s m args below meth c 0 0 (wE below args s D dA b0 ad S0 F) 6 D dA b0 ad S0 5 [some (.ref k), some (.int v1), some (.int v2), some (.int n3), some (.int n4), none] [] nh) (hX0 : ∀ (n3 : Int32) (nh : wSt), K (.inr (n3, nh)) → wM p l e (wR 5) s m args below meth c 0 0 (wE below args s D dA b0 ad S0 F) 6 D dA b0 ad S0 63 [none, none, none, some (.int n3), none, none] [] nh) (hf : wok (fX6_made_l5 h k v1 v2 v3 v4) K) : wM p l e (wR 5) s m args below meth c 0 0 (wE below args s D dA b0 ad S0 F) 6 D dA b0 ad S0 5 [some (.ref k), some (.int v1), some (.int v2), some (.int v3), some (.int v4), none] [] h := by
  unfold fX6_made_l5 at hf
  refine w_iload X dX6_made_5 rfl rfl ?_
  refine w_aload_n X dX6_made_7 rfl rfl rfl ?_
  refine w_getR X dX6_made_8 rfl fl_X6_24 hk.1 rfl ?_
  refine w_getI X dX6_made_11 rfl fl_X6_36 S0_3 rfl ?_
  refine w_icmp_ge X dX6_made_14 rfl (t := 63) rfl (fun hc => ?_) (fun hc => ?_)
  · have hf := wok_t hf hc
    refine w_fg (ls2 := [none, none, none, some (.int v3), none, none]) ⟨rfl, trivial⟩ ?_
    exact hX0 _ _ (wok_s hf)
  · have hf := wok_f hf hc
    refine w_iconst X dX6_made_17 rfl ci_0 ?_
    refine w_istore X dX6_made_18 rfl rfl (Nat.le_of_ble_eq_true rfl) (ls' := [some (.ref k), some (.int v1), some (.int v2), some (.int v3), some (.int v4), some (.int 0)]) rfl ?_
    obtain ⟨ye23, hye23, hf⟩ := wok_b hf
    refine pX6_made_l20 X hr hk (KE := fun z => ye23 = z) ?_ 3000 _ _ _ ⟨ye23, hye23, rfl⟩
    · intro yz24 yz25 hz
      subst hz
      refine w_iinc X dX6_made_57 rfl (v := (v4 + 1)) rfl rfl (Nat.le_of_ble_eq_true rfl) (cinc_1 _) (ls' := [some (.ref k), some (.int v1), some (.int v2), some (.int yz24), some (.int (v4 + 1)), none]) rfl ?_
      refine w_goto X dX6_made_60 (t := 5) rfl ?_
      exact hN _ _ _ (wok_s hf)
set_option maxRecDepth 4000 in
theorem pX6_made_l5 (X : wCx p s m args meth c RX6 cX6_made 6 D dA b0 ad) (hr : meth.sig.returnType = (some .int))  {k : Nat} {v1 : Int32} {v2 : Int32} (hk : wI6 k) {KE : (Int32 × wSt) → Prop} (hX0 : ∀ (n3 : Int32) (nh : wSt), KE ((n3, nh)) → wM p l e (wR 5) s m args below meth c 0 0 (wE below args s D dA b0 ad S0 F) 6 D dA b0 ad S0 63 [none, none, none, some (.int n3), none, none] [] nh) : ∀ (n : Nat) (v3 : Int32) (v4 : Int32) (h : wSt), wok (wit (fun v : (Int32 × Int32 × wSt) => fX6_made_l5 v.2.2 k v1 v2 v.1 v.2.1) n (v3, v4, h)) KE → wM p l e (wR 5) s m args below meth c 0 0 (wE below args s D dA b0 ad S0 F) 6 D dA b0 ad S0 5 [some (.ref k), some (.int v1), some (.int v2), some (.int v3), some (.int v4), none] [] h := by
  have key := wit_M (b := (fun v : (Int32 × Int32 × wSt) => fX6_made_l5 v.2.2 k v1 v2 v.1 v.2.1)) (KE := KE) (G := fun v => wM p l e (wR 5) s m args below meth c 0 0 (wE below args s D dA b0 ad S0 F) 6 D dA b0 ad S0 5 [some (.ref k), some (.int v1), some (.int v2), some (.int v.1), some (.int v.2.1), none] [] v.2.2) (fun v K hN hE hf => pX6_made_l5b X hr hk (fun n3 n4 nh hz => hN (n3, n4, nh) hz) (fun z0 z1 hz => hX0 z0 z1 (hE _ hz)) hf)
  exact fun n v3 v4 h hf => key n (v3, v4, h) hf
set_option maxRecDepth 4000 in
theorem pX6_made_b0 (X : wCx p s m args meth c RX6 cX6_made 6 D dA b0 ad) (hr : meth.sig.returnType = (some .int)) {h : wSt} {k : Nat} {x0 : Int32} {x1 : Int32} (hk : wI6 k) {K : Int32 × wSt → Prop} (hT : ∀ (x : Int32) (h2 : wSt), K (x, h2) → F (some (.int x)) h2) (hf : wok (fX6_made h k x0 x1) K) : wM p l e (wR 5) s m args below meth c 0 0 (wE below args s D dA b0 ad S0 F) 6 D dA b0 ad S0 0 [some (.ref k), some (.int x0), some (.int x1), none, none, none] [] h := by
  unfold fX6_made at hf
  refine w_iconst X dX6_made_0 rfl ci_0 ?_
  refine w_istore_n X dX6_made_1 rfl rfl rfl (Nat.le_of_ble_eq_true rfl) (ls' := [some (.ref k), some (.int x0), some (.int x1), some (.int 0), none, none]) rfl ?_
  refine w_iconst X dX6_made_2 rfl ci_0 ?_
  refine w_istore X dX6_made_3 rfl rfl (Nat.le_of_ble_eq_true rfl) (ls' := [some (.ref k), some (.int x0), some (.int x1), some (.int 0), some (.int 0), none]) rfl ?_
  obtain ⟨ye26, hye26, hf⟩ := wok_b hf
  refine pX6_made_l5 X hr hk (KE := fun z => ye26 = z) ?_ 3000 _ _ _ ⟨ye26, hye26, rfl⟩
  · intro yz27 yz28 hz
    subst hz
    refine w_iload_n X dX6_made_63 rfl rfl rfl ?_
    exact w_iret X dX6_made_64 hr (hT _ _ (wok_s hf))
set_option maxRecDepth 4000 in
theorem kX6_made (l : Launch) {h : wSt} {k : Nat} {x0 : Int32} {x1 : Int32} (hk : wI6 k) {res : Int32 × wSt} (hf : fX6_made h k x0 x1 = some res) : wC l yX6_made cX6_made 6 (some .int) 5 S0 [.ref k, .int x0, .int x1] h (wFI (fun a b => res.1 = a ∧ res.2 = b)) := by
  refine w_meth2 3 (by decide) (Nat.le_of_ble_eq_true rfl) (ls := [some (.ref k), some (.int x0), some (.int x1), none, none, none]) rfl ?_
  intro p e s m args below meth c D dA b0 ad X hr
  exact pX6_made_b0 X hr hk (K := fun z => res = z) (fun x h2 hz => ⟨x, rfl, by rw [hz], by rw [hz]⟩) ⟨res, hf, rfl⟩
set_option maxRecDepth 4000 in
theorem pX6_wholeTexts_b97_24 (X : wCx p s m args meth c RX6 cX6_wholeTexts 8 D dA b0 ad) (hr : meth.sig.returnType = (some .int)) {h : wSt} {k : Nat} {v1 : Int32} {v2 : Int32} {v3 : Int32} {v4 : Int32} {v5 : Int32} {v6 : Int32} (hk : wI6 k) {K : (Int32 × Int32 × Int32 × Int32 × wSt) ⊕ ((Int32 × wSt)) → Prop} (hN : ∀ (n2 : Int32) (n4 : Int32) (n5 : Int32) (n6 : Int32) (nh : wSt), K (.inl (n2, n4, n5, n6, nh)) → wM p l e (wR 5) s m args below meth c 0 0 (wE below args s D dA b0 ad S0 F) 8 D dA b0 ad S0 24 [some (.ref k), some (.int v1), some (.int n2), some (.int v3), some (.int n4), some (.int n5), some (.int n6), none] [] nh) (hX0 : ∀ (n2 : Int32) (nh : wSt), K (.inr (n2, nh)) → wM p l e (wR 5) s m args below meth c 0 0 (wE below args s D dA b0 ad S0 F) 8 D dA b0 ad S0 103 [some (.ref k), some (.int v1), some (.int n2), some (.int v3), none, none, none, none] [] nh) (hf : wok (fX6_wholeTexts_b97_24 h k v1 v2 v3 v4 v5 v6) K) : wM p l e (wR 5) s m args below meth c 0 0 (wE below args s D dA b0 ad S0 F) 8 D dA b0 ad S0 97 [some (.ref k), some (.int v1), some (.int v2), some (.int v3), some (.int v4), some (.int v5), some (.int v6), none] [] h := by
  unfold fX6_wholeTexts_b97_24 at hf
  refine w_iinc X dX6_wholeTexts_97 rfl (v := (v6 + 1)) rfl rfl (Nat.le_of_ble_eq_true rfl) (cinc_1 _) (ls' := [some (.ref k), some (.int v1), some (.int v2), some (.int v3), some (.int v4), some (.int v5), some (.int (v6 + 1)), none]) rfl ?_
  refine w_goto X dX6_wholeTexts_100 (t := 24) rfl ?_
  exact hN _ _ _ _ _ (wok_s hf)
set_option maxRecDepth 4000 in
theorem pX6_wholeTexts_b63_24 (X : wCx p s m args meth c RX6 cX6_wholeTexts 8 D dA b0 ad) (hr : meth.sig.returnType = (some .int)) {h : wSt} {k : Nat} {v1 : Int32} {v2 : Int32} {v3 : Int32} {v6 : Int32} {v7 : Int32} {w0 : Int32} (hk : wI6 k) {K : (Int32 × Int32 × Int32 × Int32 × wSt) ⊕ ((Int32 × wSt)) → Prop} (hN : ∀ (n2 : Int32) (n4 : Int32) (n5 : Int32) (n6 : Int32) (nh : wSt), K (.inl (n2, n4, n5, n6, nh)) → wM p l e (wR 5) s m args below meth c 0 0 (wE below args s D dA b0 ad S0 F) 8 D dA b0 ad S0 24 [some (.ref k), some (.int v1), some (.int n2), some (.int v3), some (.int n4), some (.int n5), some (.int n6), none] [] nh) (hX0 : ∀ (n2 : Int32) (nh : wSt), K (.inr (n2, nh)) → wM p l e (wR 5) s m args below meth c 0 0 (wE below args s D dA b0 ad S0 F) 8 D dA b0 ad S0 103 [some (.ref k), some (.int v1), some (.int n2), some (.int v3), none, none, none, none] [] nh) (hf : wok (fX6_wholeTexts_b63_24 h k v1 v2 v3 v6 v7 w0) K) : wM p l e (wR 5) s m args below meth c 0 0 (wE below args s D dA b0 ad S0 F) 8 D dA b0 ad S0 63 [some (.ref k), some (.int v1), some (.int v2), some (.int v3), none, none, some (.int v6), some (.int v7)] [.int w0] h := by
  unfold fX6_wholeTexts_b63_24 at hf
  refine w_istore X dX6_wholeTexts_63 rfl rfl (Nat.le_of_ble_eq_true rfl) (ls' := [some (.ref k), some (.int v1), some (.int v2), some (.int v3), none, some (.int w0), some (.int v6), some (.int v7)]) rfl ?_
  refine w_iload X dX6_wholeTexts_65 rfl rfl ?_
  refine w_istore X dX6_wholeTexts_67 rfl rfl (Nat.le_of_ble_eq_true rfl) (ls' := [some (.ref k), some (.int v1), some (.int v2), some (.int v3), some (.int v7), some (.int w0), some (.int v6), some (.int v7)]) rfl ?_
  refine w_iload X dX6_wholeTexts_69 rfl rfl ?_
  refine w_iconst X dX6_wholeTexts_71 rfl ci_m1 ?_
  refine w_icmp_eq X dX6_wholeTexts_72 rfl (t := 97) rfl (fun hc => ?_) (fun hc => ?_)
  · have hf := wok_t hf hc
    refine w_fg (ls2 := [some (.ref k), some (.int v1), some (.int v2), some (.int v3), some (.int v7), some (.int w0), some (.int v6), none]) ⟨rfl, rfl, rfl, rfl, rfl, rfl, rfl, trivial⟩ ?_
    exact pX6_wholeTexts_b97_24 X hr hk hN hX0 hf
  · have hf := wok_f hf hc
    refine w_iload X dX6_wholeTexts_75 rfl rfl ?_
    refine w_aload_n X dX6_wholeTexts_77 rfl rfl rfl ?_
    refine w_getR X dX6_wholeTexts_78 rfl fl_X6_24 hk.1 rfl ?_
    refine w_getR X dX6_wholeTexts_81 rfl fl_X6_61 S0_3 rfl ?_
    refine w_iload X dX6_wholeTexts_84 rfl rfl ?_
    obtain ⟨yhg23, hf⟩ := wok_g hf
    refine w_iald X dX6_wholeTexts_86 rfl (j := v7.toNatClampNeg) rfl S0_11 yhg23 ?_
    refine w_icmp_lt X dX6_wholeTexts_87 rfl (t := 97) rfl (fun hc => ?_) (fun hc => ?_)
    · have hf := wok_t hf hc
      refine w_fg (ls2 := [some (.ref k), some (.int v1), some (.int v2), some (.int v3), some (.int v7), some (.int w0), some (.int v6), none]) ⟨rfl, rfl, rfl, rfl, rfl, rfl, rfl, trivial⟩ ?_
      exact pX6_wholeTexts_b97_24 X hr hk hN hX0 hf
    · have hf := wok_f hf hc
      refine w_iload_n X dX6_wholeTexts_90 rfl rfl rfl ?_
      refine w_iconst X dX6_wholeTexts_91 rfl ci_1 ?_
      refine w_iload X dX6_wholeTexts_92 rfl rfl ?_
      refine w_ishl X dX6_wholeTexts_94 rfl ?_
      refine w_ior X dX6_wholeTexts_95 rfl ?_
      refine w_istore_n X dX6_wholeTexts_96 rfl rfl rfl (Nat.le_of_ble_eq_true rfl) (ls' := [some (.ref k), some (.int v1), some (.int (v2 ||| (1 <<< (v7 &&& 31)))), some (.int v3), some (.int v7), some (.int w0), some (.int v6), some (.int v7)]) rfl ?_
      refine w_fg (ls2 := [some (.ref k), some (.int v1), some (.int (v2 ||| (1 <<< (v7 &&& 31)))), some (.int v3), some (.int v7), some (.int w0), some (.int v6), none]) ⟨rfl, rfl, rfl, rfl, rfl, rfl, rfl, trivial⟩ ?_
      exact pX6_wholeTexts_b97_24 X hr hk hN hX0 hf
set_option maxRecDepth 4000 in
theorem pX6_wholeTexts_l24b (X : wCx p s m args meth c RX6 cX6_wholeTexts 8 D dA b0 ad) (hr : meth.sig.returnType = (some .int)) {h : wSt} {k : Nat} {v1 : Int32} {v3 : Int32} {v2 : Int32} {v4 : Int32} {v5 : Int32} {v6 : Int32} (hk : wI6 k) {K : (Int32 × Int32 × Int32 × Int32 × wSt) ⊕ ((Int32 × wSt)) → Prop} (hN : ∀ (n2 : Int32) (n4 : Int32) (n5 : Int32) (n6 : Int32) (nh : wSt), K (.inl (n2, n4, n5, n6, nh)) → wM p l e (wR 5) s m args below meth c 0 0 (wE below args s D dA b0 ad S0 F) 8 D dA b0 ad S0 24 [some (.ref k), some (.int v1), some (.int n2), some (.int v3), some (.int n4), some (.int n5), some (.int n6), none] [] nh) (hX0 : ∀ (n2 : Int32) (nh : wSt), K (.inr (n2, nh)) → wM p l e (wR 5) s m args below meth c 0 0 (wE below args s D dA b0 ad S0 F) 8 D dA b0 ad S0 103 [some (.ref k), some (.int v1), some (.int n2), some (.int v3), none, none, none, none] [] nh) (hf : wok (fX6_wholeTexts_l24 h k v1 v3 v2 v4 v5 v6) K) : wM p l e (wR 5) s m args below meth c 0 0 (wE below args s D dA b0 ad S0 F) 8 D dA b0 ad S0 24 [some (.ref k), some (.int v1), some (.int v2), some (.int v3), some (.int v4), some (.int v5), some (.int v6), none] [] h := by
  unfold fX6_wholeTexts_l24 at hf
  refine w_iload X dX6_wholeTexts_24 rfl rfl ?_
  refine w_aload_n X dX6_wholeTexts_26 rfl rfl rfl ?_
  refine w_getR X dX6_wholeTexts_27 rfl fl_X6_24 hk.1 rfl ?_
  refine w_getR X dX6_wholeTexts_30 rfl fl_X6_52 S0_3 rfl ?_
  refine w_iload_n X dX6_wholeTexts_33 rfl rfl rfl ?_
  obtain ⟨yhg21, hf⟩ := wok_g hf
  refine w_iald X dX6_wholeTexts_34 rfl (j := v3.toNatClampNeg) rfl S0_5 yhg21 ?_
  refine w_icmp_ge X dX6_wholeTexts_35 rfl (t := 103) rfl (fun hc => ?_) (fun hc => ?_)
  · have hf := wok_t hf hc
    refine w_fg (ls2 := [some (.ref k), some (.int v1), some (.int v2), some (.int v3), none, none, none, none]) ⟨rfl, rfl, rfl, rfl, trivial⟩ ?_
    exact hX0 _ _ (wok_s hf)
  · have hf := wok_f hf hc
    refine w_aload_n X dX6_wholeTexts_38 rfl rfl rfl ?_
    refine w_iload_n X dX6_wholeTexts_39 rfl rfl rfl ?_
    refine w_iload X dX6_wholeTexts_40 rfl rfl ?_
    refine w_iload_n X dX6_wholeTexts_42 rfl rfl rfl ?_
    obtain ⟨yr22, eyr22, hf⟩ := wok_b hf
    refine w_callV X dX6_wholeTexts_43 rfl vl_X6_118 (kX6_shown l hk eyr22) hk.1 (As := [.int v3, .int v6, .int v1]) (st := []) rfl rfl (Nat.le_of_ble_eq_true rfl) ⟨Nat.le_of_ble_eq_true rfl, Nat.le_of_ble_eq_true rfl⟩ ⟨Nat.zero_le _, Nat.zero_le _⟩ (fun r h2 hF => ?_)
    obtain ⟨_, rfl, rfl, rfl⟩ := hF
    show wM p l e (wR 5) s m args below meth c 0 0 (wE below args s D dA b0 ad S0 F) 8 D dA b0 ad S0 46 [some (.ref k), some (.int v1), some (.int v2), some (.int v3), some (.int v4), some (.int v5), some (.int v6), none] [.int yr22.1] yr22.2
    refine w_istore X dX6_wholeTexts_46 rfl rfl (Nat.le_of_ble_eq_true rfl) (ls' := [some (.ref k), some (.int v1), some (.int v2), some (.int v3), some (.int v4), some (.int v5), some (.int v6), some (.int yr22.1)]) rfl ?_
    refine w_iload X dX6_wholeTexts_48 rfl rfl ?_
    refine w_iload X dX6_wholeTexts_50 rfl rfl ?_
    refine w_icmp_ne X dX6_wholeTexts_52 rfl (t := 62) rfl (fun hc => ?_) (fun hc => ?_)
    · have hf := wok_f hf hc
      refine w_iconst X dX6_wholeTexts_62 rfl ci_1 ?_
      refine w_fg (ls2 := [some (.ref k), some (.int v1), some (.int v2), some (.int v3), none, none, some (.int v6), some (.int yr22.1)]) ⟨rfl, rfl, rfl, rfl, rfl, rfl, trivial⟩ ?_
      exact pX6_wholeTexts_b63_24 X hr hk hN hX0 hf
    · have hf := wok_t hf hc
      refine w_iload X dX6_wholeTexts_55 rfl rfl ?_
      refine w_iconst X dX6_wholeTexts_57 rfl ci_1 ?_
      refine w_iadd X dX6_wholeTexts_58 rfl ?_
      refine w_goto X dX6_wholeTexts_59 (t := 63) rfl ?_
      refine w_fg (ls2 := [some (.ref k), some (.int v1), some (.int v2), some (.int v3), none, none, some (.int v6), some (.int yr22.1)]) ⟨rfl, rfl, rfl, rfl, rfl, rfl, trivial⟩ ?_
      exact pX6_wholeTexts_b63_24 X hr hk hN hX0 hf
set_option maxRecDepth 4000 in
theorem pX6_wholeTexts_l24 (X : wCx p s m args meth c RX6 cX6_wholeTexts 8 D dA b0 ad) (hr : meth.sig.returnType = (some .int))  {k : Nat} {v1 : Int32} {v3 : Int32} (hk : wI6 k) {KE : (Int32 × wSt) → Prop} (hX0 : ∀ (n2 : Int32) (nh : wSt), KE ((n2, nh)) → wM p l e (wR 5) s m args below meth c 0 0 (wE below args s D dA b0 ad S0 F) 8 D dA b0 ad S0 103 [some (.ref k), some (.int v1), some (.int n2), some (.int v3), none, none, none, none] [] nh) : ∀ (n : Nat) (v2 : Int32) (v4 : Int32) (v5 : Int32) (v6 : Int32) (h : wSt), wok (wit (fun v : (Int32 × Int32 × Int32 × Int32 × wSt) => fX6_wholeTexts_l24 v.2.2.2.2 k v1 v3 v.1 v.2.1 v.2.2.1 v.2.2.2.1) n (v2, v4, v5, v6, h)) KE → wM p l e (wR 5) s m args below meth c 0 0 (wE below args s D dA b0 ad S0 F) 8 D dA b0 ad S0 24 [some (.ref k), some (.int v1), some (.int v2), some (.int v3), some (.int v4), some (.int v5), some (.int v6), none] [] h := by
  have key := wit_M (b := (fun v : (Int32 × Int32 × Int32 × Int32 × wSt) => fX6_wholeTexts_l24 v.2.2.2.2 k v1 v3 v.1 v.2.1 v.2.2.1 v.2.2.2.1)) (KE := KE) (G := fun v => wM p l e (wR 5) s m args below meth c 0 0 (wE below args s D dA b0 ad S0 F) 8 D dA b0 ad S0 24 [some (.ref k), some (.int v1), some (.int v.1), some (.int v3), some (.int v.2.1), some (.int v.2.2.1), some (.int v.2.2.2.1), none] [] v.2.2.2.2) (fun v K hN hE hf => pX6_wholeTexts_l24b X hr hk (fun n2 n4 n5 n6 nh hz => hN (n2, n4, n5, n6, nh) hz) (fun z0 z1 hz => hX0 z0 z1 (hE _ hz)) hf)
  exact fun n v2 v4 v5 v6 h hf => key n (v2, v4, v5, v6, h) hf
set_option maxRecDepth 4000 in
theorem pX6_wholeTexts_l4b (X : wCx p s m args meth c RX6 cX6_wholeTexts 8 D dA b0 ad) (hr : meth.sig.returnType = (some .int)) {h : wSt} {k : Nat} {v1 : Int32} {v2 : Int32} {v3 : Int32} (hk : wI6 k) {K : (Int32 × Int32 × wSt) ⊕ ((Int32 × wSt)) → Prop} (hN : ∀ (n2 : Int32) (n3 : Int32) (nh : wSt), K (.inl (n2, n3, nh)) → wM p l e (wR 5) s m args below meth c 0 0 (wE below args s D dA b0 ad S0 F) 8 D dA b0 ad S0 4 [some (.ref k), some (.int v1), some (.int n2), some (.int n3), none, none, none, none] [] nh) (hX0 : ∀ (n2 : Int32) (nh : wSt), K (.inr (n2, nh)) → wM p l e (wR 5) s m args below meth c 0 0 (wE below args s D dA b0 ad S0 F) 8 D dA b0 ad S0 109 [none, none, some (.int n2), none, none, none, none, none] [] nh) (hf : wok (fX6_wholeTexts_l4 h k v1 v2 v3) K) : wM p l e (wR 5) s m args below meth c 0 0 (wE below args s D dA b0 ad S0 F) 8 D dA b0 ad S0 4 [some (.ref k), some (.int v1), some (.int v2), some (.int v3), none, none, none, none] [] h := by
  unfold fX6_wholeTexts_l4 at hf
  refine w_iload_n X dX6_wholeTexts_4 rfl rfl rfl ?_
  refine w_aload_n X dX6_wholeTexts_5 rfl rfl rfl ?_
  refine w_getR X dX6_wholeTexts_6 rfl fl_X6_24 hk.1 rfl ?_
  refine w_getI X dX6_wholeTexts_9 rfl fl_X6_36 S0_3 rfl ?_
  refine w_icmp_ge X dX6_wholeTexts_12 rfl (t := 109) rfl (fun hc => ?_) (fun hc => ?_)
  · have hf := wok_t hf hc
    refine w_fg (ls2 := [none, none, some (.int v2), none, none, none, none, none]) ⟨rfl, trivial⟩ ?_
    exact hX0 _ _ (wok_s hf)
  · have hf := wok_f hf hc
    refine w_iconst X dX6_wholeTexts_15 rfl ci_m1 ?_
    refine w_istore X dX6_wholeTexts_16 rfl rfl (Nat.le_of_ble_eq_true rfl) (ls' := [some (.ref k), some (.int v1), some (.int v2), some (.int v3), some (.int (-1)), none, none, none]) rfl ?_
    refine w_iconst X dX6_wholeTexts_18 rfl ci_0 ?_
    refine w_istore X dX6_wholeTexts_19 rfl rfl (Nat.le_of_ble_eq_true rfl) (ls' := [some (.ref k), some (.int v1), some (.int v2), some (.int v3), some (.int (-1)), some (.int 0), none, none]) rfl ?_
    refine w_iconst X dX6_wholeTexts_21 rfl ci_0 ?_
    refine w_istore X dX6_wholeTexts_22 rfl rfl (Nat.le_of_ble_eq_true rfl) (ls' := [some (.ref k), some (.int v1), some (.int v2), some (.int v3), some (.int (-1)), some (.int 0), some (.int 0), none]) rfl ?_
    obtain ⟨ye24, hye24, hf⟩ := wok_b hf
    refine pX6_wholeTexts_l24 X hr hk (KE := fun z => ye24 = z) ?_ 3000 _ _ _ _ _ ⟨ye24, hye24, rfl⟩
    · intro yz25 yz26 hz
      subst hz
      refine w_iinc X dX6_wholeTexts_103 rfl (v := (v3 + 1)) rfl rfl (Nat.le_of_ble_eq_true rfl) (cinc_1 _) (ls' := [some (.ref k), some (.int v1), some (.int yz25), some (.int (v3 + 1)), none, none, none, none]) rfl ?_
      refine w_goto X dX6_wholeTexts_106 (t := 4) rfl ?_
      exact hN _ _ _ (wok_s hf)
set_option maxRecDepth 4000 in
theorem pX6_wholeTexts_l4 (X : wCx p s m args meth c RX6 cX6_wholeTexts 8 D dA b0 ad) (hr : meth.sig.returnType = (some .int))  {k : Nat} {v1 : Int32} (hk : wI6 k) {KE : (Int32 × wSt) → Prop} (hX0 : ∀ (n2 : Int32) (nh : wSt), KE ((n2, nh)) → wM p l e (wR 5) s m args below meth c 0 0 (wE below args s D dA b0 ad S0 F) 8 D dA b0 ad S0 109 [none, none, some (.int n2), none, none, none, none, none] [] nh) : ∀ (n : Nat) (v2 : Int32) (v3 : Int32) (h : wSt), wok (wit (fun v : (Int32 × Int32 × wSt) => fX6_wholeTexts_l4 v.2.2 k v1 v.1 v.2.1) n (v2, v3, h)) KE → wM p l e (wR 5) s m args below meth c 0 0 (wE below args s D dA b0 ad S0 F) 8 D dA b0 ad S0 4 [some (.ref k), some (.int v1), some (.int v2), some (.int v3), none, none, none, none] [] h := by
  have key := wit_M (b := (fun v : (Int32 × Int32 × wSt) => fX6_wholeTexts_l4 v.2.2 k v1 v.1 v.2.1)) (KE := KE) (G := fun v => wM p l e (wR 5) s m args below meth c 0 0 (wE below args s D dA b0 ad S0 F) 8 D dA b0 ad S0 4 [some (.ref k), some (.int v1), some (.int v.1), some (.int v.2.1), none, none, none, none] [] v.2.2) (fun v K hN hE hf => pX6_wholeTexts_l4b X hr hk (fun n2 n3 nh hz => hN (n2, n3, nh) hz) (fun z0 z1 hz => hX0 z0 z1 (hE _ hz)) hf)
  exact fun n v2 v3 h hf => key n (v2, v3, h) hf
set_option maxRecDepth 4000 in
theorem pX6_wholeTexts_b0 (X : wCx p s m args meth c RX6 cX6_wholeTexts 8 D dA b0 ad) (hr : meth.sig.returnType = (some .int)) {h : wSt} {k : Nat} {x0 : Int32} (hk : wI6 k) {K : Int32 × wSt → Prop} (hT : ∀ (x : Int32) (h2 : wSt), K (x, h2) → F (some (.int x)) h2) (hf : wok (fX6_wholeTexts h k x0) K) : wM p l e (wR 5) s m args below meth c 0 0 (wE below args s D dA b0 ad S0 F) 8 D dA b0 ad S0 0 [some (.ref k), some (.int x0), none, none, none, none, none, none] [] h := by
  unfold fX6_wholeTexts at hf
  refine w_iconst X dX6_wholeTexts_0 rfl ci_0 ?_
  refine w_istore_n X dX6_wholeTexts_1 rfl rfl rfl (Nat.le_of_ble_eq_true rfl) (ls' := [some (.ref k), some (.int x0), some (.int 0), none, none, none, none, none]) rfl ?_
  refine w_iconst X dX6_wholeTexts_2 rfl ci_0 ?_
  refine w_istore_n X dX6_wholeTexts_3 rfl rfl rfl (Nat.le_of_ble_eq_true rfl) (ls' := [some (.ref k), some (.int x0), some (.int 0), some (.int 0), none, none, none, none]) rfl ?_
  obtain ⟨ye27, hye27, hf⟩ := wok_b hf
  refine pX6_wholeTexts_l4 X hr hk (KE := fun z => ye27 = z) ?_ 3000 _ _ _ ⟨ye27, hye27, rfl⟩
  · intro yz28 yz29 hz
    subst hz
    refine w_iload_n X dX6_wholeTexts_109 rfl rfl rfl ?_
    exact w_iret X dX6_wholeTexts_110 hr (hT _ _ (wok_s hf))
set_option maxRecDepth 4000 in
theorem kX6_wholeTexts (l : Launch) {h : wSt} {k : Nat} {x0 : Int32} (hk : wI6 k) {res : Int32 × wSt} (hf : fX6_wholeTexts h k x0 = some res) : wC l yX6_wholeTexts cX6_wholeTexts 8 (some .int) 5 S0 [.ref k, .int x0] h (wFI (fun a b => res.1 = a ∧ res.2 = b)) := by
  refine w_meth2 6 (by decide) (Nat.le_of_ble_eq_true rfl) (ls := [some (.ref k), some (.int x0), none, none, none, none, none, none]) rfl ?_
  intro p e s m args below meth c D dA b0 ad X hr
  exact pX6_wholeTexts_b0 X hr hk (K := fun z => res = z) (fun x h2 hz => ⟨x, rfl, by rw [hz], by rw [hz]⟩) ⟨res, hf, rfl⟩
set_option maxRecDepth 4000 in
theorem pX6_isWhole_b0 (X : wCx p s m args meth c RX6 cX6_isWhole 3 D dA b0 ad) (hr : meth.sig.returnType = (some .boolean)) {h : wSt} {k : Nat} {x0 : Int32} {x1 : Int32} (hk : wI6 k) {K : Bool × wSt → Prop} (hT : ∀ (x : Bool) (h2 : wSt), K (x, h2) → F (some (.int (wb x))) h2) (hf : wok (fX6_isWhole h k x0 x1) K) : wM p l e (wR 6) s m args below meth c 0 0 (wE below args s D dA b0 ad S0 F) 3 D dA b0 ad S0 0 [some (.ref k), some (.int x0), some (.int x1)] [] h := by
  unfold fX6_isWhole at hf
  refine w_aload_n X dX6_isWhole_0 rfl rfl rfl ?_
  refine w_iload_n X dX6_isWhole_1 rfl rfl rfl ?_
  obtain ⟨yr21, eyr21, hf⟩ := wok_b hf
  refine w_callV X dX6_isWhole_2 rfl vl_X6_122 (kX6_wholeTexts l hk eyr21) hk.1 (As := [.int x1]) (st := []) rfl rfl (Nat.le_of_ble_eq_true rfl) ⟨Nat.le_of_ble_eq_true rfl, Nat.le_of_ble_eq_true rfl⟩ ⟨Nat.zero_le _, Nat.zero_le _⟩ (fun r h2 hF => ?_)
  obtain ⟨_, rfl, rfl, rfl⟩ := hF
  show wM p l e (wR 6) s m args below meth c 0 0 (wE below args s D dA b0 ad S0 F) 3 D dA b0 ad S0 5 [some (.ref k), some (.int x0), some (.int x1)] [.int yr21.1] yr21.2
  refine w_iload_n X dX6_isWhole_5 rfl rfl rfl ?_
  refine w_ishr X dX6_isWhole_6 rfl ?_
  refine w_iconst X dX6_isWhole_7 rfl ci_1 ?_
  refine w_iand X dX6_isWhole_8 rfl ?_
  refine w_if_eq X dX6_isWhole_9 rfl (t := 16) rfl (fun hc => ?_) (fun hc => ?_)
  · have hf := wok_t hf hc
    refine w_iconst X dX6_isWhole_16 rfl ci_0 ?_
    exact w_zret X dX6_isWhole_17 hr rfl (hT false _ (wok_s hf))
  · have hf := wok_f hf hc
    refine w_iconst X dX6_isWhole_12 rfl ci_1 ?_
    refine w_goto X dX6_isWhole_13 (t := 17) rfl ?_
    exact w_zret X dX6_isWhole_17 hr rfl (hT true _ (wok_s hf))
set_option maxRecDepth 4000 in
theorem kX6_isWhole (l : Launch) {h : wSt} {k : Nat} {x0 : Int32} {x1 : Int32} (hk : wI6 k) {res : Bool × wSt} (hf : fX6_isWhole h k x0 x1 = some res) : wC l yX6_isWhole cX6_isWhole 3 (some .boolean) 6 S0 [.ref k, .int x0, .int x1] h (wFZ (fun a b => res.1 = a ∧ res.2 = b)) := by
  refine w_meth2 0 (by decide) (Nat.le_of_ble_eq_true rfl) (ls := [some (.ref k), some (.int x0), some (.int x1)]) rfl ?_
  intro p e s m args below meth c D dA b0 ad X hr
  exact pX6_isWhole_b0 X hr hk (K := fun z => res = z) (fun x h2 hz => ⟨x, rfl, by rw [hz], by rw [hz]⟩) ⟨res, hf, rfl⟩
set_option maxRecDepth 4000 in
theorem pX6_textsLaid_l12b (X : wCx p s m args meth c RX6 cX6_textsLaid 4 D dA b0 ad) (hr : meth.sig.returnType = (some .int)) {h : wSt} {k : Nat} {v2 : Int32} {v1 : Int32} {v3 : Int32} (hk : wI6 k) {K : (Int32 × Int32) ⊕ ((Int32)) → Prop} (hN : ∀ (n1 : Int32) (n3 : Int32), K (.inl (n1, n3)) → wM p l e (wR 2) s m args below meth c 0 0 (wE below args s D dA b0 ad S0 F) 4 D dA b0 ad S0 12 [some (.ref k), some (.int n1), some (.int v2), some (.int n3)] [] h) (hX0 : ∀ (n1 : Int32), K (.inr n1) → wM p l e (wR 2) s m args below meth c 0 0 (wE below args s D dA b0 ad S0 F) 4 D dA b0 ad S0 39 [some (.ref k), some (.int n1), some (.int v2), none] [] h) (hf : wok (fX6_textsLaid_l12 h k v2 v1 v3) K) : wM p l e (wR 2) s m args below meth c 0 0 (wE below args s D dA b0 ad S0 F) 4 D dA b0 ad S0 12 [some (.ref k), some (.int v1), some (.int v2), some (.int v3)] [] h := by
  unfold fX6_textsLaid_l12 at hf
  refine w_iload_n X dX6_textsLaid_12 rfl rfl rfl ?_
  refine w_aload_n X dX6_textsLaid_13 rfl rfl rfl ?_
  refine w_getR X dX6_textsLaid_14 rfl fl_X6_18 hk.1 rfl ?_
  refine w_iload_n X dX6_textsLaid_17 rfl rfl rfl ?_
  obtain ⟨yhg21, hf⟩ := wok_g hf
  refine w_iald X dX6_textsLaid_18 rfl (j := v2.toNatClampNeg) rfl hk.2.2.2.1 yhg21 ?_
  refine w_icmp_ge X dX6_textsLaid_19 rfl (t := 39) rfl (fun hc => ?_) (fun hc => ?_)
  · have hf := wok_t hf hc
    refine w_fg (ls2 := [some (.ref k), some (.int v1), some (.int v2), none]) ⟨rfl, rfl, rfl, trivial⟩ ?_
    exact hX0 _ (wok_s hf)
  · have hf := wok_f hf hc
    refine w_iload_n X dX6_textsLaid_22 rfl rfl rfl ?_
    refine w_iconst X dX6_textsLaid_23 rfl ci_1 ?_
    refine w_aload_n X dX6_textsLaid_24 rfl rfl rfl ?_
    refine w_iload_n X dX6_textsLaid_25 rfl rfl rfl ?_
    refine w_iload_n X dX6_textsLaid_26 rfl rfl rfl ?_
    obtain ⟨yr22, eyr22, hf⟩ := wok_b hf
    refine w_callV X dX6_textsLaid_27 rfl vl_X6_77 (kX6_layerAt l hk eyr22) hk.1 (As := [.int v2, .int v3]) (st := [.int 1, .int v1]) rfl rfl (Nat.le_of_ble_eq_true rfl) ⟨Nat.le_of_ble_eq_true rfl, Nat.le_of_ble_eq_true rfl⟩ ⟨Nat.zero_le _, Nat.zero_le _⟩ (fun r h2 hF => ?_)
    obtain ⟨_, rfl, rfl, rfl⟩ := hF
    show wM p l e (wR 2) s m args below meth c 0 0 (wE below args s D dA b0 ad S0 F) 4 D dA b0 ad S0 30 [some (.ref k), some (.int v1), some (.int v2), some (.int v3)] [.int yr22, .int 1, .int v1] h
    refine w_ishl X dX6_textsLaid_30 rfl ?_
    refine w_ior X dX6_textsLaid_31 rfl ?_
    refine w_istore_n X dX6_textsLaid_32 rfl rfl rfl (Nat.le_of_ble_eq_true rfl) (ls' := [some (.ref k), some (.int (v1 ||| (1 <<< (yr22 &&& 31)))), some (.int v2), some (.int v3)]) rfl ?_
    refine w_iinc X dX6_textsLaid_33 rfl (v := (v3 + 1)) rfl rfl (Nat.le_of_ble_eq_true rfl) (cinc_1 _) (ls' := [some (.ref k), some (.int (v1 ||| (1 <<< (yr22 &&& 31)))), some (.int v2), some (.int (v3 + 1))]) rfl ?_
    refine w_goto X dX6_textsLaid_36 (t := 12) rfl ?_
    exact hN _ _ (wok_s hf)
set_option maxRecDepth 4000 in
theorem pX6_textsLaid_l12 (X : wCx p s m args meth c RX6 cX6_textsLaid 4 D dA b0 ad) (hr : meth.sig.returnType = (some .int)) {h : wSt} {k : Nat} {v2 : Int32} (hk : wI6 k) {KE : (Int32) → Prop} (hX0 : ∀ (n1 : Int32), KE (n1) → wM p l e (wR 2) s m args below meth c 0 0 (wE below args s D dA b0 ad S0 F) 4 D dA b0 ad S0 39 [some (.ref k), some (.int n1), some (.int v2), none] [] h) : ∀ (n : Nat) (v1 : Int32) (v3 : Int32), wok (wit (fun v : (Int32 × Int32) => fX6_textsLaid_l12 h k v2 v.1 v.2) n (v1, v3)) KE → wM p l e (wR 2) s m args below meth c 0 0 (wE below args s D dA b0 ad S0 F) 4 D dA b0 ad S0 12 [some (.ref k), some (.int v1), some (.int v2), some (.int v3)] [] h := by
  have key := wit_M (b := (fun v : (Int32 × Int32) => fX6_textsLaid_l12 h k v2 v.1 v.2)) (KE := KE) (G := fun v => wM p l e (wR 2) s m args below meth c 0 0 (wE below args s D dA b0 ad S0 F) 4 D dA b0 ad S0 12 [some (.ref k), some (.int v.1), some (.int v2), some (.int v.2)] [] h) (fun v K hN hE hf => pX6_textsLaid_l12b X hr hk (fun n1 n3 hz => hN (n1, n3) hz) (fun z0 hz => hX0 z0 (hE _ hz)) hf)
  exact fun n v1 v3 hf => key n (v1, v3) hf
set_option maxRecDepth 4000 in
theorem pX6_textsLaid_l4b (X : wCx p s m args meth c RX6 cX6_textsLaid 4 D dA b0 ad) (hr : meth.sig.returnType = (some .int)) {h : wSt} {k : Nat} {v1 : Int32} {v2 : Int32} (hk : wI6 k) {K : (Int32 × Int32) ⊕ ((Int32)) → Prop} (hN : ∀ (n1 : Int32) (n2 : Int32), K (.inl (n1, n2)) → wM p l e (wR 2) s m args below meth c 0 0 (wE below args s D dA b0 ad S0 F) 4 D dA b0 ad S0 4 [some (.ref k), some (.int n1), some (.int n2), none] [] h) (hX0 : ∀ (n1 : Int32), K (.inr n1) → wM p l e (wR 2) s m args below meth c 0 0 (wE below args s D dA b0 ad S0 F) 4 D dA b0 ad S0 45 [none, some (.int n1), none, none] [] h) (hf : wok (fX6_textsLaid_l4 h k v1 v2) K) : wM p l e (wR 2) s m args below meth c 0 0 (wE below args s D dA b0 ad S0 F) 4 D dA b0 ad S0 4 [some (.ref k), some (.int v1), some (.int v2), none] [] h := by
  unfold fX6_textsLaid_l4 at hf
  refine w_iload_n X dX6_textsLaid_4 rfl rfl rfl ?_
  refine w_bipush X dX6_textsLaid_5 rfl cb_18 ?_
  refine w_icmp_ge X dX6_textsLaid_7 rfl (t := 45) rfl (fun hc => ?_) (fun hc => ?_)
  · have hf := wok_t hf hc
    refine w_fg (ls2 := [none, some (.int v1), none, none]) ⟨rfl, trivial⟩ ?_
    exact hX0 _ (wok_s hf)
  · have hf := wok_f hf hc
    refine w_iconst X dX6_textsLaid_10 rfl ci_0 ?_
    refine w_istore_n X dX6_textsLaid_11 rfl rfl rfl (Nat.le_of_ble_eq_true rfl) (ls' := [some (.ref k), some (.int v1), some (.int v2), some (.int 0)]) rfl ?_
    obtain ⟨ye23, hye23, hf⟩ := wok_b hf
    refine pX6_textsLaid_l12 X hr hk (KE := fun z => ye23 = z) ?_ 3000 _ _ ⟨ye23, hye23, rfl⟩
    · intro yz24 hz
      subst hz
      refine w_iinc X dX6_textsLaid_39 rfl (v := (v2 + 1)) rfl rfl (Nat.le_of_ble_eq_true rfl) (cinc_1 _) (ls' := [some (.ref k), some (.int ye23), some (.int (v2 + 1)), none]) rfl ?_
      refine w_goto X dX6_textsLaid_42 (t := 4) rfl ?_
      exact hN _ _ (wok_s hf)
set_option maxRecDepth 4000 in
theorem pX6_textsLaid_l4 (X : wCx p s m args meth c RX6 cX6_textsLaid 4 D dA b0 ad) (hr : meth.sig.returnType = (some .int)) {h : wSt} {k : Nat} (hk : wI6 k) {KE : (Int32) → Prop} (hX0 : ∀ (n1 : Int32), KE (n1) → wM p l e (wR 2) s m args below meth c 0 0 (wE below args s D dA b0 ad S0 F) 4 D dA b0 ad S0 45 [none, some (.int n1), none, none] [] h) : ∀ (n : Nat) (v1 : Int32) (v2 : Int32), wok (wit (fun v : (Int32 × Int32) => fX6_textsLaid_l4 h k v.1 v.2) n (v1, v2)) KE → wM p l e (wR 2) s m args below meth c 0 0 (wE below args s D dA b0 ad S0 F) 4 D dA b0 ad S0 4 [some (.ref k), some (.int v1), some (.int v2), none] [] h := by
  have key := wit_M (b := (fun v : (Int32 × Int32) => fX6_textsLaid_l4 h k v.1 v.2)) (KE := KE) (G := fun v => wM p l e (wR 2) s m args below meth c 0 0 (wE below args s D dA b0 ad S0 F) 4 D dA b0 ad S0 4 [some (.ref k), some (.int v.1), some (.int v.2), none] [] h) (fun v K hN hE hf => pX6_textsLaid_l4b X hr hk (fun n1 n2 hz => hN (n1, n2) hz) (fun z0 hz => hX0 z0 (hE _ hz)) hf)
  exact fun n v1 v2 hf => key n (v1, v2) hf
set_option maxRecDepth 4000 in
theorem pX6_textsLaid_b0 (X : wCx p s m args meth c RX6 cX6_textsLaid 4 D dA b0 ad) (hr : meth.sig.returnType = (some .int)) {h : wSt} {k : Nat} (hk : wI6 k) {K : Int32 → Prop} (hT : ∀ (x : Int32), K x → F (some (.int x)) h) (hf : wok (fX6_textsLaid h k) K) : wM p l e (wR 2) s m args below meth c 0 0 (wE below args s D dA b0 ad S0 F) 4 D dA b0 ad S0 0 [some (.ref k), none, none, none] [] h := by
  unfold fX6_textsLaid at hf
  refine w_iconst X dX6_textsLaid_0 rfl ci_0 ?_
  refine w_istore_n X dX6_textsLaid_1 rfl rfl rfl (Nat.le_of_ble_eq_true rfl) (ls' := [some (.ref k), some (.int 0), none, none]) rfl ?_
  refine w_iconst X dX6_textsLaid_2 rfl ci_0 ?_
  refine w_istore_n X dX6_textsLaid_3 rfl rfl rfl (Nat.le_of_ble_eq_true rfl) (ls' := [some (.ref k), some (.int 0), some (.int 0), none]) rfl ?_
  obtain ⟨ye25, hye25, hf⟩ := wok_b hf
  refine pX6_textsLaid_l4 X hr hk (KE := fun z => ye25 = z) ?_ 3000 _ _ ⟨ye25, hye25, rfl⟩
  · intro yz26 hz
    subst hz
    refine w_iload_n X dX6_textsLaid_45 rfl rfl rfl ?_
    exact w_iret X dX6_textsLaid_46 hr (hT _ (wok_s hf))
set_option maxRecDepth 4000 in
theorem kX6_textsLaid (l : Launch) {h : wSt} {k : Nat} (hk : wI6 k) {res : Int32} (hf : fX6_textsLaid h k = some res) : wC l yX6_textsLaid cX6_textsLaid 4 (some .int) 2 S0 [.ref k] h (wFI (fun a b => res = a ∧ h = b)) := by
  refine w_meth2 3 (by decide) (Nat.le_of_ble_eq_true rfl) (ls := [some (.ref k), none, none, none]) rfl ?_
  intro p e s m args below meth c D dA b0 ad X hr
  exact pX6_textsLaid_b0 X hr hk (K := fun z => res = z) (fun x hz => ⟨x, rfl, hz, rfl⟩) ⟨res, hf, rfl⟩
set_option maxRecDepth 4000 in
theorem pX6_textsOver_b65_16 (X : wCx p s m args meth c RX6 cX6_textsOver 7 D dA b0 ad) (hr : meth.sig.returnType = (some .int)) {h : wSt} {k : Nat} {v1 : Int32} {v2 : Int32} {v3 : Int32} {v5 : Int32} {w0 : Int32} {w1 : Int32} (hk : wI6 k) {K : (Int32 × Int32 × Int32) ⊕ ((Int32)) → Prop} (hN : ∀ (n2 : Int32) (n4 : Int32) (n5 : Int32), K (.inl (n2, n4, n5)) → wM p l e (wR 2) s m args below meth c 0 0 (wE below args s D dA b0 ad S0 F) 7 D dA b0 ad S0 16 [some (.ref k), some (.int v1), some (.int n2), some (.int v3), some (.int n4), some (.int n5), none] [] h) (hX0 : ∀ (n2 : Int32), K (.inr n2) → wM p l e (wR 2) s m args below meth c 0 0 (wE below args s D dA b0 ad S0 F) 7 D dA b0 ad S0 74 [some (.ref k), some (.int v1), some (.int n2), some (.int v3), none, none, none] [] h) (hf : wok (fX6_textsOver_b65_16 h k v1 v2 v3 v5 w0 w1) K) : wM p l e (wR 2) s m args below meth c 0 0 (wE below args s D dA b0 ad S0 F) 7 D dA b0 ad S0 65 [some (.ref k), some (.int v1), some (.int v2), some (.int v3), none, some (.int v5), none] [.int w1, .int w0] h := by
  unfold fX6_textsOver_b65_16 at hf
  refine w_ior X dX6_textsOver_65 rfl ?_
  refine w_istore X dX6_textsOver_66 rfl rfl (Nat.le_of_ble_eq_true rfl) (ls' := [some (.ref k), some (.int v1), some (.int v2), some (.int v3), some (.int (w0 ||| w1)), some (.int v5), none]) rfl ?_
  refine w_iinc X dX6_textsOver_68 rfl (v := (v5 + 1)) rfl rfl (Nat.le_of_ble_eq_true rfl) (cinc_1 _) (ls' := [some (.ref k), some (.int v1), some (.int v2), some (.int v3), some (.int (w0 ||| w1)), some (.int (v5 + 1)), none]) rfl ?_
  refine w_goto X dX6_textsOver_71 (t := 16) rfl ?_
  exact hN _ _ _ (wok_s hf)
set_option maxRecDepth 4000 in
theorem pX6_textsOver_b50_16 (X : wCx p s m args meth c RX6 cX6_textsOver 7 D dA b0 ad) (hr : meth.sig.returnType = (some .int)) {h : wSt} {k : Nat} {v1 : Int32} {v3 : Int32} {v4 : Int32} {v5 : Int32} {v6 : Int32} {w0 : Int32} {w1 : Int32} (hk : wI6 k) {K : (Int32 × Int32 × Int32) ⊕ ((Int32)) → Prop} (hN : ∀ (n2 : Int32) (n4 : Int32) (n5 : Int32), K (.inl (n2, n4, n5)) → wM p l e (wR 2) s m args below meth c 0 0 (wE below args s D dA b0 ad S0 F) 7 D dA b0 ad S0 16 [some (.ref k), some (.int v1), some (.int n2), some (.int v3), some (.int n4), some (.int n5), none] [] h) (hX0 : ∀ (n2 : Int32), K (.inr n2) → wM p l e (wR 2) s m args below meth c 0 0 (wE below args s D dA b0 ad S0 F) 7 D dA b0 ad S0 74 [some (.ref k), some (.int v1), some (.int n2), some (.int v3), none, none, none] [] h) (hf : wok (fX6_textsOver_b50_16 h k v1 v3 v4 v5 v6 w0 w1) K) : wM p l e (wR 2) s m args below meth c 0 0 (wE below args s D dA b0 ad S0 F) 7 D dA b0 ad S0 50 [some (.ref k), some (.int v1), none, some (.int v3), some (.int v4), some (.int v5), some (.int v6)] [.int w1, .int w0] h := by
  unfold fX6_textsOver_b50_16 at hf
  refine w_ior X dX6_textsOver_50 rfl ?_
  refine w_istore_n X dX6_textsOver_51 rfl rfl rfl (Nat.le_of_ble_eq_true rfl) (ls' := [some (.ref k), some (.int v1), some (.int (w0 ||| w1)), some (.int v3), some (.int v4), some (.int v5), some (.int v6)]) rfl ?_
  refine w_iload X dX6_textsOver_52 rfl rfl ?_
  refine w_iload X dX6_textsOver_54 rfl rfl ?_
  refine w_iload_n X dX6_textsOver_56 rfl rfl rfl ?_
  refine w_icmp_ne X dX6_textsOver_57 rfl (t := 64) rfl (fun hc => ?_) (fun hc => ?_)
  · have hf := wok_f hf hc
    refine w_iconst X dX6_textsOver_64 rfl ci_0 ?_
    refine w_fg (ls2 := [some (.ref k), some (.int v1), some (.int (w0 ||| w1)), some (.int v3), none, some (.int v5), none]) ⟨rfl, rfl, rfl, rfl, rfl, trivial⟩ ?_
    exact pX6_textsOver_b65_16 X hr hk hN hX0 hf
  · have hf := wok_t hf hc
    refine w_iconst X dX6_textsOver_60 rfl ci_1 ?_
    refine w_goto X dX6_textsOver_61 (t := 65) rfl ?_
    refine w_fg (ls2 := [some (.ref k), some (.int v1), some (.int (w0 ||| w1)), some (.int v3), none, some (.int v5), none]) ⟨rfl, rfl, rfl, rfl, rfl, trivial⟩ ?_
    exact pX6_textsOver_b65_16 X hr hk hN hX0 hf
set_option maxRecDepth 4000 in
theorem pX6_textsOver_l16b (X : wCx p s m args meth c RX6 cX6_textsOver 7 D dA b0 ad) (hr : meth.sig.returnType = (some .int)) {h : wSt} {k : Nat} {v1 : Int32} {v3 : Int32} {v2 : Int32} {v4 : Int32} {v5 : Int32} (hk : wI6 k) {K : (Int32 × Int32 × Int32) ⊕ ((Int32)) → Prop} (hN : ∀ (n2 : Int32) (n4 : Int32) (n5 : Int32), K (.inl (n2, n4, n5)) → wM p l e (wR 2) s m args below meth c 0 0 (wE below args s D dA b0 ad S0 F) 7 D dA b0 ad S0 16 [some (.ref k), some (.int v1), some (.int n2), some (.int v3), some (.int n4), some (.int n5), none] [] h) (hX0 : ∀ (n2 : Int32), K (.inr n2) → wM p l e (wR 2) s m args below meth c 0 0 (wE below args s D dA b0 ad S0 F) 7 D dA b0 ad S0 74 [some (.ref k), some (.int v1), some (.int n2), some (.int v3), none, none, none] [] h) (hf : wok (fX6_textsOver_l16 h k v1 v3 v2 v4 v5) K) : wM p l e (wR 2) s m args below meth c 0 0 (wE below args s D dA b0 ad S0 F) 7 D dA b0 ad S0 16 [some (.ref k), some (.int v1), some (.int v2), some (.int v3), some (.int v4), some (.int v5), none] [] h := by
  unfold fX6_textsOver_l16 at hf
  refine w_iload X dX6_textsOver_16 rfl rfl ?_
  refine w_aload_n X dX6_textsOver_18 rfl rfl rfl ?_
  refine w_getR X dX6_textsOver_19 rfl fl_X6_18 hk.1 rfl ?_
  refine w_iload_n X dX6_textsOver_22 rfl rfl rfl ?_
  obtain ⟨yhg21, hf⟩ := wok_g hf
  refine w_iald X dX6_textsOver_23 rfl (j := v3.toNatClampNeg) rfl hk.2.2.2.1 yhg21 ?_
  refine w_icmp_ge X dX6_textsOver_24 rfl (t := 74) rfl (fun hc => ?_) (fun hc => ?_)
  · have hf := wok_t hf hc
    refine w_fg (ls2 := [some (.ref k), some (.int v1), some (.int v2), some (.int v3), none, none, none]) ⟨rfl, rfl, rfl, rfl, trivial⟩ ?_
    exact hX0 _ (wok_s hf)
  · have hf := wok_f hf hc
    refine w_aload_n X dX6_textsOver_27 rfl rfl rfl ?_
    refine w_iload_n X dX6_textsOver_28 rfl rfl rfl ?_
    refine w_iload X dX6_textsOver_29 rfl rfl ?_
    obtain ⟨yr22, eyr22, hf⟩ := wok_b hf
    refine w_callV X dX6_textsOver_31 rfl vl_X6_77 (kX6_layerAt l hk eyr22) hk.1 (As := [.int v3, .int v5]) (st := []) rfl rfl (Nat.le_of_ble_eq_true rfl) ⟨Nat.le_of_ble_eq_true rfl, Nat.le_of_ble_eq_true rfl⟩ ⟨Nat.zero_le _, Nat.zero_le _⟩ (fun r h2 hF => ?_)
    obtain ⟨_, rfl, rfl, rfl⟩ := hF
    show wM p l e (wR 2) s m args below meth c 0 0 (wE below args s D dA b0 ad S0 F) 7 D dA b0 ad S0 34 [some (.ref k), some (.int v1), some (.int v2), some (.int v3), some (.int v4), some (.int v5), none] [.int yr22] h
    refine w_istore X dX6_textsOver_34 rfl rfl (Nat.le_of_ble_eq_true rfl) (ls' := [some (.ref k), some (.int v1), some (.int v2), some (.int v3), some (.int v4), some (.int v5), some (.int yr22)]) rfl ?_
    refine w_iload_n X dX6_textsOver_36 rfl rfl rfl ?_
    refine w_iload X dX6_textsOver_37 rfl rfl ?_
    refine w_if_eq X dX6_textsOver_39 rfl (t := 49) rfl (fun hc => ?_) (fun hc => ?_)
    · have hf := wok_t hf hc
      refine w_iconst X dX6_textsOver_49 rfl ci_0 ?_
      refine w_fg (ls2 := [some (.ref k), some (.int v1), none, some (.int v3), some (.int v4), some (.int v5), some (.int yr22)]) ⟨rfl, rfl, rfl, rfl, rfl, rfl, trivial⟩ ?_
      exact pX6_textsOver_b50_16 X hr hk hN hX0 hf
    · have hf := wok_f hf hc
      refine w_iconst X dX6_textsOver_42 rfl ci_1 ?_
      refine w_iload X dX6_textsOver_43 rfl rfl ?_
      refine w_ishl X dX6_textsOver_45 rfl ?_
      refine w_goto X dX6_textsOver_46 (t := 50) rfl ?_
      refine w_fg (ls2 := [some (.ref k), some (.int v1), none, some (.int v3), some (.int v4), some (.int v5), some (.int yr22)]) ⟨rfl, rfl, rfl, rfl, rfl, rfl, trivial⟩ ?_
      exact pX6_textsOver_b50_16 X hr hk hN hX0 hf
set_option maxRecDepth 4000 in
theorem pX6_textsOver_l16 (X : wCx p s m args meth c RX6 cX6_textsOver 7 D dA b0 ad) (hr : meth.sig.returnType = (some .int)) {h : wSt} {k : Nat} {v1 : Int32} {v3 : Int32} (hk : wI6 k) {KE : (Int32) → Prop} (hX0 : ∀ (n2 : Int32), KE (n2) → wM p l e (wR 2) s m args below meth c 0 0 (wE below args s D dA b0 ad S0 F) 7 D dA b0 ad S0 74 [some (.ref k), some (.int v1), some (.int n2), some (.int v3), none, none, none] [] h) : ∀ (n : Nat) (v2 : Int32) (v4 : Int32) (v5 : Int32), wok (wit (fun v : (Int32 × Int32 × Int32) => fX6_textsOver_l16 h k v1 v3 v.1 v.2.1 v.2.2) n (v2, v4, v5)) KE → wM p l e (wR 2) s m args below meth c 0 0 (wE below args s D dA b0 ad S0 F) 7 D dA b0 ad S0 16 [some (.ref k), some (.int v1), some (.int v2), some (.int v3), some (.int v4), some (.int v5), none] [] h := by
  have key := wit_M (b := (fun v : (Int32 × Int32 × Int32) => fX6_textsOver_l16 h k v1 v3 v.1 v.2.1 v.2.2)) (KE := KE) (G := fun v => wM p l e (wR 2) s m args below meth c 0 0 (wE below args s D dA b0 ad S0 F) 7 D dA b0 ad S0 16 [some (.ref k), some (.int v1), some (.int v.1), some (.int v3), some (.int v.2.1), some (.int v.2.2), none] [] h) (fun v K hN hE hf => pX6_textsOver_l16b X hr hk (fun n2 n4 n5 hz => hN (n2, n4, n5) hz) (fun z0 hz => hX0 z0 (hE _ hz)) hf)
  exact fun n v2 v4 v5 hf => key n (v2, v4, v5) hf
set_option maxRecDepth 4000 in
theorem pX6_textsOver_l4b (X : wCx p s m args meth c RX6 cX6_textsOver 7 D dA b0 ad) (hr : meth.sig.returnType = (some .int)) {h : wSt} {k : Nat} {v1 : Int32} {v2 : Int32} {v3 : Int32} (hk : wI6 k) {K : (Int32 × Int32) ⊕ ((Int32)) → Prop} (hN : ∀ (n2 : Int32) (n3 : Int32), K (.inl (n2, n3)) → wM p l e (wR 2) s m args below meth c 0 0 (wE below args s D dA b0 ad S0 F) 7 D dA b0 ad S0 4 [some (.ref k), some (.int v1), some (.int n2), some (.int n3), none, none, none] [] h) (hX0 : ∀ (n2 : Int32), K (.inr n2) → wM p l e (wR 2) s m args below meth c 0 0 (wE below args s D dA b0 ad S0 F) 7 D dA b0 ad S0 80 [none, none, some (.int n2), none, none, none, none] [] h) (hf : wok (fX6_textsOver_l4 h k v1 v2 v3) K) : wM p l e (wR 2) s m args below meth c 0 0 (wE below args s D dA b0 ad S0 F) 7 D dA b0 ad S0 4 [some (.ref k), some (.int v1), some (.int v2), some (.int v3), none, none, none] [] h := by
  unfold fX6_textsOver_l4 at hf
  refine w_iload_n X dX6_textsOver_4 rfl rfl rfl ?_
  refine w_bipush X dX6_textsOver_5 rfl cb_18 ?_
  refine w_icmp_ge X dX6_textsOver_7 rfl (t := 80) rfl (fun hc => ?_) (fun hc => ?_)
  · have hf := wok_t hf hc
    refine w_fg (ls2 := [none, none, some (.int v2), none, none, none, none]) ⟨rfl, trivial⟩ ?_
    exact hX0 _ (wok_s hf)
  · have hf := wok_f hf hc
    refine w_iconst X dX6_textsOver_10 rfl ci_0 ?_
    refine w_istore X dX6_textsOver_11 rfl rfl (Nat.le_of_ble_eq_true rfl) (ls' := [some (.ref k), some (.int v1), some (.int v2), some (.int v3), some (.int 0), none, none]) rfl ?_
    refine w_iconst X dX6_textsOver_13 rfl ci_0 ?_
    refine w_istore X dX6_textsOver_14 rfl rfl (Nat.le_of_ble_eq_true rfl) (ls' := [some (.ref k), some (.int v1), some (.int v2), some (.int v3), some (.int 0), some (.int 0), none]) rfl ?_
    obtain ⟨ye23, hye23, hf⟩ := wok_b hf
    refine pX6_textsOver_l16 X hr hk (KE := fun z => ye23 = z) ?_ 3000 _ _ _ ⟨ye23, hye23, rfl⟩
    · intro yz24 hz
      subst hz
      refine w_iinc X dX6_textsOver_74 rfl (v := (v3 + 1)) rfl rfl (Nat.le_of_ble_eq_true rfl) (cinc_1 _) (ls' := [some (.ref k), some (.int v1), some (.int ye23), some (.int (v3 + 1)), none, none, none]) rfl ?_
      refine w_goto X dX6_textsOver_77 (t := 4) rfl ?_
      exact hN _ _ (wok_s hf)
set_option maxRecDepth 4000 in
theorem pX6_textsOver_l4 (X : wCx p s m args meth c RX6 cX6_textsOver 7 D dA b0 ad) (hr : meth.sig.returnType = (some .int)) {h : wSt} {k : Nat} {v1 : Int32} (hk : wI6 k) {KE : (Int32) → Prop} (hX0 : ∀ (n2 : Int32), KE (n2) → wM p l e (wR 2) s m args below meth c 0 0 (wE below args s D dA b0 ad S0 F) 7 D dA b0 ad S0 80 [none, none, some (.int n2), none, none, none, none] [] h) : ∀ (n : Nat) (v2 : Int32) (v3 : Int32), wok (wit (fun v : (Int32 × Int32) => fX6_textsOver_l4 h k v1 v.1 v.2) n (v2, v3)) KE → wM p l e (wR 2) s m args below meth c 0 0 (wE below args s D dA b0 ad S0 F) 7 D dA b0 ad S0 4 [some (.ref k), some (.int v1), some (.int v2), some (.int v3), none, none, none] [] h := by
  have key := wit_M (b := (fun v : (Int32 × Int32) => fX6_textsOver_l4 h k v1 v.1 v.2)) (KE := KE) (G := fun v => wM p l e (wR 2) s m args below meth c 0 0 (wE below args s D dA b0 ad S0 F) 7 D dA b0 ad S0 4 [some (.ref k), some (.int v1), some (.int v.1), some (.int v.2), none, none, none] [] h) (fun v K hN hE hf => pX6_textsOver_l4b X hr hk (fun n2 n3 hz => hN (n2, n3) hz) (fun z0 hz => hX0 z0 (hE _ hz)) hf)
  exact fun n v2 v3 hf => key n (v2, v3) hf
set_option maxRecDepth 4000 in
theorem pX6_textsOver_b0 (X : wCx p s m args meth c RX6 cX6_textsOver 7 D dA b0 ad) (hr : meth.sig.returnType = (some .int)) {h : wSt} {k : Nat} {x0 : Int32} (hk : wI6 k) {K : Int32 → Prop} (hT : ∀ (x : Int32), K x → F (some (.int x)) h) (hf : wok (fX6_textsOver h k x0) K) : wM p l e (wR 2) s m args below meth c 0 0 (wE below args s D dA b0 ad S0 F) 7 D dA b0 ad S0 0 [some (.ref k), some (.int x0), none, none, none, none, none] [] h := by
  unfold fX6_textsOver at hf
  refine w_iconst X dX6_textsOver_0 rfl ci_0 ?_
  refine w_istore_n X dX6_textsOver_1 rfl rfl rfl (Nat.le_of_ble_eq_true rfl) (ls' := [some (.ref k), some (.int x0), some (.int 0), none, none, none, none]) rfl ?_
  refine w_iconst X dX6_textsOver_2 rfl ci_0 ?_
  refine w_istore_n X dX6_textsOver_3 rfl rfl rfl (Nat.le_of_ble_eq_true rfl) (ls' := [some (.ref k), some (.int x0), some (.int 0), some (.int 0), none, none, none]) rfl ?_
  obtain ⟨ye25, hye25, hf⟩ := wok_b hf
  refine pX6_textsOver_l4 X hr hk (KE := fun z => ye25 = z) ?_ 3000 _ _ ⟨ye25, hye25, rfl⟩
  · intro yz26 hz
    subst hz
    refine w_iload_n X dX6_textsOver_80 rfl rfl rfl ?_
    exact w_iret X dX6_textsOver_81 hr (hT _ (wok_s hf))
set_option maxRecDepth 4000 in
theorem kX6_textsOver (l : Launch) {h : wSt} {k : Nat} {x0 : Int32} (hk : wI6 k) {res : Int32} (hf : fX6_textsOver h k x0 = some res) : wC l yX6_textsOver cX6_textsOver 7 (some .int) 2 S0 [.ref k, .int x0] h (wFI (fun a b => res = a ∧ h = b)) := by
  refine w_meth2 5 (by decide) (Nat.le_of_ble_eq_true rfl) (ls := [some (.ref k), some (.int x0), none, none, none, none, none]) rfl ?_
  intro p e s m args below meth c D dA b0 ad X hr
  exact pX6_textsOver_b0 X hr hk (K := fun z => res = z) (fun x hz => ⟨x, rfl, hz, rfl⟩) ⟨res, hf, rfl⟩
set_option maxRecDepth 4000 in
theorem pX6_pairsAlike_b59_12 (X : wCx p s m args meth c RX6 cX6_pairsAlike 4 D dA b0 ad) (hr : meth.sig.returnType = (some .int)) {h : wSt} {k : Nat} {v1 : Int32} {v2 : Int32} {v3 : Int32} (hk : wI6 k) {K : (Int32 × Int32) ⊕ ((Int32)) → Prop} (hN : ∀ (n1 : Int32) (n3 : Int32), K (.inl (n1, n3)) → wM p l e (wR 1) s m args below meth c 0 0 (wE below args s D dA b0 ad S0 F) 4 D dA b0 ad S0 12 [some (.ref k), some (.int n1), some (.int v2), some (.int n3)] [] h) (hX0 : ∀ (n1 : Int32), K (.inr n1) → wM p l e (wR 1) s m args below meth c 0 0 (wE below args s D dA b0 ad S0 F) 4 D dA b0 ad S0 65 [some (.ref k), some (.int n1), some (.int v2), none] [] h) (hf : wok (fX6_pairsAlike_b59_12 h k v1 v2 v3) K) : wM p l e (wR 1) s m args below meth c 0 0 (wE below args s D dA b0 ad S0 F) 4 D dA b0 ad S0 59 [some (.ref k), some (.int v1), some (.int v2), some (.int v3)] [] h := by
  unfold fX6_pairsAlike_b59_12 at hf
  refine w_iinc X dX6_pairsAlike_59 rfl (v := (v3 + 1)) rfl rfl (Nat.le_of_ble_eq_true rfl) (cinc_1 _) (ls' := [some (.ref k), some (.int v1), some (.int v2), some (.int (v3 + 1))]) rfl ?_
  refine w_goto X dX6_pairsAlike_62 (t := 12) rfl ?_
  exact hN _ _ (wok_s hf)
set_option maxRecDepth 4000 in
theorem pX6_pairsAlike_l12b (X : wCx p s m args meth c RX6 cX6_pairsAlike 4 D dA b0 ad) (hr : meth.sig.returnType = (some .int)) {h : wSt} {k : Nat} {v2 : Int32} {v1 : Int32} {v3 : Int32} (hk : wI6 k) {K : (Int32 × Int32) ⊕ ((Int32)) → Prop} (hN : ∀ (n1 : Int32) (n3 : Int32), K (.inl (n1, n3)) → wM p l e (wR 1) s m args below meth c 0 0 (wE below args s D dA b0 ad S0 F) 4 D dA b0 ad S0 12 [some (.ref k), some (.int n1), some (.int v2), some (.int n3)] [] h) (hX0 : ∀ (n1 : Int32), K (.inr n1) → wM p l e (wR 1) s m args below meth c 0 0 (wE below args s D dA b0 ad S0 F) 4 D dA b0 ad S0 65 [some (.ref k), some (.int n1), some (.int v2), none] [] h) (hf : wok (fX6_pairsAlike_l12 h k v2 v1 v3) K) : wM p l e (wR 1) s m args below meth c 0 0 (wE below args s D dA b0 ad S0 F) 4 D dA b0 ad S0 12 [some (.ref k), some (.int v1), some (.int v2), some (.int v3)] [] h := by
  unfold fX6_pairsAlike_l12 at hf
  refine w_iload_n X dX6_pairsAlike_12 rfl rfl rfl ?_
  refine w_iload_n X dX6_pairsAlike_13 rfl rfl rfl ?_
  refine w_icmp_ge X dX6_pairsAlike_14 rfl (t := 65) rfl (fun hc => ?_) (fun hc => ?_)
  · have hf := wok_t hf hc
    refine w_fg (ls2 := [some (.ref k), some (.int v1), some (.int v2), none]) ⟨rfl, rfl, rfl, trivial⟩ ?_
    exact hX0 _ (wok_s hf)
  · have hf := wok_f hf hc
    refine w_aload_n X dX6_pairsAlike_17 rfl rfl rfl ?_
    refine w_getR X dX6_pairsAlike_18 rfl fl_X6_18 hk.1 rfl ?_
    refine w_iload_n X dX6_pairsAlike_21 rfl rfl rfl ?_
    obtain ⟨yhg21, hf⟩ := wok_g hf
    refine w_iald X dX6_pairsAlike_22 rfl (j := v2.toNatClampNeg) rfl hk.2.2.2.1 yhg21 ?_
    refine w_if_le X dX6_pairsAlike_23 rfl (t := 59) rfl (fun hc => ?_) (fun hc => ?_)
    · have hf := wok_t hf hc
      exact pX6_pairsAlike_b59_12 X hr hk hN hX0 hf
    · have hf := wok_f hf hc
      refine w_aload_n X dX6_pairsAlike_26 rfl rfl rfl ?_
      refine w_getR X dX6_pairsAlike_27 rfl fl_X6_18 hk.1 rfl ?_
      refine w_iload_n X dX6_pairsAlike_30 rfl rfl rfl ?_
      refine w_iald X dX6_pairsAlike_31 rfl (j := v2.toNatClampNeg) rfl hk.2.2.2.1 yhg21 ?_
      refine w_aload_n X dX6_pairsAlike_32 rfl rfl rfl ?_
      refine w_getR X dX6_pairsAlike_33 rfl fl_X6_18 hk.1 rfl ?_
      refine w_iload_n X dX6_pairsAlike_36 rfl rfl rfl ?_
      obtain ⟨yhg22, hf⟩ := wok_g hf
      refine w_iald X dX6_pairsAlike_37 rfl (j := v3.toNatClampNeg) rfl hk.2.2.2.1 yhg22 ?_
      refine w_icmp_ne X dX6_pairsAlike_38 rfl (t := 59) rfl (fun hc => ?_) (fun hc => ?_)
      · have hf := wok_f hf hc
        exact pX6_pairsAlike_b59_12 X hr hk hN hX0 hf
      · have hf := wok_t hf hc
        refine w_aload_n X dX6_pairsAlike_41 rfl rfl rfl ?_
        refine w_getR X dX6_pairsAlike_42 rfl fl_X6_21 hk.1 rfl ?_
        refine w_iload_n X dX6_pairsAlike_45 rfl rfl rfl ?_
        refine w_iald X dX6_pairsAlike_46 rfl (j := v2.toNatClampNeg) rfl hk.2.2.2.2 yhg21 ?_
        refine w_aload_n X dX6_pairsAlike_47 rfl rfl rfl ?_
        refine w_getR X dX6_pairsAlike_48 rfl fl_X6_21 hk.1 rfl ?_
        refine w_iload_n X dX6_pairsAlike_51 rfl rfl rfl ?_
        refine w_iald X dX6_pairsAlike_52 rfl (j := v3.toNatClampNeg) rfl hk.2.2.2.2 yhg22 ?_
        refine w_icmp_ne X dX6_pairsAlike_53 rfl (t := 59) rfl (fun hc => ?_) (fun hc => ?_)
        · have hf := wok_f hf hc
          exact pX6_pairsAlike_b59_12 X hr hk hN hX0 hf
        · have hf := wok_t hf hc
          refine w_iinc X dX6_pairsAlike_56 rfl (v := (v1 + 1)) rfl rfl (Nat.le_of_ble_eq_true rfl) (cinc_1 _) (ls' := [some (.ref k), some (.int (v1 + 1)), some (.int v2), some (.int v3)]) rfl ?_
          exact pX6_pairsAlike_b59_12 X hr hk hN hX0 hf
set_option maxRecDepth 4000 in
theorem pX6_pairsAlike_l12 (X : wCx p s m args meth c RX6 cX6_pairsAlike 4 D dA b0 ad) (hr : meth.sig.returnType = (some .int)) {h : wSt} {k : Nat} {v2 : Int32} (hk : wI6 k) {KE : (Int32) → Prop} (hX0 : ∀ (n1 : Int32), KE (n1) → wM p l e (wR 1) s m args below meth c 0 0 (wE below args s D dA b0 ad S0 F) 4 D dA b0 ad S0 65 [some (.ref k), some (.int n1), some (.int v2), none] [] h) : ∀ (n : Nat) (v1 : Int32) (v3 : Int32), wok (wit (fun v : (Int32 × Int32) => fX6_pairsAlike_l12 h k v2 v.1 v.2) n (v1, v3)) KE → wM p l e (wR 1) s m args below meth c 0 0 (wE below args s D dA b0 ad S0 F) 4 D dA b0 ad S0 12 [some (.ref k), some (.int v1), some (.int v2), some (.int v3)] [] h := by
  have key := wit_M (b := (fun v : (Int32 × Int32) => fX6_pairsAlike_l12 h k v2 v.1 v.2)) (KE := KE) (G := fun v => wM p l e (wR 1) s m args below meth c 0 0 (wE below args s D dA b0 ad S0 F) 4 D dA b0 ad S0 12 [some (.ref k), some (.int v.1), some (.int v2), some (.int v.2)] [] h) (fun v K hN hE hf => pX6_pairsAlike_l12b X hr hk (fun n1 n3 hz => hN (n1, n3) hz) (fun z0 hz => hX0 z0 (hE _ hz)) hf)
  exact fun n v1 v3 hf => key n (v1, v3) hf
set_option maxRecDepth 4000 in
theorem pX6_pairsAlike_l4b (X : wCx p s m args meth c RX6 cX6_pairsAlike 4 D dA b0 ad) (hr : meth.sig.returnType = (some .int)) {h : wSt} {k : Nat} {v1 : Int32} {v2 : Int32} (hk : wI6 k) {K : (Int32 × Int32) ⊕ ((Int32)) → Prop} (hN : ∀ (n1 : Int32) (n2 : Int32), K (.inl (n1, n2)) → wM p l e (wR 1) s m args below meth c 0 0 (wE below args s D dA b0 ad S0 F) 4 D dA b0 ad S0 4 [some (.ref k), some (.int n1), some (.int n2), none] [] h) (hX0 : ∀ (n1 : Int32), K (.inr n1) → wM p l e (wR 1) s m args below meth c 0 0 (wE below args s D dA b0 ad S0 F) 4 D dA b0 ad S0 71 [none, some (.int n1), none, none] [] h) (hf : wok (fX6_pairsAlike_l4 h k v1 v2) K) : wM p l e (wR 1) s m args below meth c 0 0 (wE below args s D dA b0 ad S0 F) 4 D dA b0 ad S0 4 [some (.ref k), some (.int v1), some (.int v2), none] [] h := by
  unfold fX6_pairsAlike_l4 at hf
  refine w_iload_n X dX6_pairsAlike_4 rfl rfl rfl ?_
  refine w_bipush X dX6_pairsAlike_5 rfl cb_18 ?_
  refine w_icmp_ge X dX6_pairsAlike_7 rfl (t := 71) rfl (fun hc => ?_) (fun hc => ?_)
  · have hf := wok_t hf hc
    refine w_fg (ls2 := [none, some (.int v1), none, none]) ⟨rfl, trivial⟩ ?_
    exact hX0 _ (wok_s hf)
  · have hf := wok_f hf hc
    refine w_iconst X dX6_pairsAlike_10 rfl ci_0 ?_
    refine w_istore_n X dX6_pairsAlike_11 rfl rfl rfl (Nat.le_of_ble_eq_true rfl) (ls' := [some (.ref k), some (.int v1), some (.int v2), some (.int 0)]) rfl ?_
    obtain ⟨ye23, hye23, hf⟩ := wok_b hf
    refine pX6_pairsAlike_l12 X hr hk (KE := fun z => ye23 = z) ?_ 3000 _ _ ⟨ye23, hye23, rfl⟩
    · intro yz24 hz
      subst hz
      refine w_iinc X dX6_pairsAlike_65 rfl (v := (v2 + 1)) rfl rfl (Nat.le_of_ble_eq_true rfl) (cinc_1 _) (ls' := [some (.ref k), some (.int ye23), some (.int (v2 + 1)), none]) rfl ?_
      refine w_goto X dX6_pairsAlike_68 (t := 4) rfl ?_
      exact hN _ _ (wok_s hf)
set_option maxRecDepth 4000 in
theorem pX6_pairsAlike_l4 (X : wCx p s m args meth c RX6 cX6_pairsAlike 4 D dA b0 ad) (hr : meth.sig.returnType = (some .int)) {h : wSt} {k : Nat} (hk : wI6 k) {KE : (Int32) → Prop} (hX0 : ∀ (n1 : Int32), KE (n1) → wM p l e (wR 1) s m args below meth c 0 0 (wE below args s D dA b0 ad S0 F) 4 D dA b0 ad S0 71 [none, some (.int n1), none, none] [] h) : ∀ (n : Nat) (v1 : Int32) (v2 : Int32), wok (wit (fun v : (Int32 × Int32) => fX6_pairsAlike_l4 h k v.1 v.2) n (v1, v2)) KE → wM p l e (wR 1) s m args below meth c 0 0 (wE below args s D dA b0 ad S0 F) 4 D dA b0 ad S0 4 [some (.ref k), some (.int v1), some (.int v2), none] [] h := by
  have key := wit_M (b := (fun v : (Int32 × Int32) => fX6_pairsAlike_l4 h k v.1 v.2)) (KE := KE) (G := fun v => wM p l e (wR 1) s m args below meth c 0 0 (wE below args s D dA b0 ad S0 F) 4 D dA b0 ad S0 4 [some (.ref k), some (.int v.1), some (.int v.2), none] [] h) (fun v K hN hE hf => pX6_pairsAlike_l4b X hr hk (fun n1 n2 hz => hN (n1, n2) hz) (fun z0 hz => hX0 z0 (hE _ hz)) hf)
  exact fun n v1 v2 hf => key n (v1, v2) hf
set_option maxRecDepth 4000 in
theorem pX6_pairsAlike_b0 (X : wCx p s m args meth c RX6 cX6_pairsAlike 4 D dA b0 ad) (hr : meth.sig.returnType = (some .int)) {h : wSt} {k : Nat} (hk : wI6 k) {K : Int32 → Prop} (hT : ∀ (x : Int32), K x → F (some (.int x)) h) (hf : wok (fX6_pairsAlike h k) K) : wM p l e (wR 1) s m args below meth c 0 0 (wE below args s D dA b0 ad S0 F) 4 D dA b0 ad S0 0 [some (.ref k), none, none, none] [] h := by
  unfold fX6_pairsAlike at hf
  refine w_iconst X dX6_pairsAlike_0 rfl ci_0 ?_
  refine w_istore_n X dX6_pairsAlike_1 rfl rfl rfl (Nat.le_of_ble_eq_true rfl) (ls' := [some (.ref k), some (.int 0), none, none]) rfl ?_
  refine w_iconst X dX6_pairsAlike_2 rfl ci_0 ?_
  refine w_istore_n X dX6_pairsAlike_3 rfl rfl rfl (Nat.le_of_ble_eq_true rfl) (ls' := [some (.ref k), some (.int 0), some (.int 0), none]) rfl ?_
  obtain ⟨ye25, hye25, hf⟩ := wok_b hf
  refine pX6_pairsAlike_l4 X hr hk (KE := fun z => ye25 = z) ?_ 3000 _ _ ⟨ye25, hye25, rfl⟩
  · intro yz26 hz
    subst hz
    refine w_iload_n X dX6_pairsAlike_71 rfl rfl rfl ?_
    exact w_iret X dX6_pairsAlike_72 hr (hT _ (wok_s hf))
set_option maxRecDepth 4000 in
theorem kX6_pairsAlike (l : Launch) {h : wSt} {k : Nat} (hk : wI6 k) {res : Int32} (hf : fX6_pairsAlike h k = some res) : wC l yX6_pairsAlike cX6_pairsAlike 4 (some .int) 1 S0 [.ref k] h (wFI (fun a b => res = a ∧ h = b)) := by
  refine w_meth2 3 (by decide) (Nat.le_of_ble_eq_true rfl) (ls := [some (.ref k), none, none, none]) rfl ?_
  intro p e s m args below meth c D dA b0 ad X hr
  exact pX6_pairsAlike_b0 X hr hk (K := fun z => res = z) (fun x hz => ⟨x, rfl, hz, rfl⟩) ⟨res, hf, rfl⟩
set_option maxRecDepth 4000 in
theorem pX6_layersTogether_l4b (X : wCx p s m args meth c RX6 cX6_layersTogether 3 D dA b0 ad) (hr : meth.sig.returnType = (some .int)) {h : wSt} {k : Nat} {v1 : Int32} {v2 : Int32} (hk : wI6 k) {K : (Int32 × Int32) ⊕ ((Int32)) → Prop} (hN : ∀ (n1 : Int32) (n2 : Int32), K (.inl (n1, n2)) → wM p l e (wR 1) s m args below meth c 0 0 (wE below args s D dA b0 ad S0 F) 3 D dA b0 ad S0 4 [some (.ref k), some (.int n1), some (.int n2)] [] h) (hX0 : ∀ (n1 : Int32), K (.inr n1) → wM p l e (wR 1) s m args below meth c 0 0 (wE below args s D dA b0 ad S0 F) 3 D dA b0 ad S0 25 [none, some (.int n1), none] [] h) (hf : wok (fX6_layersTogether_l4 h k v1 v2) K) : wM p l e (wR 1) s m args below meth c 0 0 (wE below args s D dA b0 ad S0 F) 3 D dA b0 ad S0 4 [some (.ref k), some (.int v1), some (.int v2)] [] h := by
  unfold fX6_layersTogether_l4 at hf
  refine w_iload_n X dX6_layersTogether_4 rfl rfl rfl ?_
  refine w_bipush X dX6_layersTogether_5 rfl cb_18 ?_
  refine w_icmp_ge X dX6_layersTogether_7 rfl (t := 25) rfl (fun hc => ?_) (fun hc => ?_)
  · have hf := wok_t hf hc
    refine w_fg (ls2 := [none, some (.int v1), none]) ⟨rfl, trivial⟩ ?_
    exact hX0 _ (wok_s hf)
  · have hf := wok_f hf hc
    refine w_iload_n X dX6_layersTogether_10 rfl rfl rfl ?_
    refine w_aload_n X dX6_layersTogether_11 rfl rfl rfl ?_
    refine w_getR X dX6_layersTogether_12 rfl fl_X6_18 hk.1 rfl ?_
    refine w_iload_n X dX6_layersTogether_15 rfl rfl rfl ?_
    obtain ⟨yhg21, hf⟩ := wok_g hf
    refine w_iald X dX6_layersTogether_16 rfl (j := v2.toNatClampNeg) rfl hk.2.2.2.1 yhg21 ?_
    refine w_iadd X dX6_layersTogether_17 rfl ?_
    refine w_topi (fun yx22 eyx22 => ?_)
    have hf := wok_l hf eyx22
    refine w_istore_n X dX6_layersTogether_18 rfl rfl rfl (Nat.le_of_ble_eq_true rfl) (ls' := [some (.ref k), some (.int yx22), some (.int v2)]) rfl ?_
    refine w_iinc X dX6_layersTogether_19 rfl (v := (v2 + 1)) rfl rfl (Nat.le_of_ble_eq_true rfl) (cinc_1 _) (ls' := [some (.ref k), some (.int yx22), some (.int (v2 + 1))]) rfl ?_
    refine w_goto X dX6_layersTogether_22 (t := 4) rfl ?_
    exact hN _ _ (wok_s hf)
set_option maxRecDepth 4000 in
theorem pX6_layersTogether_l4 (X : wCx p s m args meth c RX6 cX6_layersTogether 3 D dA b0 ad) (hr : meth.sig.returnType = (some .int)) {h : wSt} {k : Nat} (hk : wI6 k) {KE : (Int32) → Prop} (hX0 : ∀ (n1 : Int32), KE (n1) → wM p l e (wR 1) s m args below meth c 0 0 (wE below args s D dA b0 ad S0 F) 3 D dA b0 ad S0 25 [none, some (.int n1), none] [] h) : ∀ (n : Nat) (v1 : Int32) (v2 : Int32), wok (wit (fun v : (Int32 × Int32) => fX6_layersTogether_l4 h k v.1 v.2) n (v1, v2)) KE → wM p l e (wR 1) s m args below meth c 0 0 (wE below args s D dA b0 ad S0 F) 3 D dA b0 ad S0 4 [some (.ref k), some (.int v1), some (.int v2)] [] h := by
  have key := wit_M (b := (fun v : (Int32 × Int32) => fX6_layersTogether_l4 h k v.1 v.2)) (KE := KE) (G := fun v => wM p l e (wR 1) s m args below meth c 0 0 (wE below args s D dA b0 ad S0 F) 3 D dA b0 ad S0 4 [some (.ref k), some (.int v.1), some (.int v.2)] [] h) (fun v K hN hE hf => pX6_layersTogether_l4b X hr hk (fun n1 n2 hz => hN (n1, n2) hz) (fun z0 hz => hX0 z0 (hE _ hz)) hf)
  exact fun n v1 v2 hf => key n (v1, v2) hf
set_option maxRecDepth 4000 in
theorem pX6_layersTogether_b0 (X : wCx p s m args meth c RX6 cX6_layersTogether 3 D dA b0 ad) (hr : meth.sig.returnType = (some .int)) {h : wSt} {k : Nat} (hk : wI6 k) {K : Int32 → Prop} (hT : ∀ (x : Int32), K x → F (some (.int x)) h) (hf : wok (fX6_layersTogether h k) K) : wM p l e (wR 1) s m args below meth c 0 0 (wE below args s D dA b0 ad S0 F) 3 D dA b0 ad S0 0 [some (.ref k), none, none] [] h := by
  unfold fX6_layersTogether at hf
  refine w_iconst X dX6_layersTogether_0 rfl ci_0 ?_
  refine w_istore_n X dX6_layersTogether_1 rfl rfl rfl (Nat.le_of_ble_eq_true rfl) (ls' := [some (.ref k), some (.int 0), none]) rfl ?_
  refine w_iconst X dX6_layersTogether_2 rfl ci_0 ?_
  refine w_istore_n X dX6_layersTogether_3 rfl rfl rfl (Nat.le_of_ble_eq_true rfl) (ls' := [some (.ref k), some (.int 0), some (.int 0)]) rfl ?_
  obtain ⟨ye23, hye23, hf⟩ := wok_b hf
  refine pX6_layersTogether_l4 X hr hk (KE := fun z => ye23 = z) ?_ 3000 _ _ ⟨ye23, hye23, rfl⟩
  · intro yz24 hz
    subst hz
    refine w_iload_n X dX6_layersTogether_25 rfl rfl rfl ?_
    exact w_iret X dX6_layersTogether_26 hr (hT _ (wok_s hf))
set_option maxRecDepth 4000 in
theorem kX6_layersTogether (l : Launch) {h : wSt} {k : Nat} (hk : wI6 k) {res : Int32} (hf : fX6_layersTogether h k = some res) : wC l yX6_layersTogether cX6_layersTogether 3 (some .int) 1 S0 [.ref k] h (wFI (fun a b => res = a ∧ h = b)) := by
  refine w_meth2 2 (by decide) (Nat.le_of_ble_eq_true rfl) (ls := [some (.ref k), none, none]) rfl ?_
  intro p e s m args below meth c D dA b0 ad X hr
  exact pX6_layersTogether_b0 X hr hk (K := fun z => res = z) (fun x hz => ⟨x, rfl, hz, rfl⟩) ⟨res, hf, rfl⟩
set_option maxRecDepth 4000 in
theorem pX6_thickTogether_l4b (X : wCx p s m args meth c RX6 cX6_thickTogether 3 D dA b0 ad) (hr : meth.sig.returnType = (some .int)) {h : wSt} {k : Nat} {v1 : Int32} {v2 : Int32} (hk : wI6 k) {K : (Int32 × Int32) ⊕ ((Int32)) → Prop} (hN : ∀ (n1 : Int32) (n2 : Int32), K (.inl (n1, n2)) → wM p l e (wR 1) s m args below meth c 0 0 (wE below args s D dA b0 ad S0 F) 3 D dA b0 ad S0 4 [some (.ref k), some (.int n1), some (.int n2)] [] h) (hX0 : ∀ (n1 : Int32), K (.inr n1) → wM p l e (wR 1) s m args below meth c 0 0 (wE below args s D dA b0 ad S0 F) 3 D dA b0 ad S0 30 [none, some (.int n1), none] [] h) (hf : wok (fX6_thickTogether_l4 h k v1 v2) K) : wM p l e (wR 1) s m args below meth c 0 0 (wE below args s D dA b0 ad S0 F) 3 D dA b0 ad S0 4 [some (.ref k), some (.int v1), some (.int v2)] [] h := by
  unfold fX6_thickTogether_l4 at hf
  refine w_iload_n X dX6_thickTogether_4 rfl rfl rfl ?_
  refine w_aload_n X dX6_thickTogether_5 rfl rfl rfl ?_
  refine w_getR X dX6_thickTogether_6 rfl fl_X6_24 hk.1 rfl ?_
  refine w_getI X dX6_thickTogether_9 rfl fl_X6_36 S0_3 rfl ?_
  refine w_icmp_ge X dX6_thickTogether_12 rfl (t := 30) rfl (fun hc => ?_) (fun hc => ?_)
  · have hf := wok_t hf hc
    refine w_fg (ls2 := [none, some (.int v1), none]) ⟨rfl, trivial⟩ ?_
    exact hX0 _ (wok_s hf)
  · have hf := wok_f hf hc
    refine w_iload_n X dX6_thickTogether_15 rfl rfl rfl ?_
    refine w_aload_n X dX6_thickTogether_16 rfl rfl rfl ?_
    refine w_getR X dX6_thickTogether_17 rfl fl_X6_9 hk.1 rfl ?_
    refine w_iload_n X dX6_thickTogether_20 rfl rfl rfl ?_
    obtain ⟨yhg21, hf⟩ := wok_g hf
    refine w_iald X dX6_thickTogether_21 rfl (j := v2.toNatClampNeg) rfl hk.2.1 yhg21 ?_
    refine w_iadd X dX6_thickTogether_22 rfl ?_
    refine w_topi (fun yx22 eyx22 => ?_)
    have hf := wok_l hf eyx22
    refine w_istore_n X dX6_thickTogether_23 rfl rfl rfl (Nat.le_of_ble_eq_true rfl) (ls' := [some (.ref k), some (.int yx22), some (.int v2)]) rfl ?_
    refine w_iinc X dX6_thickTogether_24 rfl (v := (v2 + 1)) rfl rfl (Nat.le_of_ble_eq_true rfl) (cinc_1 _) (ls' := [some (.ref k), some (.int yx22), some (.int (v2 + 1))]) rfl ?_
    refine w_goto X dX6_thickTogether_27 (t := 4) rfl ?_
    exact hN _ _ (wok_s hf)
set_option maxRecDepth 4000 in
theorem pX6_thickTogether_l4 (X : wCx p s m args meth c RX6 cX6_thickTogether 3 D dA b0 ad) (hr : meth.sig.returnType = (some .int)) {h : wSt} {k : Nat} (hk : wI6 k) {KE : (Int32) → Prop} (hX0 : ∀ (n1 : Int32), KE (n1) → wM p l e (wR 1) s m args below meth c 0 0 (wE below args s D dA b0 ad S0 F) 3 D dA b0 ad S0 30 [none, some (.int n1), none] [] h) : ∀ (n : Nat) (v1 : Int32) (v2 : Int32), wok (wit (fun v : (Int32 × Int32) => fX6_thickTogether_l4 h k v.1 v.2) n (v1, v2)) KE → wM p l e (wR 1) s m args below meth c 0 0 (wE below args s D dA b0 ad S0 F) 3 D dA b0 ad S0 4 [some (.ref k), some (.int v1), some (.int v2)] [] h := by
  have key := wit_M (b := (fun v : (Int32 × Int32) => fX6_thickTogether_l4 h k v.1 v.2)) (KE := KE) (G := fun v => wM p l e (wR 1) s m args below meth c 0 0 (wE below args s D dA b0 ad S0 F) 3 D dA b0 ad S0 4 [some (.ref k), some (.int v.1), some (.int v.2)] [] h) (fun v K hN hE hf => pX6_thickTogether_l4b X hr hk (fun n1 n2 hz => hN (n1, n2) hz) (fun z0 hz => hX0 z0 (hE _ hz)) hf)
  exact fun n v1 v2 hf => key n (v1, v2) hf
set_option maxRecDepth 4000 in
theorem pX6_thickTogether_b0 (X : wCx p s m args meth c RX6 cX6_thickTogether 3 D dA b0 ad) (hr : meth.sig.returnType = (some .int)) {h : wSt} {k : Nat} (hk : wI6 k) {K : Int32 → Prop} (hT : ∀ (x : Int32), K x → F (some (.int x)) h) (hf : wok (fX6_thickTogether h k) K) : wM p l e (wR 1) s m args below meth c 0 0 (wE below args s D dA b0 ad S0 F) 3 D dA b0 ad S0 0 [some (.ref k), none, none] [] h := by
  unfold fX6_thickTogether at hf
  refine w_iconst X dX6_thickTogether_0 rfl ci_0 ?_
  refine w_istore_n X dX6_thickTogether_1 rfl rfl rfl (Nat.le_of_ble_eq_true rfl) (ls' := [some (.ref k), some (.int 0), none]) rfl ?_
  refine w_iconst X dX6_thickTogether_2 rfl ci_0 ?_
  refine w_istore_n X dX6_thickTogether_3 rfl rfl rfl (Nat.le_of_ble_eq_true rfl) (ls' := [some (.ref k), some (.int 0), some (.int 0)]) rfl ?_
  obtain ⟨ye23, hye23, hf⟩ := wok_b hf
  refine pX6_thickTogether_l4 X hr hk (KE := fun z => ye23 = z) ?_ 3000 _ _ ⟨ye23, hye23, rfl⟩
  · intro yz24 hz
    subst hz
    refine w_iload_n X dX6_thickTogether_30 rfl rfl rfl ?_
    exact w_iret X dX6_thickTogether_31 hr (hT _ (wok_s hf))
set_option maxRecDepth 4000 in
theorem kX6_thickTogether (l : Launch) {h : wSt} {k : Nat} (hk : wI6 k) {res : Int32} (hf : fX6_thickTogether h k = some res) : wC l yX6_thickTogether cX6_thickTogether 3 (some .int) 1 S0 [.ref k] h (wFI (fun a b => res = a ∧ h = b)) := by
  refine w_meth2 2 (by decide) (Nat.le_of_ble_eq_true rfl) (ls := [some (.ref k), none, none]) rfl ?_
  intro p e s m args below meth c D dA b0 ad X hr
  exact pX6_thickTogether_b0 X hr hk (K := fun z => res = z) (fun x hz => ⟨x, rfl, hz, rfl⟩) ⟨res, hf, rfl⟩
set_option maxRecDepth 4000 in
theorem pX6_goneSkins_b32_4 (X : wCx p s m args meth c RX6 cX6_goneSkins 3 D dA b0 ad) (hr : meth.sig.returnType = (some .int)) {h : wSt} {k : Nat} {v2 : Int32} {w0 : Int32} {w1 : Int32} (hk : wI6 k) {K : (Int32 × Int32) ⊕ ((Int32)) → Prop} (hN : ∀ (n1 : Int32) (n2 : Int32), K (.inl (n1, n2)) → wM p l e (wR 1) s m args below meth c 0 0 (wE below args s D dA b0 ad S0 F) 3 D dA b0 ad S0 4 [some (.ref k), some (.int n1), some (.int n2)] [] h) (hX0 : ∀ (n1 : Int32), K (.inr n1) → wM p l e (wR 1) s m args below meth c 0 0 (wE below args s D dA b0 ad S0 F) 3 D dA b0 ad S0 40 [none, some (.int n1), none] [] h) (hf : wok (fX6_goneSkins_b32_4 h k v2 w0 w1) K) : wM p l e (wR 1) s m args below meth c 0 0 (wE below args s D dA b0 ad S0 F) 3 D dA b0 ad S0 32 [some (.ref k), none, some (.int v2)] [.int w1, .int w0] h := by
  unfold fX6_goneSkins_b32_4 at hf
  refine w_ior X dX6_goneSkins_32 rfl ?_
  refine w_istore_n X dX6_goneSkins_33 rfl rfl rfl (Nat.le_of_ble_eq_true rfl) (ls' := [some (.ref k), some (.int (w0 ||| w1)), some (.int v2)]) rfl ?_
  refine w_iinc X dX6_goneSkins_34 rfl (v := (v2 + 1)) rfl rfl (Nat.le_of_ble_eq_true rfl) (cinc_1 _) (ls' := [some (.ref k), some (.int (w0 ||| w1)), some (.int (v2 + 1))]) rfl ?_
  refine w_goto X dX6_goneSkins_37 (t := 4) rfl ?_
  exact hN _ _ (wok_s hf)
set_option maxRecDepth 4000 in
theorem pX6_goneSkins_l4b (X : wCx p s m args meth c RX6 cX6_goneSkins 3 D dA b0 ad) (hr : meth.sig.returnType = (some .int)) {h : wSt} {k : Nat} {v1 : Int32} {v2 : Int32} (hk : wI6 k) {K : (Int32 × Int32) ⊕ ((Int32)) → Prop} (hN : ∀ (n1 : Int32) (n2 : Int32), K (.inl (n1, n2)) → wM p l e (wR 1) s m args below meth c 0 0 (wE below args s D dA b0 ad S0 F) 3 D dA b0 ad S0 4 [some (.ref k), some (.int n1), some (.int n2)] [] h) (hX0 : ∀ (n1 : Int32), K (.inr n1) → wM p l e (wR 1) s m args below meth c 0 0 (wE below args s D dA b0 ad S0 F) 3 D dA b0 ad S0 40 [none, some (.int n1), none] [] h) (hf : wok (fX6_goneSkins_l4 h k v1 v2) K) : wM p l e (wR 1) s m args below meth c 0 0 (wE below args s D dA b0 ad S0 F) 3 D dA b0 ad S0 4 [some (.ref k), some (.int v1), some (.int v2)] [] h := by
  unfold fX6_goneSkins_l4 at hf
  refine w_iload_n X dX6_goneSkins_4 rfl rfl rfl ?_
  refine w_aload_n X dX6_goneSkins_5 rfl rfl rfl ?_
  refine w_getR X dX6_goneSkins_6 rfl fl_X6_24 hk.1 rfl ?_
  refine w_getI X dX6_goneSkins_9 rfl fl_X6_36 S0_3 rfl ?_
  refine w_icmp_ge X dX6_goneSkins_12 rfl (t := 40) rfl (fun hc => ?_) (fun hc => ?_)
  · have hf := wok_t hf hc
    refine w_fg (ls2 := [none, some (.int v1), none]) ⟨rfl, trivial⟩ ?_
    exact hX0 _ (wok_s hf)
  · have hf := wok_f hf hc
    refine w_iload_n X dX6_goneSkins_15 rfl rfl rfl ?_
    refine w_aload_n X dX6_goneSkins_16 rfl rfl rfl ?_
    refine w_getR X dX6_goneSkins_17 rfl fl_X6_9 hk.1 rfl ?_
    refine w_iload_n X dX6_goneSkins_20 rfl rfl rfl ?_
    obtain ⟨yhg21, hf⟩ := wok_g hf
    refine w_iald X dX6_goneSkins_21 rfl (j := v2.toNatClampNeg) rfl hk.2.1 yhg21 ?_
    refine w_if_ne X dX6_goneSkins_22 rfl (t := 31) rfl (fun hc => ?_) (fun hc => ?_)
    · have hf := wok_f hf hc
      refine w_iconst X dX6_goneSkins_31 rfl ci_0 ?_
      refine w_fg (ls2 := [some (.ref k), none, some (.int v2)]) ⟨rfl, rfl, trivial⟩ ?_
      exact pX6_goneSkins_b32_4 X hr hk hN hX0 hf
    · have hf := wok_t hf hc
      refine w_iconst X dX6_goneSkins_25 rfl ci_1 ?_
      refine w_iload_n X dX6_goneSkins_26 rfl rfl rfl ?_
      refine w_ishl X dX6_goneSkins_27 rfl ?_
      refine w_goto X dX6_goneSkins_28 (t := 32) rfl ?_
      refine w_fg (ls2 := [some (.ref k), none, some (.int v2)]) ⟨rfl, rfl, trivial⟩ ?_
      exact pX6_goneSkins_b32_4 X hr hk hN hX0 hf
set_option maxRecDepth 4000 in
theorem pX6_goneSkins_l4 (X : wCx p s m args meth c RX6 cX6_goneSkins 3 D dA b0 ad) (hr : meth.sig.returnType = (some .int)) {h : wSt} {k : Nat} (hk : wI6 k) {KE : (Int32) → Prop} (hX0 : ∀ (n1 : Int32), KE (n1) → wM p l e (wR 1) s m args below meth c 0 0 (wE below args s D dA b0 ad S0 F) 3 D dA b0 ad S0 40 [none, some (.int n1), none] [] h) : ∀ (n : Nat) (v1 : Int32) (v2 : Int32), wok (wit (fun v : (Int32 × Int32) => fX6_goneSkins_l4 h k v.1 v.2) n (v1, v2)) KE → wM p l e (wR 1) s m args below meth c 0 0 (wE below args s D dA b0 ad S0 F) 3 D dA b0 ad S0 4 [some (.ref k), some (.int v1), some (.int v2)] [] h := by
  have key := wit_M (b := (fun v : (Int32 × Int32) => fX6_goneSkins_l4 h k v.1 v.2)) (KE := KE) (G := fun v => wM p l e (wR 1) s m args below meth c 0 0 (wE below args s D dA b0 ad S0 F) 3 D dA b0 ad S0 4 [some (.ref k), some (.int v.1), some (.int v.2)] [] h) (fun v K hN hE hf => pX6_goneSkins_l4b X hr hk (fun n1 n2 hz => hN (n1, n2) hz) (fun z0 hz => hX0 z0 (hE _ hz)) hf)
  exact fun n v1 v2 hf => key n (v1, v2) hf
set_option maxRecDepth 4000 in
theorem pX6_goneSkins_b0 (X : wCx p s m args meth c RX6 cX6_goneSkins 3 D dA b0 ad) (hr : meth.sig.returnType = (some .int)) {h : wSt} {k : Nat} (hk : wI6 k) {K : Int32 → Prop} (hT : ∀ (x : Int32), K x → F (some (.int x)) h) (hf : wok (fX6_goneSkins h k) K) : wM p l e (wR 1) s m args below meth c 0 0 (wE below args s D dA b0 ad S0 F) 3 D dA b0 ad S0 0 [some (.ref k), none, none] [] h := by
  unfold fX6_goneSkins at hf
  refine w_iconst X dX6_goneSkins_0 rfl ci_0 ?_
  refine w_istore_n X dX6_goneSkins_1 rfl rfl rfl (Nat.le_of_ble_eq_true rfl) (ls' := [some (.ref k), some (.int 0), none]) rfl ?_
  refine w_iconst X dX6_goneSkins_2 rfl ci_0 ?_
  refine w_istore_n X dX6_goneSkins_3 rfl rfl rfl (Nat.le_of_ble_eq_true rfl) (ls' := [some (.ref k), some (.int 0), some (.int 0)]) rfl ?_
  obtain ⟨ye22, hye22, hf⟩ := wok_b hf
  refine pX6_goneSkins_l4 X hr hk (KE := fun z => ye22 = z) ?_ 3000 _ _ ⟨ye22, hye22, rfl⟩
  · intro yz23 hz
    subst hz
    refine w_iload_n X dX6_goneSkins_40 rfl rfl rfl ?_
    exact w_iret X dX6_goneSkins_41 hr (hT _ (wok_s hf))
set_option maxRecDepth 4000 in
theorem kX6_goneSkins (l : Launch) {h : wSt} {k : Nat} (hk : wI6 k) {res : Int32} (hf : fX6_goneSkins h k = some res) : wC l yX6_goneSkins cX6_goneSkins 3 (some .int) 1 S0 [.ref k] h (wFI (fun a b => res = a ∧ h = b)) := by
  refine w_meth2 2 (by decide) (Nat.le_of_ble_eq_true rfl) (ls := [some (.ref k), none, none]) rfl ?_
  intro p e s m args below meth c D dA b0 ad X hr
  exact pX6_goneSkins_b0 X hr hk (K := fun z => res = z) (fun x hz => ⟨x, rfl, hz, rfl⟩) ⟨res, hf, rfl⟩
end WX

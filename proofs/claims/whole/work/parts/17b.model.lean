def fX11_copies_l3 (h : wSt) (a0 : Nat) (g0 : Nat) (a2 : Nat) (g2 : Nat) (v1 : Int32) (v3 : Int32) (v4 : Int32) : Option ((Int32 × wSt) ⊕ ((wSt))) :=
if 25 ≤ v4 then
some (.inr h)
else
if wib (v1 + v4) g0 then
if wib (v3 + v4) g2 then
wlet (wuI h a2 (v3 + v4).toNatClampNeg (h.1 a0 (v1 + v4).toNatClampNeg)) (fun yh23 =>
some (.inl ((v4 + 1), yh23)))
else none
else none
def fX11_copies (h : wSt) (a0 : Nat) (g0 : Nat) (x1 : Int32) (a2 : Nat) (g2 : Nat) (x3 : Int32) : Option (wSt) :=
(wit (fun v : (Int32 × wSt) => fX11_copies_l3 v.2 a0 g0 a2 g2 x1 x3 v.1) 3000 ((0 : Int32), h)).bind (fun ye24 =>
some ye24)
def fX11_readsLine_b180 (h : wSt) : Option (Bool × wSt) :=
wlet (wuI h 215 5 ((h.1 215 5) + 1)) (fun yh28 =>
(fX11_closes yh28 ).bind (fun yr29 =>
some (yr29.1, yr29.2)))
def fX11_readsLine_b155 (h : wSt) (v1 : Int32) (v2 : Int32) : Option (Bool × wSt) :=
if v1 = 0 then
(fX11_needsNumber h (0 : Int32) (5 : Int32)).bind (fun yr30 =>
if yr30.1 = true then
if wib v2 240 then
wlet (wuI yr30.2 219 v2.toNatClampNeg (yr30.2.1 188 36)) (fun yh32 =>
fX11_readsLine_b180 yh32)
else none
else
some (false, yr30.2))
else
fX11_readsLine_b180 h
def fX11_readsLine_b130 (h : wSt) (v1 : Int32) (v2 : Int32) : Option (Bool × wSt) :=
if v1 = 3 then
fX11_readsLine_b155 h v1 v2
else
(fX11_needsSkin h (0 : Int32)).bind (fun yr33 =>
if yr33.1 = true then
if wib v2 240 then
wlet (wuI yr33.2 218 v2.toNatClampNeg (yr33.2.1 188 36)) (fun yh35 =>
fX11_readsLine_b155 yh35 v1 v2)
else none
else
some (false, yr33.2))
def fX11_readsLine_b57 (h : wSt) (w0 : Int32) : Option (Bool × wSt) :=
if 0 ≤ w0 then
if (h.1 215 5) = 40 then
(fX11_fails h (5 : Int32)).bind (fun yr38 =>
some (yr38.1, yr38.2))
else
(fX11_nextToken h ).bind (fun yr25 =>
if wib (200 + (yr25.1 215 5)) 240 then
wlet (wuI yr25 216 (200 + (yr25.1 215 5)).toNatClampNeg w0) (fun yh27 =>
if w0 = 0 then
(fX11_needsText yh27 ).bind (fun yr36 =>
if yr36.1 = true then
wlet (wuI yr36.2 217 (200 + (yr25.1 215 5)).toNatClampNeg (yr36.2.1 188 36)) (fun yh37 =>
fX11_readsLine_b130 yh37 w0 (200 + (yr25.1 215 5)))
else
some (false, yr36.2))
else
fX11_readsLine_b130 yh27 w0 (200 + (yr25.1 215 5)))
else none)
else
(fX11_fails h (1 : Int32)).bind (fun yr39 =>
some (yr39.1, yr39.2))
def fX11_readsLine (h : wSt) : Option (Bool × wSt) :=
(fX11_isWord h (12584543 : Int64)).bind (fun yr21 =>
if yr21 = true then
fX11_readsLine_b57 h (0 : Int32)
else
(fX11_isWord h (274579016 : Int64)).bind (fun yr22 =>
if yr22 = true then
fX11_readsLine_b57 h (1 : Int32)
else
(fX11_isWord h (10793335 : Int64)).bind (fun yr23 =>
if yr23 = true then
fX11_readsLine_b57 h (2 : Int32)
else
(fX11_isWord h (456500 : Int64)).bind (fun yr24 =>
if yr24 = true then
fX11_readsLine_b57 h (3 : Int32)
else
fX11_readsLine_b57 h (-1 : Int32)))))
def fX11_laysLines_l14 (h : wSt) (v1 : Int32) (v2 : Int32) (v3 : Int32) : Option ((Int32 × wSt) ⊕ ((wSt))) :=
if 40 ≤ v3 then
some (.inr h)
else
if wib ((40 * v1) + v3) 240 then
if wib ((40 * v2) + v3) 240 then
wlet (wuI h 216 ((40 * v2) + v3).toNatClampNeg (h.1 216 ((40 * v1) + v3).toNatClampNeg)) (fun yh26 =>
wlet (wuI yh26 217 ((40 * v2) + v3).toNatClampNeg (yh26.1 217 ((40 * v1) + v3).toNatClampNeg)) (fun yh27 =>
wlet (wuI yh27 218 ((40 * v2) + v3).toNatClampNeg (yh27.1 218 ((40 * v1) + v3).toNatClampNeg)) (fun yh28 =>
wlet (wuI yh28 219 ((40 * v2) + v3).toNatClampNeg (yh28.1 219 ((40 * v1) + v3).toNatClampNeg)) (fun yh29 =>
some (.inl ((v3 + 1), yh29))))))
else none
else none
def fX11_laysLines (h : wSt) (x0 : Int32) (x1 : Int32) : Option (wSt) :=
if wib x0 6 then
if wib x1 6 then
wlet (wuI h 215 x1.toNatClampNeg (h.1 215 x0.toNatClampNeg)) (fun yh23 =>
(wit (fun v : (Int32 × wSt) => fX11_laysLines_l14 v.2 x0 x1 v.1) 3000 ((0 : Int32), yh23)).bind (fun ye30 =>
some ye30))
else none
else none
def fX11_laysSeen_l14 (h : wSt) (v1 : Int32) (v2 : Int32) (v3 : Int32) : Option ((Int32 × wSt) ⊕ ((wSt))) :=
if 8 ≤ v3 then
some (.inr h)
else
if wib ((8 * v1) + v3) 40 then
if wib ((8 * v2) + v3) 40 then
wlet (wuI h 221 ((8 * v2) + v3).toNatClampNeg (h.1 221 ((8 * v1) + v3).toNatClampNeg)) (fun yh26 =>
wlet (wuI yh26 222 ((8 * v2) + v3).toNatClampNeg (yh26.1 222 ((8 * v1) + v3).toNatClampNeg)) (fun yh27 =>
wlet (wuI yh27 223 ((8 * v2) + v3).toNatClampNeg (yh27.1 223 ((8 * v1) + v3).toNatClampNeg)) (fun yh28 =>
wlet (wuI yh28 224 ((8 * v2) + v3).toNatClampNeg (vp_nar .boolean (yh28.1 224 ((8 * v1) + v3).toNatClampNeg))) (fun yh29 =>
some (.inl ((v3 + 1), yh29))))))
else none
else none
def fX11_laysSeen (h : wSt) (x0 : Int32) (x1 : Int32) : Option (wSt) :=
if wib x0 5 then
if wib x1 5 then
wlet (wuI h 220 x1.toNatClampNeg (h.1 220 x0.toNatClampNeg)) (fun yh23 =>
(wit (fun v : (Int32 × wSt) => fX11_laysSeen_l14 v.2 x0 x1 v.1) 3000 ((0 : Int32), yh23)).bind (fun ye30 =>
some ye30))
else none
else none
def fX11_fresh0_l2 (h : wSt) (v1 : Int32) : Option ((Int32 × wSt) ⊕ ((wSt))) :=
if 25 ≤ v1 then
some (.inr h)
else
if wib v1 25 then
wlet (wuI h 225 v1.toNatClampNeg 0) (fun yh22 =>
some (.inl ((v1 + 1), yh22)))
else none
def fX11_fresh0_l23 (h : wSt) (v1 : Int32) : Option ((Int32 × wSt) ⊕ ((wSt))) :=
if (h.1 190 0) ≤ v1 then
some (.inr h)
else
if wib v1 6 then
if wib (1 + v1) 25 then
wlet (wuI h 225 (1 + v1).toNatClampNeg (h.1 194 v1.toNatClampNeg)) (fun yh27 =>
some (.inl ((v1 + 1), yh27)))
else none
else none
def fX11_fresh0 (h : wSt) : Option (wSt) :=
(wit (fun v : (Int32 × wSt) => fX11_fresh0_l2 v.2 v.1) 3000 ((0 : Int32), h)).bind (fun ye23 =>
(wit (fun v : (Int32 × wSt) => fX11_fresh0_l23 v.2 v.1) 3000 ((0 : Int32), ye23)).bind (fun ye28 =>
some ye28))
def fX11_library_l46 (h : wSt) (v1 : Int32) : Option ((Int32 × wSt) ⊕ ((wSt))) :=
if 4 ≤ v1 then
some (.inr h)
else
if wib v1 4 then
wlet (wuI h 230 v1.toNatClampNeg (vp_nar .boolean 0)) (fun yh29 =>
some (.inl ((v1 + 1), yh29)))
else none
def fX11_library (h : wSt) : Option (Int32 × wSt) :=
wlet (wuI h 188 0 0) (fun yh21 =>
(fX11_readsAll yh21 ).bind (fun yr22 =>
if yr22.1 = true then
(fX11_lays yr22.2 ).bind (fun yr23 =>
(fX11_fresh0 yr23 ).bind (fun yr24 =>
wlet (wuI yr24 215 0 0) (fun yh25 =>
wlet (wuI yh25 220 0 0) (fun yh26 =>
wlet (wuI yh26 188 54 0) (fun yh27 =>
(wit (fun v : (Int32 × wSt) => fX11_library_l46 v.2 v.1) 3000 ((0 : Int32), yh27)).bind (fun ye30 =>
some ((0 : Int32), ye30)))))))
else
some ((yr22.2.1 188 9), yr22.2)))
def fX11_year_l16 (h : wSt) : Option ((wSt) ⊕ ((wSt) ⊕ (wSt))) :=
if (h.1 188 6) = 0 then
some (.inr (.inr h))
else
(fX11_readsLine h ).bind (fun yr24 =>
if yr24.1 = true then
some (.inl yr24.2)
else
some (.inr (.inl yr24.2)))
def fX11_year (h : wSt) : Option (Int32 × wSt) :=
wlet (wuI h 188 0 0) (fun yh21 =>
wlet (wuI yh21 215 5 0) (fun yh22 =>
(fX11_begins yh22 ).bind (fun yr23 =>
(wit (fun v : (wSt) => fX11_year_l16 v ) 3000 yr23).bind (fun ye25 => match ye25 with
| .inl ye25v =>
some ((ye25v.1 188 9), ye25v)
| .inr ye25v =>
(fX11_laysLines ye25v (5 : Int32) (0 : Int32)).bind (fun yr28 =>
some ((0 : Int32), yr28))))))
def fX11_isSkin (h : wSt) (x0 : Int32) : Option (Bool) :=
if x0 < 0 then
some false
else
if (h.1 190 0) ≤ x0 then
some false
else
some true
def fX11_isText (h : wSt) (x0 : Int32) : Option (Bool) :=
if x0 < 0 then
some false
else
if (h.1 190 1) ≤ x0 then
some false
else
some true
def fX11_isLine (h : wSt) (x0 : Int32) (x1 : Int32) : Option (Bool) :=
(fX11_isSkin h x0).bind (fun yr21 =>
if yr21 = true then
if x1 < 0 then
some false
else
if wib x0 6 then
if (h.1 193 x0.toNatClampNeg) ≤ x1 then
some false
else
some true
else none
else
some false)
def fX11_deepOf_l4 (h : wSt) (v1 : Int32) (v2 : Int32) : Option ((Int32 × Int32) ⊕ ((Int32))) :=
if v2 ≤ 0 then
some (.inr v1)
else
some (.inl ((v1 + 1), (v2 / 7)))
def fX11_deepOf (h : wSt) (x0 : Int32) : Option (Int32) :=
(wit (fun v : (Int32 × Int32) => fX11_deepOf_l4 h v.1 v.2) 3000 ((0 : Int32), x0)).bind (fun ye21 =>
some ye21)
def fX11_dampOf (h : wSt) (x0 : Int32) : Option (Int32) :=
if (h.1 190 2) = 0 then
some (0 : Int32)
else
if ¬ (h.1 190 2) = 0 then
if wib (x0 - x0 / (h.1 190 2) * (h.1 190 2)) 24 then
some (h.1 199 (x0 - x0 / (h.1 190 2) * (h.1 190 2)).toNatClampNeg)
else none
else none
def fX11_showsBy_b38 (h : wSt) (v1 : Int32) (v3 : Int32) (v5 : Int32) (w0 : Int32) : Option (Bool × wSt) :=
if (h.1 201 0) = (h.1 200 0) then
if wib v1 12 then
if v5 ≤ ((w0 * 2) - (h.1 197 v1.toNatClampNeg)) then
some (false, h)
else
some (true, h)
else none
else
wlet (wuI h 214 1 v5) (fun yh23 =>
wlet (wuI yh23 214 2 w0) (fun yh24 =>
if wib v1 12 then
wlet (wuI yh24 214 3 (yh24.1 197 v1.toNatClampNeg)) (fun yh26 =>
wlet (wuI yh26 214 4 v3) (fun yh27 =>
(fX11_worked yh27 (0 : Int32)).bind (fun yr28 =>
if yr28.1 = 0 then
some (false, yr28.2)
else
some (true, yr28.2))))
else none))
def fX11_showsBy_b19 (h : wSt) (v1 : Int32) (v2 : Int32) (v3 : Int32) (w0 : Int32) : Option (Bool × wSt) :=
if wib v1 12 then
if (h.1 196 v1.toNatClampNeg) = 2 then
fX11_showsBy_b38 h v1 v3 w0 (v2 - 1)
else
fX11_showsBy_b38 h v1 v3 w0 v2
else none
def fX11_showsBy (h : wSt) (x0 : Int32) (x1 : Int32) (x2 : Int32) (x3 : Int32) : Option (Bool × wSt) :=
if wib x0 12 then
if (h.1 196 x0.toNatClampNeg) = 1 then
fX11_showsBy_b19 h x0 x1 x2 (x3 + 1)
else
fX11_showsBy_b19 h x0 x1 x2 x3
else none
def fX11_readBy_l47 (h : wSt) (v1 : Int32) (v3 : Int32) (v5 : Int32) (v6 : Int32) : Option ((Int32 × Int32 × wSt) ⊕ ((wSt) ⊕ (Int32 × wSt))) :=
if v6 ≤ 0 then
some (.inr (.inl h))
else
if wib (1 + v1) 25 then
(fX11_showsBy h ((v6 - v6 / 7 * 7) - 1) v5 (h.1 225 (1 + v1).toNatClampNeg) v3).bind (fun yr25 =>
if yr25.1 = true then
some (.inr (.inr (((v6 - v6 / 7 * 7) - 1), yr25.2)))
else
some (.inl ((v5 + 1), (v6 / 7), yr25.2)))
else none
def fX11_readBy (h : wSt) (x0 : Int32) (x1 : Int32) (x2 : Int32) : Option (Int32 × wSt) :=
if wib ((7 + (6 * x0)) + x1) 25 then
wlet (h.1 225 ((7 + (6 * x0)) + x1).toNatClampNeg) (fun yx22 =>
if wib (4 + x0) 25 then
if (((h.1 225 (4 + x0).toNatClampNeg) >>> (x1 &&& 31)) &&& 1) = 1 then
some (((yx22 - yx22 / 7 * 7) - 1), h)
else
(wit (fun v : (Int32 × Int32 × wSt) => fX11_readBy_l47 v.2.2 x0 x2 v.1 v.2.1) 3000 ((1 : Int32), yx22, h)).bind (fun ye26 => match ye26 with
| .inl ye26v =>
some ((-1 : Int32), ye26v)
| .inr ye26r =>
some ye26r)
else none)
else none
def fX11_wholeBy_b89_23 (h : wSt) (v1 : Int32) (v2 : Int32) (v3 : Int32) (v4 : Int32) (v5 : Int32) (v6 : Int32) : Option ((Int32 × Int32 × Int32 × Int32 × wSt) ⊕ ((Int32 × wSt))) :=
some (.inl (v2, v4, v5, (v6 + 1), h))
def fX11_wholeBy_b59_23 (h : wSt) (v1 : Int32) (v2 : Int32) (v3 : Int32) (v6 : Int32) (v7 : Int32) (w0 : Int32) : Option ((Int32 × Int32 × Int32 × Int32 × wSt) ⊕ ((Int32 × wSt))) :=
if v7 < 0 then
fX11_wholeBy_b89_23 h v1 v2 v3 v7 w0 v6
else
if wib v7 12 then
if w0 < (h.1 198 v7.toNatClampNeg) then
fX11_wholeBy_b89_23 h v1 v2 v3 v7 w0 v6
else
fX11_wholeBy_b89_23 h v1 (v2 ||| (1 <<< (v7 &&& 31))) v3 v7 w0 v6
else none
def fX11_wholeBy_l23 (h : wSt) (v1 : Int32) (v3 : Int32) (v2 : Int32) (v4 : Int32) (v5 : Int32) (v6 : Int32) : Option ((Int32 × Int32 × Int32 × Int32 × wSt) ⊕ ((Int32 × wSt))) :=
if wib v3 6 then
if (h.1 193 v3.toNatClampNeg) ≤ v6 then
some (.inr (v2, h))
else
(fX11_readBy h v3 v6 v1).bind (fun yr22 =>
if yr22.1 = v4 then
fX11_wholeBy_b59_23 yr22.2 v1 v2 v3 v6 yr22.1 (v5 + 1)
else
fX11_wholeBy_b59_23 yr22.2 v1 v2 v3 v6 yr22.1 (1 : Int32))
else none
def fX11_wholeBy_l4 (h : wSt) (v1 : Int32) (v2 : Int32) (v3 : Int32) : Option ((Int32 × Int32 × wSt) ⊕ ((Int32 × wSt))) :=
if (h.1 190 0) ≤ v3 then
some (.inr (v2, h))
else
(wit (fun v : (Int32 × Int32 × Int32 × Int32 × wSt) => fX11_wholeBy_l23 v.2.2.2.2 v1 v3 v.1 v.2.1 v.2.2.1 v.2.2.2.1) 3000 (v2, (-1 : Int32), (0 : Int32), (0 : Int32), h)).bind (fun ye24 =>
some (.inl (ye24.1, (v3 + 1), ye24.2)))
def fX11_wholeBy (h : wSt) (x0 : Int32) : Option (Int32 × wSt) :=
(wit (fun v : (Int32 × Int32 × wSt) => fX11_wholeBy_l4 v.2.2 x0 v.1 v.2.1) 3000 ((0 : Int32), (0 : Int32), h)).bind (fun ye27 =>
some (ye27.1, ye27.2))
def fX11_wholeNow (h : wSt) : Option (Int32 × wSt) :=
(fX11_dampOf h (h.1 225 0)).bind (fun yr21 =>
(fX11_wholeBy h yr21).bind (fun yr22 =>
some (yr22.1, yr22.2)))
def fX11_canWrite_l33 (h : wSt) (v1 : Int32) (v2 : Int32) (v3 : Int32) (v4 : Int32) : Option ((Int32) ⊕ ((Unit) ⊕ (Bool))) :=
if wib v1 12 then
if (v3 + (h.1 198 v1.toNatClampNeg)) ≤ v4 then
some (.inr (.inl ()))
else
if wib v2 6 then
if (((h.1 195 v2.toNatClampNeg) >>> (v4 &&& 31)) &&& 1) = 1 then
some (.inr (.inr false))
else
if wib (4 + v2) 25 then
if (((h.1 225 (4 + v2).toNatClampNeg) >>> (v4 &&& 31)) &&& 1) = 1 then
some (.inr (.inr false))
else
if wib ((7 + (6 * v2)) + v4) 25 then
if (h.1 225 ((7 + (6 * v2)) + v4).toNatClampNeg) < 5764801 then
some (.inl (v4 + 1))
else
some (.inr (.inr false))
else none
else none
else none
else none
def fX11_canWrite (h : wSt) (x0 : Int32) (x1 : Int32) (x2 : Int32) : Option (Bool) :=
if wib (1 + x1) 25 then
if (h.1 225 (1 + x1).toNatClampNeg) = 0 then
some false
else
if wib x0 12 then
if wib x1 6 then
if (x2 + (h.1 198 x0.toNatClampNeg)) ≤ (h.1 193 x1.toNatClampNeg) then
(wit (fun v : (Int32) => fX11_canWrite_l33 h x0 x1 x2 v) 3000 x2).bind (fun ye28 => match ye28 with
| .inl ye28v =>
some true
| .inr ye28r =>
some ye28r)
else
some false
else none
else none
else none
def fX11_writes_l3 (h : wSt) (v1 : Int32) (v2 : Int32) (v3 : Int32) (v4 : Int32) : Option ((Int32 × wSt) ⊕ ((wSt))) :=
if wib v1 12 then
if (v3 + (h.1 198 v1.toNatClampNeg)) ≤ v4 then
some (.inr h)
else
if wib ((7 + (6 * v2)) + v4) 25 then
wlet (wuI h 225 ((7 + (6 * v2)) + v4).toNatClampNeg ((((h.1 225 ((7 + (6 * v2)) + v4).toNatClampNeg) * 7) + v1) + 1)) (fun yh23 =>
if wib (4 + v2) 25 then
wlet (wuI yh23 225 (4 + v2).toNatClampNeg ((yh23.1 225 (4 + v2).toNatClampNeg) ||| (1 <<< (v4 &&& 31)))) (fun yh25 =>
some (.inl ((v4 + 1), yh25)))
else none)
else none
else none
def fX11_writes (h : wSt) (x0 : Int32) (x1 : Int32) (x2 : Int32) : Option (wSt) :=
(wit (fun v : (Int32 × wSt) => fX11_writes_l3 v.2 x0 x1 x2 v.1) 3000 (x2, h)).bind (fun ye26 =>
some ye26)
def fX11_scrapedBy_b94_20 (h : wSt) (v1 : Int32) (v3 : Int32) (v4 : Int32) (v5 : Int32) (v6 : Int32) : Option ((Int32 × Int32 × Int32) ⊕ ((Int32 × Int32))) :=
some (.inl (v4, v5, (v6 + 1)))
def fX11_scrapedBy_b91_20 (h : wSt) (v1 : Int32) (v3 : Int32) (v4 : Int32) (v6 : Int32) (w0 : Int32) (w1 : Int32) : Option ((Int32 × Int32 × Int32) ⊕ ((Int32 × Int32))) :=
fX11_scrapedBy_b94_20 h v1 v3 v4 (w0 ||| w1) v6
def fX11_scrapedBy_l20 (h : wSt) (v1 : Int32) (v3 : Int32) (v4 : Int32) (v5 : Int32) (v6 : Int32) : Option ((Int32 × Int32 × Int32) ⊕ ((Int32 × Int32))) :=
if 6 ≤ v6 then
some (.inr (v4, v5))
else
if ((v3 >>> (v6 &&& 31)) &&& 1) = 0 then
fX11_scrapedBy_b94_20 h v1 v3 v4 v5 v6
else
if wib ((7 + (6 * v1)) + v6) 25 then
wlet (((h.1 225 ((7 + (6 * v1)) + v6).toNatClampNeg) - (h.1 225 ((7 + (6 * v1)) + v6).toNatClampNeg) / 7 * 7) - 1) (fun yx24 =>
if wib yx24 12 then
wlet (v4 ||| (h.1 197 yx24.toNatClampNeg)) (fun yx26 =>
if (h.1 196 yx24.toNatClampNeg) = 3 then
fX11_scrapedBy_b91_20 h v1 v3 yx26 v6 v5 (1 : Int32)
else
fX11_scrapedBy_b91_20 h v1 v3 yx26 v6 v5 (0 : Int32))
else none)
else none
def fX11_scrapedBy (h : wSt) (x0 : Int32) (x1 : Int32) : Option (Int32) :=
if wib (4 + x0) 25 then
wlet ((h.1 225 (4 + x0).toNatClampNeg) &&& x1) (fun yx22 =>
(wit (fun v : (Int32 × Int32 × Int32) => fX11_scrapedBy_l20 h x0 yx22 v.1 v.2.1 v.2.2) 3000 ((0 : Int32), (0 : Int32), (0 : Int32))).bind (fun ye27 =>
if yx22 = 0 then
some (0 : Int32)
else
some ((1 + ye27.1) + ye27.2)))
else none
def fX11_scrapes_l63 (h : wSt) (v1 : Int32) (v3 : Int32) : Option ((Int32 × wSt) ⊕ ((wSt))) :=
if 6 ≤ v3 then
some (.inr h)
else
if wib ((7 + (6 * v1)) + v3) 25 then
wlet (wuI h 225 ((7 + (6 * v1)) + v3).toNatClampNeg 0) (fun yh29 =>
some (.inl ((v3 + 1), yh29)))
else none
def fX11_scrapes (h : wSt) (x0 : Int32) (x1 : Int32) : Option (wSt) :=
if wib (1 + x0) 25 then
(fX11_scrapedBy h x0 x1).bind (fun yr22 =>
wlet (wuI h 225 (1 + x0).toNatClampNeg ((h.1 225 (1 + x0).toNatClampNeg) - yr22)) (fun yh23 =>
if wib (4 + x0) 25 then
wlet (wuI yh23 225 (4 + x0).toNatClampNeg ((yh23.1 225 (4 + x0).toNatClampNeg) &&& (x1 ^^^ (-1)))) (fun yh25 =>
if (yh25.1 225 (1 + x0).toNatClampNeg) ≤ 0 then
wlet (wuI yh25 225 (1 + x0).toNatClampNeg 0) (fun yh26 =>
wlet (wuI yh26 225 (4 + x0).toNatClampNeg 0) (fun yh27 =>
(wit (fun v : (Int32 × wSt) => fX11_scrapes_l63 v.2 x0 v.1) 3000 ((0 : Int32), yh27)).bind (fun ye30 =>
some ye30)))
else
some yh25)
else none))
else none
def fX11_placeOf_l2 (h : wSt) (v1 : Int32) (v2 : Int32) (v3 : Int32) : Option ((Int32) ⊕ ((Unit) ⊕ (Int32))) :=
if wib v2 6 then
if (h.1 193 v2.toNatClampNeg) ≤ v3 then
some (.inr (.inl ()))
else
(fX11_canWrite h v1 v2 v3).bind (fun yr22 =>
if yr22 = true then
some (.inr (.inr v3))
else
some (.inl (v3 + 1)))
else none
def fX11_placeOf (h : wSt) (x0 : Int32) (x1 : Int32) : Option (Int32) :=
(wit (fun v : (Int32) => fX11_placeOf_l2 h x0 x1 v) 3000 (0 : Int32)).bind (fun ye23 => match ye23 with
| .inl ye23v =>
some (-1 : Int32)
| .inr ye23r =>
some ye23r)
def fX11_readIn_b59_5 (h : wSt) (v1 : Int32) (v2 : Int32) (v4 : Int32) (w0 : Int32) (w1 : Int32) : Option ((Int32 × Int32 × wSt) ⊕ ((Int32 × wSt))) :=
some (.inl ((w0 ||| w1), (v4 + 1), h))
def fX11_readIn_b58_5 (h : wSt) (v1 : Int32) (v2 : Int32) (v4 : Int32) (w0 : Int32) : Option ((Int32 × Int32 × wSt) ⊕ ((Int32 × wSt))) :=
fX11_readIn_b59_5 h v1 v2 v4 w0 (0 : Int32)
def fX11_readIn_b51_5 (h : wSt) (v1 : Int32) (v2 : Int32) (v4 : Int32) (w0 : Int32) : Option ((Int32 × Int32 × wSt) ⊕ ((Int32 × wSt))) :=
fX11_readIn_b59_5 h v1 v2 v4 w0 (1 <<< (v4 &&& 31))
def fX11_readIn_l5 (h : wSt) (v1 : Int32) (v2 : Int32) (v3 : Int32) (v4 : Int32) : Option ((Int32 × Int32 × wSt) ⊕ ((Int32 × wSt))) :=
if wib v1 6 then
if (h.1 193 v1.toNatClampNeg) ≤ v4 then
some (.inr (v3, h))
else
(fX11_dampOf h (h.1 225 0)).bind (fun yr22 =>
(fX11_readBy h v1 v4 yr22).bind (fun yr23 =>
if yr23.1 < 0 then
fX11_readIn_b58_5 yr23.2 v1 v2 v4 v3
else
if v2 < 0 then
fX11_readIn_b51_5 yr23.2 v1 v2 v4 v3
else
if yr23.1 = v2 then
fX11_readIn_b51_5 yr23.2 v1 v2 v4 v3
else
fX11_readIn_b58_5 yr23.2 v1 v2 v4 v3))
else none
def fX11_readIn (h : wSt) (x0 : Int32) (x1 : Int32) : Option (Int32 × wSt) :=
(wit (fun v : (Int32 × Int32 × wSt) => fX11_readIn_l5 v.2.2 x0 x1 v.1 v.2.1) 3000 ((0 : Int32), (0 : Int32), h)).bind (fun ye24 =>
some (ye24.1, ye24.2))
def fX11_madeOf_l4 (h : wSt) (v1 : Int32) (v2 : Int32) (v3 : Int32) : Option ((Int32 × Int32 × wSt) ⊕ ((Int32 × wSt))) :=
if (h.1 190 0) ≤ v3 then
some (.inr (v2, h))
else
(fX11_readIn h v3 v1).bind (fun yr21 =>
(fX11_bits yr21.2 yr21.1).bind (fun yr22 =>
some (.inl ((v2 + yr22), (v3 + 1), yr21.2))))
def fX11_madeOf (h : wSt) (x0 : Int32) : Option (Int32 × wSt) :=
(wit (fun v : (Int32 × Int32 × wSt) => fX11_madeOf_l4 v.2.2 x0 v.1 v.2.1) 3000 ((0 : Int32), (0 : Int32), h)).bind (fun ye23 =>
some (ye23.1, ye23.2))
def fX11_skin (h : wSt) (x0 : Int32) (x1 : Int32) : Option (Int32 × wSt) :=
wlet (wuI h 188 0 0) (fun yh21 =>
(fX11_isSkin yh21 x0).bind (fun yr22 =>
if yr22 = true then
(fX11_within yh21 x1 (0 : Int32) (4 : Int32)).bind (fun yr23 =>
if yr23 = true then
if 2 ≤ x1 then
if x1 = 2 then
if wib x0 6 then
some ((yh21.1 195 x0.toNatClampNeg), yh21)
else none
else
if x1 = 3 then
if wib (4 + x0) 25 then
some ((yh21.1 225 (4 + x0).toNatClampNeg), yh21)
else none
else
(fX11_readIn yh21 x0 (-1 : Int32)).bind (fun yr24 =>
some (yr24.1, yr24.2))
else
if x1 = 0 then
if wib x0 6 then
some ((yh21.1 193 x0.toNatClampNeg), yh21)
else none
else
if wib (1 + x0) 25 then
some ((yh21.1 225 (1 + x0).toNatClampNeg), yh21)
else none
else
some ((-1 : Int32), yh21))
else
some ((-1 : Int32), yh21)))
def fX11_text (h : wSt) (x0 : Int32) (x1 : Int32) : Option (Int32 × wSt) :=
wlet (wuI h 188 0 0) (fun yh21 =>
(fX11_isText yh21 x0).bind (fun yr22 =>
if yr22 = true then
(fX11_within yh21 x1 (0 : Int32) (4 : Int32)).bind (fun yr23 =>
if yr23 = true then
if 3 ≤ x1 then
if x1 = 3 then
(fX11_wholeNow yh21 ).bind (fun yr25 =>
some (((yr25.1 >>> (x0 &&& 31)) &&& 1), yr25.2))
else
(fX11_madeOf yh21 x0).bind (fun yr24 =>
some (yr24.1, yr24.2))
else
if x1 = 0 then
if wib x0 12 then
some ((yh21.1 196 x0.toNatClampNeg), yh21)
else none
else
if x1 = 1 then
if wib x0 12 then
some ((yh21.1 197 x0.toNatClampNeg), yh21)
else none
else
if wib x0 12 then
some ((yh21.1 198 x0.toNatClampNeg), yh21)
else none
else
some ((-2 : Int32), yh21))
else
some ((-2 : Int32), yh21)))
section WX
variable {p : Program} {l : Launch} {e : Env} {s : State} {m : MethodId} {args : Array Value} {below : List Frame} {meth : Method} {c : Code} {D : va_G} {dA : Nat → ClassId} {b0 : Nat} {ad : Nat → Nat} {F : Option Value → wSt → Prop}
set_option maxRecDepth 4000 in
theorem pX11_copies_l3b (X : wCx p s m args meth c RX11 cX11_copies 5 D dA b0 ad) (hr : meth.sig.returnType = none) {h : wSt} {a0 : Nat} {g0 : Nat} {a2 : Nat} {g2 : Nat} {v1 : Int32} {v3 : Int32} {v4 : Int32} (ha0 : S0[a0]? = some (0, g0, [])) (ha2 : S0[a2]? = some (0, g2, [])) {K : (Int32 × wSt) ⊕ ((wSt)) → Prop} (hN : ∀ (n4 : Int32) (nh : wSt), K (.inl (n4, nh)) → wM p l e (wR 1) s m args below meth c 0 0 (wE below args s D dA b0 ad S0 F) 5 D dA b0 ad S0 3 [some (.ref a0), some (.int v1), some (.ref a2), some (.int v3), some (.int n4)] [] nh) (hX0 : ∀ (nh : wSt), K (.inr nh) → wM p l e (wR 1) s m args below meth c 0 0 (wE below args s D dA b0 ad S0 F) 5 D dA b0 ad S0 28 [none, none, none, none, none] [] nh) (hf : wok (fX11_copies_l3 h a0 g0 a2 g2 v1 v3 v4) K) : wM p l e (wR 1) s m args below meth c 0 0 (wE below args s D dA b0 ad S0 F) 5 D dA b0 ad S0 3 [some (.ref a0), some (.int v1), some (.ref a2), some (.int v3), some (.int v4)] [] h := by
  unfold fX11_copies_l3 at hf
  refine w_iload X dX11_copies_3 rfl rfl ?_
  refine w_bipush X dX11_copies_5 rfl cb_25 ?_
  refine w_icmp_ge X dX11_copies_7 rfl (t := 28) rfl (fun hc => ?_) (fun hc => ?_)
  · have hf := wok_t hf hc
    refine w_fg (ls2 := [none, none, none, none, none]) trivial ?_
    exact hX0 _ (wok_s hf)
  · have hf := wok_f hf hc
    refine w_aload_n X dX11_copies_10 rfl rfl rfl ?_
    refine w_iload_n X dX11_copies_11 rfl rfl rfl ?_
    refine w_iload X dX11_copies_12 rfl rfl ?_
    refine w_iadd X dX11_copies_14 rfl ?_
    refine w_aload_n X dX11_copies_15 rfl rfl rfl ?_
    refine w_iload_n X dX11_copies_16 rfl rfl rfl ?_
    refine w_iload X dX11_copies_17 rfl rfl ?_
    refine w_iadd X dX11_copies_19 rfl ?_
    obtain ⟨yhg21, hf⟩ := wok_g hf
    refine w_iald X dX11_copies_20 rfl (j := (v1 + v4).toNatClampNeg) rfl ha0 yhg21 ?_
    obtain ⟨yhg22, hf⟩ := wok_g hf
    refine w_iast X dX11_copies_21 rfl (j := (v3 + v4).toNatClampNeg) rfl ha2 yhg22 ?_
    refine w_nmh (fun yh23 eyh23 => ?_)
    have hf := wok_l hf eyh23
    refine w_iinc X dX11_copies_22 rfl (v := (v4 + 1)) rfl rfl (Nat.le_of_ble_eq_true rfl) (cinc_1 _) (ls' := [some (.ref a0), some (.int v1), some (.ref a2), some (.int v3), some (.int (v4 + 1))]) rfl ?_
    refine w_goto X dX11_copies_25 (t := 3) rfl ?_
    exact hN _ _ (wok_s hf)
set_option maxRecDepth 4000 in
theorem pX11_copies_l3 (X : wCx p s m args meth c RX11 cX11_copies 5 D dA b0 ad) (hr : meth.sig.returnType = none)  {a0 : Nat} {g0 : Nat} {a2 : Nat} {g2 : Nat} {v1 : Int32} {v3 : Int32} (ha0 : S0[a0]? = some (0, g0, [])) (ha2 : S0[a2]? = some (0, g2, [])) {KE : (wSt) → Prop} (hX0 : ∀ (nh : wSt), KE (nh) → wM p l e (wR 1) s m args below meth c 0 0 (wE below args s D dA b0 ad S0 F) 5 D dA b0 ad S0 28 [none, none, none, none, none] [] nh) : ∀ (n : Nat) (v4 : Int32) (h : wSt), wok (wit (fun v : (Int32 × wSt) => fX11_copies_l3 v.2 a0 g0 a2 g2 v1 v3 v.1) n (v4, h)) KE → wM p l e (wR 1) s m args below meth c 0 0 (wE below args s D dA b0 ad S0 F) 5 D dA b0 ad S0 3 [some (.ref a0), some (.int v1), some (.ref a2), some (.int v3), some (.int v4)] [] h := by
  have key := wit_M (b := (fun v : (Int32 × wSt) => fX11_copies_l3 v.2 a0 g0 a2 g2 v1 v3 v.1)) (KE := KE) (G := fun v => wM p l e (wR 1) s m args below meth c 0 0 (wE below args s D dA b0 ad S0 F) 5 D dA b0 ad S0 3 [some (.ref a0), some (.int v1), some (.ref a2), some (.int v3), some (.int v.1)] [] v.2) (fun v K hN hE hf => pX11_copies_l3b X hr ha0 ha2 (fun n4 nh hz => hN (n4, nh) hz) (fun z0 hz => hX0 z0 (hE _ hz)) hf)
  exact fun n v4 h hf => key n (v4, h) hf
set_option maxRecDepth 4000 in
theorem pX11_copies_b0 (X : wCx p s m args meth c RX11 cX11_copies 5 D dA b0 ad) (hr : meth.sig.returnType = none) {h : wSt} {a0 : Nat} {g0 : Nat} {x1 : Int32} {a2 : Nat} {g2 : Nat} {x3 : Int32} (ha0 : S0[a0]? = some (0, g0, [])) (ha2 : S0[a2]? = some (0, g2, [])) {K : wSt → Prop} (hT : ∀ (h2 : wSt), K h2 → F none h2) (hf : wok (fX11_copies h a0 g0 x1 a2 g2 x3) K) : wM p l e (wR 1) s m args below meth c 0 0 (wE below args s D dA b0 ad S0 F) 5 D dA b0 ad S0 0 [some (.ref a0), some (.int x1), some (.ref a2), some (.int x3), none] [] h := by
  unfold fX11_copies at hf
  refine w_iconst X dX11_copies_0 rfl ci_0 ?_
  refine w_istore X dX11_copies_1 rfl rfl (Nat.le_of_ble_eq_true rfl) (ls' := [some (.ref a0), some (.int x1), some (.ref a2), some (.int x3), some (.int 0)]) rfl ?_
  obtain ⟨ye24, hye24, hf⟩ := wok_b hf
  refine pX11_copies_l3 X hr ha0 ha2 (KE := fun z => ye24 = z) ?_ 3000 _ _ ⟨ye24, hye24, rfl⟩
  · intro yz25 hz
    subst hz
    exact w_vret X dX11_copies_28 hr (hT _ (wok_s hf))
set_option maxRecDepth 4000 in
theorem kX11_copies (l : Launch) {h : wSt} {a0 : Nat} {g0 : Nat} {x1 : Int32} {a2 : Nat} {g2 : Nat} {x3 : Int32} (ha0 : S0[a0]? = some (0, g0, [])) (ha2 : S0[a2]? = some (0, g2, [])) {res : wSt} (hf : fX11_copies h a0 g0 x1 a2 g2 x3 = some res) : wC l yX11_copies cX11_copies 5 none 1 S0 [.ref a0, .int x1, .ref a2, .int x3] h (wFV (fun b => res = b)) := by
  refine w_meth2 1 (by decide) (Nat.le_of_ble_eq_true rfl) (ls := [some (.ref a0), some (.int x1), some (.ref a2), some (.int x3), none]) rfl ?_
  intro p e s m args below meth c D dA b0 ad X hr
  exact pX11_copies_b0 X hr ha0 ha2 (K := fun z => res = z) (fun h2 hz => ⟨rfl, hz⟩) ⟨res, hf, rfl⟩
set_option maxRecDepth 4000 in
theorem pX11_readsLine_b180 (X : wCx p s m args meth c RX11 cX11_readsLine 3 D dA b0 ad) (hr : meth.sig.returnType = (some .boolean)) {h : wSt} {K : Bool × wSt → Prop} (hT : ∀ (x : Bool) (h2 : wSt), K (x, h2) → F (some (.int (wb x))) h2)  (hf : wok (fX11_readsLine_b180 h ) K) : wM p l e (wR 4) s m args below meth c 0 0 (wE below args s D dA b0 ad S0 F) 3 D dA b0 ad S0 180 [some (.ref 188), none, none] [] h := by
  unfold fX11_readsLine_b180 at hf
  refine w_aload_n X dX11_readsLine_180 rfl rfl rfl ?_
  refine w_getR X dX11_readsLine_181 rfl fl_X11_90 S0_188 rfl ?_
  refine w_iconst X dX11_readsLine_184 rfl ci_5 ?_
  refine w_dup2 X dX11_readsLine_185 rfl rfl rfl ?_
  refine w_iald X dX11_readsLine_186 rfl (j := 5) cn_5 S0_215 (show wib 5 6 by decide) ?_
  refine w_iconst X dX11_readsLine_187 rfl ci_1 ?_
  refine w_iadd X dX11_readsLine_188 rfl ?_
  refine w_iast X dX11_readsLine_189 rfl (j := 5) cn_5 S0_215 (show wib 5 6 by decide) ?_
  refine w_nmh (fun yh28 eyh28 => ?_)
  have hf := wok_l hf eyh28
  refine w_aload_n X dX11_readsLine_190 rfl rfl rfl ?_
  obtain ⟨yr29, eyr29, hf⟩ := wok_b hf
  refine w_callV X dX11_readsLine_191 rfl vl_X11_296 (kX11_closes l  eyr29) S0_188 (As := []) (st := []) rfl rfl (Nat.le_of_ble_eq_true rfl) ⟨Nat.le_of_ble_eq_true rfl, Nat.le_of_ble_eq_true rfl⟩ ⟨Nat.zero_le _, Nat.zero_le _⟩ (fun r h2 hF => ?_)
  obtain ⟨_, rfl, rfl, rfl⟩ := hF
  show wM p l e (wR 4) s m args below meth c 0 0 (wE below args s D dA b0 ad S0 F) 3 D dA b0 ad S0 194 [some (.ref 188), none, none] [.int (wb yr29.1)] yr29.2
  exact w_zret X dX11_readsLine_194 hr (wb_n _) (hT _ _ (wok_s hf))
set_option maxRecDepth 4000 in
theorem pX11_readsLine_b155 (X : wCx p s m args meth c RX11 cX11_readsLine 3 D dA b0 ad) (hr : meth.sig.returnType = (some .boolean)) {h : wSt} {v1 : Int32} {v2 : Int32} {K : Bool × wSt → Prop} (hT : ∀ (x : Bool) (h2 : wSt), K (x, h2) → F (some (.int (wb x))) h2)  (hf : wok (fX11_readsLine_b155 h v1 v2) K) : wM p l e (wR 4) s m args below meth c 0 0 (wE below args s D dA b0 ad S0 F) 3 D dA b0 ad S0 155 [some (.ref 188), some (.int v1), some (.int v2)] [] h := by
  unfold fX11_readsLine_b155 at hf
  refine w_iload_n X dX11_readsLine_155 rfl rfl rfl ?_
  refine w_if_ne X dX11_readsLine_156 rfl (t := 180) rfl (fun hc => ?_) (fun hc => ?_)
  · have hf := wok_f hf hc
    refine w_fg (ls2 := [some (.ref 188), none, none]) ⟨rfl, trivial⟩ ?_
    exact pX11_readsLine_b180 X hr  hT hf
  · have hf := wok_t hf hc
    refine w_aload_n X dX11_readsLine_159 rfl rfl rfl ?_
    refine w_iconst X dX11_readsLine_160 rfl ci_0 ?_
    refine w_iconst X dX11_readsLine_161 rfl ci_5 ?_
    obtain ⟨yr30, eyr30, hf⟩ := wok_b hf
    refine w_callV X dX11_readsLine_162 rfl vl_X11_272 (kX11_needsNumber l  eyr30) S0_188 (As := [.int 0, .int 5]) (st := []) rfl rfl (Nat.le_of_ble_eq_true rfl) ⟨Nat.le_of_ble_eq_true rfl, Nat.le_of_ble_eq_true rfl⟩ ⟨Nat.zero_le _, Nat.zero_le _⟩ (fun r h2 hF => ?_)
    obtain ⟨_, rfl, rfl, rfl⟩ := hF
    show wM p l e (wR 4) s m args below meth c 0 0 (wE below args s D dA b0 ad S0 F) 3 D dA b0 ad S0 165 [some (.ref 188), some (.int v1), some (.int v2)] [.int (wb yr30.1)] yr30.2
    refine w_if_ne X dX11_readsLine_165 rfl (t := 170) rfl (fun hc => ?_) (fun hc => ?_)
    · have hf := wok_t hf (wb_n0 hc)
      refine w_aload_n X dX11_readsLine_170 rfl rfl rfl ?_
      refine w_getR X dX11_readsLine_171 rfl fl_X11_102 S0_188 rfl ?_
      refine w_iload_n X dX11_readsLine_174 rfl rfl rfl ?_
      refine w_aload_n X dX11_readsLine_175 rfl rfl rfl ?_
      refine w_getI X dX11_readsLine_176 rfl fl_X11_269 S0_188 rfl ?_
      obtain ⟨yhg31, hf⟩ := wok_g hf
      refine w_iast X dX11_readsLine_179 rfl (j := v2.toNatClampNeg) rfl S0_219 yhg31 ?_
      refine w_nmh (fun yh32 eyh32 => ?_)
      have hf := wok_l hf eyh32
      refine w_fg (ls2 := [some (.ref 188), none, none]) ⟨rfl, trivial⟩ ?_
      exact pX11_readsLine_b180 X hr  hT hf
    · have hf := wok_f hf (wb_0 hc)
      refine w_iconst X dX11_readsLine_168 rfl ci_0 ?_
      exact w_zret X dX11_readsLine_169 hr rfl (hT false _ (wok_s hf))
set_option maxRecDepth 4000 in
theorem pX11_readsLine_b130 (X : wCx p s m args meth c RX11 cX11_readsLine 3 D dA b0 ad) (hr : meth.sig.returnType = (some .boolean)) {h : wSt} {v1 : Int32} {v2 : Int32} {K : Bool × wSt → Prop} (hT : ∀ (x : Bool) (h2 : wSt), K (x, h2) → F (some (.int (wb x))) h2)  (hf : wok (fX11_readsLine_b130 h v1 v2) K) : wM p l e (wR 4) s m args below meth c 0 0 (wE below args s D dA b0 ad S0 F) 3 D dA b0 ad S0 130 [some (.ref 188), some (.int v1), some (.int v2)] [] h := by
  unfold fX11_readsLine_b130 at hf
  refine w_iload_n X dX11_readsLine_130 rfl rfl rfl ?_
  refine w_iconst X dX11_readsLine_131 rfl ci_3 ?_
  refine w_icmp_eq X dX11_readsLine_132 rfl (t := 155) rfl (fun hc => ?_) (fun hc => ?_)
  · have hf := wok_t hf hc
    exact pX11_readsLine_b155 X hr  hT hf
  · have hf := wok_f hf hc
    refine w_aload_n X dX11_readsLine_135 rfl rfl rfl ?_
    refine w_iconst X dX11_readsLine_136 rfl ci_0 ?_
    obtain ⟨yr33, eyr33, hf⟩ := wok_b hf
    refine w_callV X dX11_readsLine_137 rfl vl_X11_299 (kX11_needsSkin l  eyr33) S0_188 (As := [.int 0]) (st := []) rfl rfl (Nat.le_of_ble_eq_true rfl) ⟨Nat.le_of_ble_eq_true rfl, Nat.le_of_ble_eq_true rfl⟩ ⟨Nat.zero_le _, Nat.zero_le _⟩ (fun r h2 hF => ?_)
    obtain ⟨_, rfl, rfl, rfl⟩ := hF
    show wM p l e (wR 4) s m args below meth c 0 0 (wE below args s D dA b0 ad S0 F) 3 D dA b0 ad S0 140 [some (.ref 188), some (.int v1), some (.int v2)] [.int (wb yr33.1)] yr33.2
    refine w_if_ne X dX11_readsLine_140 rfl (t := 145) rfl (fun hc => ?_) (fun hc => ?_)
    · have hf := wok_t hf (wb_n0 hc)
      refine w_aload_n X dX11_readsLine_145 rfl rfl rfl ?_
      refine w_getR X dX11_readsLine_146 rfl fl_X11_99 S0_188 rfl ?_
      refine w_iload_n X dX11_readsLine_149 rfl rfl rfl ?_
      refine w_aload_n X dX11_readsLine_150 rfl rfl rfl ?_
      refine w_getI X dX11_readsLine_151 rfl fl_X11_269 S0_188 rfl ?_
      obtain ⟨yhg34, hf⟩ := wok_g hf
      refine w_iast X dX11_readsLine_154 rfl (j := v2.toNatClampNeg) rfl S0_218 yhg34 ?_
      refine w_nmh (fun yh35 eyh35 => ?_)
      have hf := wok_l hf eyh35
      exact pX11_readsLine_b155 X hr  hT hf
    · have hf := wok_f hf (wb_0 hc)
      refine w_iconst X dX11_readsLine_143 rfl ci_0 ?_
      exact w_zret X dX11_readsLine_144 hr rfl (hT false _ (wok_s hf))
set_option maxRecDepth 4000 in
theorem pX11_readsLine_b57 (X : wCx p s m args meth c RX11 cX11_readsLine 3 D dA b0 ad) (hr : meth.sig.returnType = (some .boolean)) {h : wSt} {w0 : Int32} {K : Bool × wSt → Prop} (hT : ∀ (x : Bool) (h2 : wSt), K (x, h2) → F (some (.int (wb x))) h2)  (hf : wok (fX11_readsLine_b57 h w0) K) : wM p l e (wR 4) s m args below meth c 0 0 (wE below args s D dA b0 ad S0 F) 3 D dA b0 ad S0 57 [some (.ref 188), none, none] [.int w0] h := by
  unfold fX11_readsLine_b57 at hf
  refine w_istore_n X dX11_readsLine_57 rfl rfl rfl (Nat.le_of_ble_eq_true rfl) (ls' := [some (.ref 188), some (.int w0), none]) rfl ?_
  refine w_iload_n X dX11_readsLine_58 rfl rfl rfl ?_
  refine w_if_ge X dX11_readsLine_59 rfl (t := 68) rfl (fun hc => ?_) (fun hc => ?_)
  · have hf := wok_t hf hc
    refine w_aload_n X dX11_readsLine_68 rfl rfl rfl ?_
    refine w_getR X dX11_readsLine_69 rfl fl_X11_90 S0_188 rfl ?_
    refine w_iconst X dX11_readsLine_72 rfl ci_5 ?_
    refine w_iald X dX11_readsLine_73 rfl (j := 5) cn_5 S0_215 (show wib 5 6 by decide) ?_
    refine w_bipush X dX11_readsLine_74 rfl cb_40 ?_
    refine w_icmp_ne X dX11_readsLine_76 rfl (t := 85) rfl (fun hc => ?_) (fun hc => ?_)
    · have hf := wok_f hf hc
      refine w_aload_n X dX11_readsLine_85 rfl rfl rfl ?_
      obtain ⟨yr25, eyr25, hf⟩ := wok_b hf
      refine w_callV X dX11_readsLine_86 rfl vl_X11_215 (kX11_nextToken l  eyr25) S0_188 (As := []) (st := []) rfl rfl (Nat.le_of_ble_eq_true rfl) ⟨Nat.le_of_ble_eq_true rfl, Nat.le_of_ble_eq_true rfl⟩ ⟨Nat.zero_le _, Nat.zero_le _⟩ (fun r h2 hF => ?_)
      obtain ⟨rfl, rfl⟩ := hF
      show wM p l e (wR 4) s m args below meth c 0 0 (wE below args s D dA b0 ad S0 F) 3 D dA b0 ad S0 89 [some (.ref 188), some (.int w0), none] [] yr25
      refine w_sipush X dX11_readsLine_89 rfl cs_200 ?_
      refine w_aload_n X dX11_readsLine_92 rfl rfl rfl ?_
      refine w_getR X dX11_readsLine_93 rfl fl_X11_90 S0_188 rfl ?_
      refine w_iconst X dX11_readsLine_96 rfl ci_5 ?_
      refine w_iald X dX11_readsLine_97 rfl (j := 5) cn_5 S0_215 (show wib 5 6 by decide) ?_
      refine w_iadd X dX11_readsLine_98 rfl ?_
      refine w_istore_n X dX11_readsLine_99 rfl rfl rfl (Nat.le_of_ble_eq_true rfl) (ls' := [some (.ref 188), some (.int w0), some (.int (200 + (yr25.1 215 5)))]) rfl ?_
      refine w_aload_n X dX11_readsLine_100 rfl rfl rfl ?_
      refine w_getR X dX11_readsLine_101 rfl fl_X11_93 S0_188 rfl ?_
      refine w_iload_n X dX11_readsLine_104 rfl rfl rfl ?_
      refine w_iload_n X dX11_readsLine_105 rfl rfl rfl ?_
      obtain ⟨yhg26, hf⟩ := wok_g hf
      refine w_iast X dX11_readsLine_106 rfl (j := (200 + (yr25.1 215 5)).toNatClampNeg) rfl S0_216 yhg26 ?_
      refine w_nmh (fun yh27 eyh27 => ?_)
      have hf := wok_l hf eyh27
      refine w_iload_n X dX11_readsLine_107 rfl rfl rfl ?_
      refine w_if_ne X dX11_readsLine_108 rfl (t := 130) rfl (fun hc => ?_) (fun hc => ?_)
      · have hf := wok_f hf hc
        exact pX11_readsLine_b130 X hr  hT hf
      · have hf := wok_t hf hc
        refine w_aload_n X dX11_readsLine_111 rfl rfl rfl ?_
        obtain ⟨yr36, eyr36, hf⟩ := wok_b hf
        refine w_callV X dX11_readsLine_112 rfl vl_X11_331 (kX11_needsText l  eyr36) S0_188 (As := []) (st := []) rfl rfl (Nat.le_of_ble_eq_true rfl) ⟨Nat.le_of_ble_eq_true rfl, Nat.le_of_ble_eq_true rfl⟩ ⟨Nat.zero_le _, Nat.zero_le _⟩ (fun r h2 hF => ?_)
        obtain ⟨_, rfl, rfl, rfl⟩ := hF
        show wM p l e (wR 4) s m args below meth c 0 0 (wE below args s D dA b0 ad S0 F) 3 D dA b0 ad S0 115 [some (.ref 188), some (.int w0), some (.int (200 + (yr25.1 215 5)))] [.int (wb yr36.1)] yr36.2
        refine w_if_ne X dX11_readsLine_115 rfl (t := 120) rfl (fun hc => ?_) (fun hc => ?_)
        · have hf := wok_t hf (wb_n0 hc)
          refine w_aload_n X dX11_readsLine_120 rfl rfl rfl ?_
          refine w_getR X dX11_readsLine_121 rfl fl_X11_96 S0_188 rfl ?_
          refine w_iload_n X dX11_readsLine_124 rfl rfl rfl ?_
          refine w_aload_n X dX11_readsLine_125 rfl rfl rfl ?_
          refine w_getI X dX11_readsLine_126 rfl fl_X11_269 S0_188 rfl ?_
          refine w_iast X dX11_readsLine_129 rfl (j := (200 + (yr25.1 215 5)).toNatClampNeg) rfl S0_217 yhg26 ?_
          refine w_nmh (fun yh37 eyh37 => ?_)
          have hf := wok_l hf eyh37
          exact pX11_readsLine_b130 X hr  hT hf
        · have hf := wok_f hf (wb_0 hc)
          refine w_iconst X dX11_readsLine_118 rfl ci_0 ?_
          exact w_zret X dX11_readsLine_119 hr rfl (hT false _ (wok_s hf))
    · have hf := wok_t hf hc
      refine w_aload_n X dX11_readsLine_79 rfl rfl rfl ?_
      refine w_iconst X dX11_readsLine_80 rfl ci_5 ?_
      obtain ⟨yr38, eyr38, hf⟩ := wok_b hf
      refine w_callV X dX11_readsLine_81 rfl vl_X11_208 (kX11_fails l  eyr38) S0_188 (As := [.int 5]) (st := []) rfl rfl (Nat.le_of_ble_eq_true rfl) ⟨Nat.le_of_ble_eq_true rfl, Nat.le_of_ble_eq_true rfl⟩ ⟨Nat.zero_le _, Nat.zero_le _⟩ (fun r h2 hF => ?_)
      obtain ⟨_, rfl, rfl, rfl⟩ := hF
      show wM p l e (wR 4) s m args below meth c 0 0 (wE below args s D dA b0 ad S0 F) 3 D dA b0 ad S0 84 [some (.ref 188), some (.int w0), none] [.int (wb yr38.1)] yr38.2
      exact w_zret X dX11_readsLine_84 hr (wb_n _) (hT _ _ (wok_s hf))
  · have hf := wok_f hf hc
    refine w_aload_n X dX11_readsLine_62 rfl rfl rfl ?_
    refine w_iconst X dX11_readsLine_63 rfl ci_1 ?_
    obtain ⟨yr39, eyr39, hf⟩ := wok_b hf
    refine w_callV X dX11_readsLine_64 rfl vl_X11_208 (kX11_fails l  eyr39) S0_188 (As := [.int 1]) (st := []) rfl rfl (Nat.le_of_ble_eq_true rfl) ⟨Nat.le_of_ble_eq_true rfl, Nat.le_of_ble_eq_true rfl⟩ ⟨Nat.zero_le _, Nat.zero_le _⟩ (fun r h2 hF => ?_)
    obtain ⟨_, rfl, rfl, rfl⟩ := hF
    show wM p l e (wR 4) s m args below meth c 0 0 (wE below args s D dA b0 ad S0 F) 3 D dA b0 ad S0 67 [some (.ref 188), some (.int w0), none] [.int (wb yr39.1)] yr39.2
    exact w_zret X dX11_readsLine_67 hr (wb_n _) (hT _ _ (wok_s hf))
set_option maxRecDepth 4000 in
theorem pX11_readsLine_b0 (X : wCx p s m args meth c RX11 cX11_readsLine 3 D dA b0 ad) (hr : meth.sig.returnType = (some .boolean)) {h : wSt} {K : Bool × wSt → Prop} (hT : ∀ (x : Bool) (h2 : wSt), K (x, h2) → F (some (.int (wb x))) h2) (hf : wok (fX11_readsLine h ) K) : wM p l e (wR 4) s m args below meth c 0 0 (wE below args s D dA b0 ad S0 F) 3 D dA b0 ad S0 0 [some (.ref 188), none, none] [] h := by
  unfold fX11_readsLine at hf
  refine w_aload_n X dX11_readsLine_0 rfl rfl rfl ?_
  refine w_ldc2 X dX11_readsLine_1 rfl wd_1411 ?_
  obtain ⟨yr21, eyr21, hf⟩ := wok_b hf
  refine w_callV X dX11_readsLine_4 rfl vl_X11_200 (kX11_isWord l  eyr21) S0_188 (As := [.long 12584543]) (st := []) rfl rfl (Nat.le_of_ble_eq_true rfl) ⟨Nat.le_of_ble_eq_true rfl, Nat.le_of_ble_eq_true rfl⟩ ⟨Nat.zero_le _, Nat.zero_le _⟩ (fun r h2 hF => ?_)
  obtain ⟨_, rfl, rfl, rfl⟩ := hF
  show wM p l e (wR 4) s m args below meth c 0 0 (wE below args s D dA b0 ad S0 F) 3 D dA b0 ad S0 7 [some (.ref 188), none, none] [.int (wb yr21)] h
  refine w_if_eq X dX11_readsLine_7 rfl (t := 14) rfl (fun hc => ?_) (fun hc => ?_)
  · have hf := wok_f hf (wb_0 hc)
    refine w_aload_n X dX11_readsLine_14 rfl rfl rfl ?_
    refine w_ldc2 X dX11_readsLine_15 rfl wd_1412 ?_
    obtain ⟨yr22, eyr22, hf⟩ := wok_b hf
    refine w_callV X dX11_readsLine_18 rfl vl_X11_200 (kX11_isWord l  eyr22) S0_188 (As := [.long 274579016]) (st := []) rfl rfl (Nat.le_of_ble_eq_true rfl) ⟨Nat.le_of_ble_eq_true rfl, Nat.le_of_ble_eq_true rfl⟩ ⟨Nat.zero_le _, Nat.zero_le _⟩ (fun r h2 hF => ?_)
    obtain ⟨_, rfl, rfl, rfl⟩ := hF
    show wM p l e (wR 4) s m args below meth c 0 0 (wE below args s D dA b0 ad S0 F) 3 D dA b0 ad S0 21 [some (.ref 188), none, none] [.int (wb yr22)] h
    refine w_if_eq X dX11_readsLine_21 rfl (t := 28) rfl (fun hc => ?_) (fun hc => ?_)
    · have hf := wok_f hf (wb_0 hc)
      refine w_aload_n X dX11_readsLine_28 rfl rfl rfl ?_
      refine w_ldc2 X dX11_readsLine_29 rfl wd_1413 ?_
      obtain ⟨yr23, eyr23, hf⟩ := wok_b hf
      refine w_callV X dX11_readsLine_32 rfl vl_X11_200 (kX11_isWord l  eyr23) S0_188 (As := [.long 10793335]) (st := []) rfl rfl (Nat.le_of_ble_eq_true rfl) ⟨Nat.le_of_ble_eq_true rfl, Nat.le_of_ble_eq_true rfl⟩ ⟨Nat.zero_le _, Nat.zero_le _⟩ (fun r h2 hF => ?_)
      obtain ⟨_, rfl, rfl, rfl⟩ := hF
      show wM p l e (wR 4) s m args below meth c 0 0 (wE below args s D dA b0 ad S0 F) 3 D dA b0 ad S0 35 [some (.ref 188), none, none] [.int (wb yr23)] h
      refine w_if_eq X dX11_readsLine_35 rfl (t := 42) rfl (fun hc => ?_) (fun hc => ?_)
      · have hf := wok_f hf (wb_0 hc)
        refine w_aload_n X dX11_readsLine_42 rfl rfl rfl ?_
        refine w_ldc2 X dX11_readsLine_43 rfl wd_1414 ?_
        obtain ⟨yr24, eyr24, hf⟩ := wok_b hf
        refine w_callV X dX11_readsLine_46 rfl vl_X11_200 (kX11_isWord l  eyr24) S0_188 (As := [.long 456500]) (st := []) rfl rfl (Nat.le_of_ble_eq_true rfl) ⟨Nat.le_of_ble_eq_true rfl, Nat.le_of_ble_eq_true rfl⟩ ⟨Nat.zero_le _, Nat.zero_le _⟩ (fun r h2 hF => ?_)
        obtain ⟨_, rfl, rfl, rfl⟩ := hF
        show wM p l e (wR 4) s m args below meth c 0 0 (wE below args s D dA b0 ad S0 F) 3 D dA b0 ad S0 49 [some (.ref 188), none, none] [.int (wb yr24)] h
        refine w_if_eq X dX11_readsLine_49 rfl (t := 56) rfl (fun hc => ?_) (fun hc => ?_)
        · have hf := wok_f hf (wb_0 hc)
          refine w_iconst X dX11_readsLine_56 rfl ci_m1 ?_
          exact pX11_readsLine_b57 X hr  hT hf
        · have hf := wok_t hf (wb_n0 hc)
          refine w_iconst X dX11_readsLine_52 rfl ci_3 ?_
          refine w_goto X dX11_readsLine_53 (t := 57) rfl ?_
          exact pX11_readsLine_b57 X hr  hT hf
      · have hf := wok_t hf (wb_n0 hc)
        refine w_iconst X dX11_readsLine_38 rfl ci_2 ?_
        refine w_goto X dX11_readsLine_39 (t := 57) rfl ?_
        exact pX11_readsLine_b57 X hr  hT hf
    · have hf := wok_t hf (wb_n0 hc)
      refine w_iconst X dX11_readsLine_24 rfl ci_1 ?_
      refine w_goto X dX11_readsLine_25 (t := 57) rfl ?_
      exact pX11_readsLine_b57 X hr  hT hf
  · have hf := wok_t hf (wb_n0 hc)
    refine w_iconst X dX11_readsLine_10 rfl ci_0 ?_
    refine w_goto X dX11_readsLine_11 (t := 57) rfl ?_
    exact pX11_readsLine_b57 X hr  hT hf
set_option maxRecDepth 4000 in
theorem kX11_readsLine (l : Launch) {h : wSt} {res : Bool × wSt} (hf : fX11_readsLine h  = some res) : wC l yX11_readsLine cX11_readsLine 3 (some .boolean) 4 S0 [.ref 188] h (wFZ (fun a b => res.1 = a ∧ res.2 = b)) := by
  refine w_meth2 2 (by decide) (Nat.le_of_ble_eq_true rfl) (ls := [some (.ref 188), none, none]) rfl ?_
  intro p e s m args below meth c D dA b0 ad X hr
  exact pX11_readsLine_b0 X hr  (K := fun z => res = z) (fun x h2 hz => ⟨x, rfl, by rw [hz], by rw [hz]⟩) ⟨res, hf, rfl⟩
set_option maxRecDepth 4000 in
theorem pX11_laysLines_l14b (X : wCx p s m args meth c RX11 cX11_laysLines 4 D dA b0 ad) (hr : meth.sig.returnType = none) {h : wSt} {v1 : Int32} {v2 : Int32} {v3 : Int32} {K : (Int32 × wSt) ⊕ ((wSt)) → Prop} (hN : ∀ (n3 : Int32) (nh : wSt), K (.inl (n3, nh)) → wM p l e (wR 1) s m args below meth c 0 0 (wE below args s D dA b0 ad S0 F) 4 D dA b0 ad S0 14 [some (.ref 188), some (.int v1), some (.int v2), some (.int n3)] [] nh) (hX0 : ∀ (nh : wSt), K (.inr nh) → wM p l e (wR 1) s m args below meth c 0 0 (wE below args s D dA b0 ad S0 F) 4 D dA b0 ad S0 114 [none, none, none, none] [] nh) (hf : wok (fX11_laysLines_l14 h v1 v2 v3) K) : wM p l e (wR 1) s m args below meth c 0 0 (wE below args s D dA b0 ad S0 F) 4 D dA b0 ad S0 14 [some (.ref 188), some (.int v1), some (.int v2), some (.int v3)] [] h := by
  unfold fX11_laysLines_l14 at hf
  refine w_iload_n X dX11_laysLines_14 rfl rfl rfl ?_
  refine w_bipush X dX11_laysLines_15 rfl cb_40 ?_
  refine w_icmp_ge X dX11_laysLines_17 rfl (t := 114) rfl (fun hc => ?_) (fun hc => ?_)
  · have hf := wok_t hf hc
    refine w_fg (ls2 := [none, none, none, none]) trivial ?_
    exact hX0 _ (wok_s hf)
  · have hf := wok_f hf hc
    refine w_aload_n X dX11_laysLines_20 rfl rfl rfl ?_
    refine w_getR X dX11_laysLines_21 rfl fl_X11_93 S0_188 rfl ?_
    refine w_bipush X dX11_laysLines_24 rfl cb_40 ?_
    refine w_iload_n X dX11_laysLines_26 rfl rfl rfl ?_
    refine w_imul X dX11_laysLines_27 rfl ?_
    refine w_iload_n X dX11_laysLines_28 rfl rfl rfl ?_
    refine w_iadd X dX11_laysLines_29 rfl ?_
    refine w_aload_n X dX11_laysLines_30 rfl rfl rfl ?_
    refine w_getR X dX11_laysLines_31 rfl fl_X11_93 S0_188 rfl ?_
    refine w_bipush X dX11_laysLines_34 rfl cb_40 ?_
    refine w_iload_n X dX11_laysLines_36 rfl rfl rfl ?_
    refine w_imul X dX11_laysLines_37 rfl ?_
    refine w_iload_n X dX11_laysLines_38 rfl rfl rfl ?_
    refine w_iadd X dX11_laysLines_39 rfl ?_
    obtain ⟨yhg24, hf⟩ := wok_g hf
    refine w_iald X dX11_laysLines_40 rfl (j := ((40 * v1) + v3).toNatClampNeg) rfl S0_216 yhg24 ?_
    obtain ⟨yhg25, hf⟩ := wok_g hf
    refine w_iast X dX11_laysLines_41 rfl (j := ((40 * v2) + v3).toNatClampNeg) rfl S0_216 yhg25 ?_
    refine w_nmh (fun yh26 eyh26 => ?_)
    have hf := wok_l hf eyh26
    refine w_aload_n X dX11_laysLines_42 rfl rfl rfl ?_
    refine w_getR X dX11_laysLines_43 rfl fl_X11_96 S0_188 rfl ?_
    refine w_bipush X dX11_laysLines_46 rfl cb_40 ?_
    refine w_iload_n X dX11_laysLines_48 rfl rfl rfl ?_
    refine w_imul X dX11_laysLines_49 rfl ?_
    refine w_iload_n X dX11_laysLines_50 rfl rfl rfl ?_
    refine w_iadd X dX11_laysLines_51 rfl ?_
    refine w_aload_n X dX11_laysLines_52 rfl rfl rfl ?_
    refine w_getR X dX11_laysLines_53 rfl fl_X11_96 S0_188 rfl ?_
    refine w_bipush X dX11_laysLines_56 rfl cb_40 ?_
    refine w_iload_n X dX11_laysLines_58 rfl rfl rfl ?_
    refine w_imul X dX11_laysLines_59 rfl ?_
    refine w_iload_n X dX11_laysLines_60 rfl rfl rfl ?_
    refine w_iadd X dX11_laysLines_61 rfl ?_
    refine w_iald X dX11_laysLines_62 rfl (j := ((40 * v1) + v3).toNatClampNeg) rfl S0_217 yhg24 ?_
    refine w_iast X dX11_laysLines_63 rfl (j := ((40 * v2) + v3).toNatClampNeg) rfl S0_217 yhg25 ?_
    refine w_nmh (fun yh27 eyh27 => ?_)
    have hf := wok_l hf eyh27
    refine w_aload_n X dX11_laysLines_64 rfl rfl rfl ?_
    refine w_getR X dX11_laysLines_65 rfl fl_X11_99 S0_188 rfl ?_
    refine w_bipush X dX11_laysLines_68 rfl cb_40 ?_
    refine w_iload_n X dX11_laysLines_70 rfl rfl rfl ?_
    refine w_imul X dX11_laysLines_71 rfl ?_
    refine w_iload_n X dX11_laysLines_72 rfl rfl rfl ?_
    refine w_iadd X dX11_laysLines_73 rfl ?_
    refine w_aload_n X dX11_laysLines_74 rfl rfl rfl ?_
    refine w_getR X dX11_laysLines_75 rfl fl_X11_99 S0_188 rfl ?_
    refine w_bipush X dX11_laysLines_78 rfl cb_40 ?_
    refine w_iload_n X dX11_laysLines_80 rfl rfl rfl ?_
    refine w_imul X dX11_laysLines_81 rfl ?_
    refine w_iload_n X dX11_laysLines_82 rfl rfl rfl ?_
    refine w_iadd X dX11_laysLines_83 rfl ?_
    refine w_iald X dX11_laysLines_84 rfl (j := ((40 * v1) + v3).toNatClampNeg) rfl S0_218 yhg24 ?_
    refine w_iast X dX11_laysLines_85 rfl (j := ((40 * v2) + v3).toNatClampNeg) rfl S0_218 yhg25 ?_
    refine w_nmh (fun yh28 eyh28 => ?_)
    have hf := wok_l hf eyh28
    refine w_aload_n X dX11_laysLines_86 rfl rfl rfl ?_
    refine w_getR X dX11_laysLines_87 rfl fl_X11_102 S0_188 rfl ?_
    refine w_bipush X dX11_laysLines_90 rfl cb_40 ?_
    refine w_iload_n X dX11_laysLines_92 rfl rfl rfl ?_
    refine w_imul X dX11_laysLines_93 rfl ?_
    refine w_iload_n X dX11_laysLines_94 rfl rfl rfl ?_
    refine w_iadd X dX11_laysLines_95 rfl ?_
    refine w_aload_n X dX11_laysLines_96 rfl rfl rfl ?_
    refine w_getR X dX11_laysLines_97 rfl fl_X11_102 S0_188 rfl ?_
    refine w_bipush X dX11_laysLines_100 rfl cb_40 ?_
    refine w_iload_n X dX11_laysLines_102 rfl rfl rfl ?_
    refine w_imul X dX11_laysLines_103 rfl ?_
    refine w_iload_n X dX11_laysLines_104 rfl rfl rfl ?_
    refine w_iadd X dX11_laysLines_105 rfl ?_
    refine w_iald X dX11_laysLines_106 rfl (j := ((40 * v1) + v3).toNatClampNeg) rfl S0_219 yhg24 ?_
    refine w_iast X dX11_laysLines_107 rfl (j := ((40 * v2) + v3).toNatClampNeg) rfl S0_219 yhg25 ?_
    refine w_nmh (fun yh29 eyh29 => ?_)
    have hf := wok_l hf eyh29
    refine w_iinc X dX11_laysLines_108 rfl (v := (v3 + 1)) rfl rfl (Nat.le_of_ble_eq_true rfl) (cinc_1 _) (ls' := [some (.ref 188), some (.int v1), some (.int v2), some (.int (v3 + 1))]) rfl ?_
    refine w_goto X dX11_laysLines_111 (t := 14) rfl ?_
    exact hN _ _ (wok_s hf)
set_option maxRecDepth 4000 in
theorem pX11_laysLines_l14 (X : wCx p s m args meth c RX11 cX11_laysLines 4 D dA b0 ad) (hr : meth.sig.returnType = none)  {v1 : Int32} {v2 : Int32} {KE : (wSt) → Prop} (hX0 : ∀ (nh : wSt), KE (nh) → wM p l e (wR 1) s m args below meth c 0 0 (wE below args s D dA b0 ad S0 F) 4 D dA b0 ad S0 114 [none, none, none, none] [] nh) : ∀ (n : Nat) (v3 : Int32) (h : wSt), wok (wit (fun v : (Int32 × wSt) => fX11_laysLines_l14 v.2 v1 v2 v.1) n (v3, h)) KE → wM p l e (wR 1) s m args below meth c 0 0 (wE below args s D dA b0 ad S0 F) 4 D dA b0 ad S0 14 [some (.ref 188), some (.int v1), some (.int v2), some (.int v3)] [] h := by
  have key := wit_M (b := (fun v : (Int32 × wSt) => fX11_laysLines_l14 v.2 v1 v2 v.1)) (KE := KE) (G := fun v => wM p l e (wR 1) s m args below meth c 0 0 (wE below args s D dA b0 ad S0 F) 4 D dA b0 ad S0 14 [some (.ref 188), some (.int v1), some (.int v2), some (.int v.1)] [] v.2) (fun v K hN hE hf => pX11_laysLines_l14b X hr  (fun n3 nh hz => hN (n3, nh) hz) (fun z0 hz => hX0 z0 (hE _ hz)) hf)
  exact fun n v3 h hf => key n (v3, h) hf
set_option maxRecDepth 4000 in
theorem pX11_laysLines_b0 (X : wCx p s m args meth c RX11 cX11_laysLines 4 D dA b0 ad) (hr : meth.sig.returnType = none) {h : wSt} {x0 : Int32} {x1 : Int32} {K : wSt → Prop} (hT : ∀ (h2 : wSt), K h2 → F none h2) (hf : wok (fX11_laysLines h x0 x1) K) : wM p l e (wR 1) s m args below meth c 0 0 (wE below args s D dA b0 ad S0 F) 4 D dA b0 ad S0 0 [some (.ref 188), some (.int x0), some (.int x1), none] [] h := by
  unfold fX11_laysLines at hf
  refine w_aload_n X dX11_laysLines_0 rfl rfl rfl ?_
  refine w_getR X dX11_laysLines_1 rfl fl_X11_90 S0_188 rfl ?_
  refine w_iload_n X dX11_laysLines_4 rfl rfl rfl ?_
  refine w_aload_n X dX11_laysLines_5 rfl rfl rfl ?_
  refine w_getR X dX11_laysLines_6 rfl fl_X11_90 S0_188 rfl ?_
  refine w_iload_n X dX11_laysLines_9 rfl rfl rfl ?_
  obtain ⟨yhg21, hf⟩ := wok_g hf
  refine w_iald X dX11_laysLines_10 rfl (j := x0.toNatClampNeg) rfl S0_215 yhg21 ?_
  obtain ⟨yhg22, hf⟩ := wok_g hf
  refine w_iast X dX11_laysLines_11 rfl (j := x1.toNatClampNeg) rfl S0_215 yhg22 ?_
  refine w_nmh (fun yh23 eyh23 => ?_)
  have hf := wok_l hf eyh23
  refine w_iconst X dX11_laysLines_12 rfl ci_0 ?_
  refine w_istore_n X dX11_laysLines_13 rfl rfl rfl (Nat.le_of_ble_eq_true rfl) (ls' := [some (.ref 188), some (.int x0), some (.int x1), some (.int 0)]) rfl ?_
  obtain ⟨ye30, hye30, hf⟩ := wok_b hf
  refine pX11_laysLines_l14 X hr  (KE := fun z => ye30 = z) ?_ 3000 _ _ ⟨ye30, hye30, rfl⟩
  · intro yz31 hz
    subst hz
    exact w_vret X dX11_laysLines_114 hr (hT _ (wok_s hf))
set_option maxRecDepth 4000 in
theorem kX11_laysLines (l : Launch) {h : wSt} {x0 : Int32} {x1 : Int32} {res : wSt} (hf : fX11_laysLines h x0 x1 = some res) : wC l yX11_laysLines cX11_laysLines 4 none 1 S0 [.ref 188, .int x0, .int x1] h (wFV (fun b => res = b)) := by
  refine w_meth2 1 (by decide) (Nat.le_of_ble_eq_true rfl) (ls := [some (.ref 188), some (.int x0), some (.int x1), none]) rfl ?_
  intro p e s m args below meth c D dA b0 ad X hr
  exact pX11_laysLines_b0 X hr  (K := fun z => res = z) (fun h2 hz => ⟨rfl, hz⟩) ⟨res, hf, rfl⟩
set_option maxRecDepth 4000 in
theorem pX11_laysSeen_l14b (X : wCx p s m args meth c RX11 cX11_laysSeen 4 D dA b0 ad) (hr : meth.sig.returnType = none) {h : wSt} {v1 : Int32} {v2 : Int32} {v3 : Int32} {K : (Int32 × wSt) ⊕ ((wSt)) → Prop} (hN : ∀ (n3 : Int32) (nh : wSt), K (.inl (n3, nh)) → wM p l e (wR 1) s m args below meth c 0 0 (wE below args s D dA b0 ad S0 F) 4 D dA b0 ad S0 14 [some (.ref 188), some (.int v1), some (.int v2), some (.int n3)] [] nh) (hX0 : ∀ (nh : wSt), K (.inr nh) → wM p l e (wR 1) s m args below meth c 0 0 (wE below args s D dA b0 ad S0 F) 4 D dA b0 ad S0 114 [none, none, none, none] [] nh) (hf : wok (fX11_laysSeen_l14 h v1 v2 v3) K) : wM p l e (wR 1) s m args below meth c 0 0 (wE below args s D dA b0 ad S0 F) 4 D dA b0 ad S0 14 [some (.ref 188), some (.int v1), some (.int v2), some (.int v3)] [] h := by
  unfold fX11_laysSeen_l14 at hf
  refine w_iload_n X dX11_laysSeen_14 rfl rfl rfl ?_
  refine w_bipush X dX11_laysSeen_15 rfl cb_8 ?_
  refine w_icmp_ge X dX11_laysSeen_17 rfl (t := 114) rfl (fun hc => ?_) (fun hc => ?_)
  · have hf := wok_t hf hc
    refine w_fg (ls2 := [none, none, none, none]) trivial ?_
    exact hX0 _ (wok_s hf)
  · have hf := wok_f hf hc
    refine w_aload_n X dX11_laysSeen_20 rfl rfl rfl ?_
    refine w_getR X dX11_laysSeen_21 rfl fl_X11_108 S0_188 rfl ?_
    refine w_bipush X dX11_laysSeen_24 rfl cb_8 ?_
    refine w_iload_n X dX11_laysSeen_26 rfl rfl rfl ?_
    refine w_imul X dX11_laysSeen_27 rfl ?_
    refine w_iload_n X dX11_laysSeen_28 rfl rfl rfl ?_
    refine w_iadd X dX11_laysSeen_29 rfl ?_
    refine w_aload_n X dX11_laysSeen_30 rfl rfl rfl ?_
    refine w_getR X dX11_laysSeen_31 rfl fl_X11_108 S0_188 rfl ?_
    refine w_bipush X dX11_laysSeen_34 rfl cb_8 ?_
    refine w_iload_n X dX11_laysSeen_36 rfl rfl rfl ?_
    refine w_imul X dX11_laysSeen_37 rfl ?_
    refine w_iload_n X dX11_laysSeen_38 rfl rfl rfl ?_
    refine w_iadd X dX11_laysSeen_39 rfl ?_
    obtain ⟨yhg24, hf⟩ := wok_g hf
    refine w_iald X dX11_laysSeen_40 rfl (j := ((8 * v1) + v3).toNatClampNeg) rfl S0_221 yhg24 ?_
    obtain ⟨yhg25, hf⟩ := wok_g hf
    refine w_iast X dX11_laysSeen_41 rfl (j := ((8 * v2) + v3).toNatClampNeg) rfl S0_221 yhg25 ?_
    refine w_nmh (fun yh26 eyh26 => ?_)
    have hf := wok_l hf eyh26
    refine w_aload_n X dX11_laysSeen_42 rfl rfl rfl ?_
    refine w_getR X dX11_laysSeen_43 rfl fl_X11_111 S0_188 rfl ?_
    refine w_bipush X dX11_laysSeen_46 rfl cb_8 ?_
    refine w_iload_n X dX11_laysSeen_48 rfl rfl rfl ?_
    refine w_imul X dX11_laysSeen_49 rfl ?_
    refine w_iload_n X dX11_laysSeen_50 rfl rfl rfl ?_
    refine w_iadd X dX11_laysSeen_51 rfl ?_
    refine w_aload_n X dX11_laysSeen_52 rfl rfl rfl ?_
    refine w_getR X dX11_laysSeen_53 rfl fl_X11_111 S0_188 rfl ?_
    refine w_bipush X dX11_laysSeen_56 rfl cb_8 ?_
    refine w_iload_n X dX11_laysSeen_58 rfl rfl rfl ?_
    refine w_imul X dX11_laysSeen_59 rfl ?_
    refine w_iload_n X dX11_laysSeen_60 rfl rfl rfl ?_
    refine w_iadd X dX11_laysSeen_61 rfl ?_
    refine w_iald X dX11_laysSeen_62 rfl (j := ((8 * v1) + v3).toNatClampNeg) rfl S0_222 yhg24 ?_
    refine w_iast X dX11_laysSeen_63 rfl (j := ((8 * v2) + v3).toNatClampNeg) rfl S0_222 yhg25 ?_
    refine w_nmh (fun yh27 eyh27 => ?_)
    have hf := wok_l hf eyh27
    refine w_aload_n X dX11_laysSeen_64 rfl rfl rfl ?_
    refine w_getR X dX11_laysSeen_65 rfl fl_X11_114 S0_188 rfl ?_
    refine w_bipush X dX11_laysSeen_68 rfl cb_8 ?_
    refine w_iload_n X dX11_laysSeen_70 rfl rfl rfl ?_
    refine w_imul X dX11_laysSeen_71 rfl ?_
    refine w_iload_n X dX11_laysSeen_72 rfl rfl rfl ?_
    refine w_iadd X dX11_laysSeen_73 rfl ?_
    refine w_aload_n X dX11_laysSeen_74 rfl rfl rfl ?_
    refine w_getR X dX11_laysSeen_75 rfl fl_X11_114 S0_188 rfl ?_
    refine w_bipush X dX11_laysSeen_78 rfl cb_8 ?_
    refine w_iload_n X dX11_laysSeen_80 rfl rfl rfl ?_
    refine w_imul X dX11_laysSeen_81 rfl ?_
    refine w_iload_n X dX11_laysSeen_82 rfl rfl rfl ?_
    refine w_iadd X dX11_laysSeen_83 rfl ?_
    refine w_iald X dX11_laysSeen_84 rfl (j := ((8 * v1) + v3).toNatClampNeg) rfl S0_223 yhg24 ?_
    refine w_iast X dX11_laysSeen_85 rfl (j := ((8 * v2) + v3).toNatClampNeg) rfl S0_223 yhg25 ?_
    refine w_nmh (fun yh28 eyh28 => ?_)
    have hf := wok_l hf eyh28
    refine w_aload_n X dX11_laysSeen_86 rfl rfl rfl ?_
    refine w_getR X dX11_laysSeen_87 rfl fl_X11_117 S0_188 rfl ?_
    refine w_bipush X dX11_laysSeen_90 rfl cb_8 ?_
    refine w_iload_n X dX11_laysSeen_92 rfl rfl rfl ?_
    refine w_imul X dX11_laysSeen_93 rfl ?_
    refine w_iload_n X dX11_laysSeen_94 rfl rfl rfl ?_
    refine w_iadd X dX11_laysSeen_95 rfl ?_
    refine w_aload_n X dX11_laysSeen_96 rfl rfl rfl ?_
    refine w_getR X dX11_laysSeen_97 rfl fl_X11_117 S0_188 rfl ?_
    refine w_bipush X dX11_laysSeen_100 rfl cb_8 ?_
    refine w_iload_n X dX11_laysSeen_102 rfl rfl rfl ?_
    refine w_imul X dX11_laysSeen_103 rfl ?_
    refine w_iload_n X dX11_laysSeen_104 rfl rfl rfl ?_
    refine w_iadd X dX11_laysSeen_105 rfl ?_
    refine w_zald X dX11_laysSeen_106 rfl (j := ((8 * v1) + v3).toNatClampNeg) rfl S0_224 yhg24 ?_
    refine w_zast X dX11_laysSeen_107 rfl (j := ((8 * v2) + v3).toNatClampNeg) rfl S0_224 yhg25 ?_
    refine w_nmh (fun yh29 eyh29 => ?_)
    have hf := wok_l hf eyh29
    refine w_iinc X dX11_laysSeen_108 rfl (v := (v3 + 1)) rfl rfl (Nat.le_of_ble_eq_true rfl) (cinc_1 _) (ls' := [some (.ref 188), some (.int v1), some (.int v2), some (.int (v3 + 1))]) rfl ?_
    refine w_goto X dX11_laysSeen_111 (t := 14) rfl ?_
    exact hN _ _ (wok_s hf)
set_option maxRecDepth 4000 in
theorem pX11_laysSeen_l14 (X : wCx p s m args meth c RX11 cX11_laysSeen 4 D dA b0 ad) (hr : meth.sig.returnType = none)  {v1 : Int32} {v2 : Int32} {KE : (wSt) → Prop} (hX0 : ∀ (nh : wSt), KE (nh) → wM p l e (wR 1) s m args below meth c 0 0 (wE below args s D dA b0 ad S0 F) 4 D dA b0 ad S0 114 [none, none, none, none] [] nh) : ∀ (n : Nat) (v3 : Int32) (h : wSt), wok (wit (fun v : (Int32 × wSt) => fX11_laysSeen_l14 v.2 v1 v2 v.1) n (v3, h)) KE → wM p l e (wR 1) s m args below meth c 0 0 (wE below args s D dA b0 ad S0 F) 4 D dA b0 ad S0 14 [some (.ref 188), some (.int v1), some (.int v2), some (.int v3)] [] h := by
  have key := wit_M (b := (fun v : (Int32 × wSt) => fX11_laysSeen_l14 v.2 v1 v2 v.1)) (KE := KE) (G := fun v => wM p l e (wR 1) s m args below meth c 0 0 (wE below args s D dA b0 ad S0 F) 4 D dA b0 ad S0 14 [some (.ref 188), some (.int v1), some (.int v2), some (.int v.1)] [] v.2) (fun v K hN hE hf => pX11_laysSeen_l14b X hr  (fun n3 nh hz => hN (n3, nh) hz) (fun z0 hz => hX0 z0 (hE _ hz)) hf)
  exact fun n v3 h hf => key n (v3, h) hf
set_option maxRecDepth 4000 in
theorem pX11_laysSeen_b0 (X : wCx p s m args meth c RX11 cX11_laysSeen 4 D dA b0 ad) (hr : meth.sig.returnType = none) {h : wSt} {x0 : Int32} {x1 : Int32} {K : wSt → Prop} (hT : ∀ (h2 : wSt), K h2 → F none h2) (hf : wok (fX11_laysSeen h x0 x1) K) : wM p l e (wR 1) s m args below meth c 0 0 (wE below args s D dA b0 ad S0 F) 4 D dA b0 ad S0 0 [some (.ref 188), some (.int x0), some (.int x1), none] [] h := by
  unfold fX11_laysSeen at hf
  refine w_aload_n X dX11_laysSeen_0 rfl rfl rfl ?_
  refine w_getR X dX11_laysSeen_1 rfl fl_X11_105 S0_188 rfl ?_
  refine w_iload_n X dX11_laysSeen_4 rfl rfl rfl ?_
  refine w_aload_n X dX11_laysSeen_5 rfl rfl rfl ?_
  refine w_getR X dX11_laysSeen_6 rfl fl_X11_105 S0_188 rfl ?_
  refine w_iload_n X dX11_laysSeen_9 rfl rfl rfl ?_
  obtain ⟨yhg21, hf⟩ := wok_g hf
  refine w_iald X dX11_laysSeen_10 rfl (j := x0.toNatClampNeg) rfl S0_220 yhg21 ?_
  obtain ⟨yhg22, hf⟩ := wok_g hf
  refine w_iast X dX11_laysSeen_11 rfl (j := x1.toNatClampNeg) rfl S0_220 yhg22 ?_
  refine w_nmh (fun yh23 eyh23 => ?_)
  have hf := wok_l hf eyh23
  refine w_iconst X dX11_laysSeen_12 rfl ci_0 ?_
  refine w_istore_n X dX11_laysSeen_13 rfl rfl rfl (Nat.le_of_ble_eq_true rfl) (ls' := [some (.ref 188), some (.int x0), some (.int x1), some (.int 0)]) rfl ?_
  obtain ⟨ye30, hye30, hf⟩ := wok_b hf
  refine pX11_laysSeen_l14 X hr  (KE := fun z => ye30 = z) ?_ 3000 _ _ ⟨ye30, hye30, rfl⟩
  · intro yz31 hz
    subst hz
    exact w_vret X dX11_laysSeen_114 hr (hT _ (wok_s hf))
set_option maxRecDepth 4000 in
theorem kX11_laysSeen (l : Launch) {h : wSt} {x0 : Int32} {x1 : Int32} {res : wSt} (hf : fX11_laysSeen h x0 x1 = some res) : wC l yX11_laysSeen cX11_laysSeen 4 none 1 S0 [.ref 188, .int x0, .int x1] h (wFV (fun b => res = b)) := by
  refine w_meth2 1 (by decide) (Nat.le_of_ble_eq_true rfl) (ls := [some (.ref 188), some (.int x0), some (.int x1), none]) rfl ?_
  intro p e s m args below meth c D dA b0 ad X hr
  exact pX11_laysSeen_b0 X hr  (K := fun z => res = z) (fun h2 hz => ⟨rfl, hz⟩) ⟨res, hf, rfl⟩
set_option maxRecDepth 4000 in
theorem pX11_fresh0_l2b (X : wCx p s m args meth c RX11 cX11_fresh0 2 D dA b0 ad) (hr : meth.sig.returnType = none) {h : wSt} {v1 : Int32} {K : (Int32 × wSt) ⊕ ((wSt)) → Prop} (hN : ∀ (n1 : Int32) (nh : wSt), K (.inl (n1, nh)) → wM p l e (wR 1) s m args below meth c 0 0 (wE below args s D dA b0 ad S0 F) 2 D dA b0 ad S0 2 [some (.ref 188), some (.int n1)] [] nh) (hX0 : ∀ (nh : wSt), K (.inr nh) → wM p l e (wR 1) s m args below meth c 0 0 (wE below args s D dA b0 ad S0 F) 2 D dA b0 ad S0 21 [some (.ref 188), none] [] nh) (hf : wok (fX11_fresh0_l2 h v1) K) : wM p l e (wR 1) s m args below meth c 0 0 (wE below args s D dA b0 ad S0 F) 2 D dA b0 ad S0 2 [some (.ref 188), some (.int v1)] [] h := by
  unfold fX11_fresh0_l2 at hf
  refine w_iload_n X dX11_fresh0_2 rfl rfl rfl ?_
  refine w_bipush X dX11_fresh0_3 rfl cb_25 ?_
  refine w_icmp_ge X dX11_fresh0_5 rfl (t := 21) rfl (fun hc => ?_) (fun hc => ?_)
  · have hf := wok_t hf hc
    refine w_fg (ls2 := [some (.ref 188), none]) ⟨rfl, trivial⟩ ?_
    exact hX0 _ (wok_s hf)
  · have hf := wok_f hf hc
    refine w_aload_n X dX11_fresh0_8 rfl rfl rfl ?_
    refine w_getR X dX11_fresh0_9 rfl fl_X11_120 S0_188 rfl ?_
    refine w_iload_n X dX11_fresh0_12 rfl rfl rfl ?_
    refine w_iconst X dX11_fresh0_13 rfl ci_0 ?_
    obtain ⟨yhg21, hf⟩ := wok_g hf
    refine w_iast X dX11_fresh0_14 rfl (j := v1.toNatClampNeg) rfl S0_225 yhg21 ?_
    refine w_nmh (fun yh22 eyh22 => ?_)
    have hf := wok_l hf eyh22
    refine w_iinc X dX11_fresh0_15 rfl (v := (v1 + 1)) rfl rfl (Nat.le_of_ble_eq_true rfl) (cinc_1 _) (ls' := [some (.ref 188), some (.int (v1 + 1))]) rfl ?_
    refine w_goto X dX11_fresh0_18 (t := 2) rfl ?_
    exact hN _ _ (wok_s hf)
set_option maxRecDepth 4000 in
theorem pX11_fresh0_l2 (X : wCx p s m args meth c RX11 cX11_fresh0 2 D dA b0 ad) (hr : meth.sig.returnType = none)  {KE : (wSt) → Prop} (hX0 : ∀ (nh : wSt), KE (nh) → wM p l e (wR 1) s m args below meth c 0 0 (wE below args s D dA b0 ad S0 F) 2 D dA b0 ad S0 21 [some (.ref 188), none] [] nh) : ∀ (n : Nat) (v1 : Int32) (h : wSt), wok (wit (fun v : (Int32 × wSt) => fX11_fresh0_l2 v.2 v.1) n (v1, h)) KE → wM p l e (wR 1) s m args below meth c 0 0 (wE below args s D dA b0 ad S0 F) 2 D dA b0 ad S0 2 [some (.ref 188), some (.int v1)] [] h := by
  have key := wit_M (b := (fun v : (Int32 × wSt) => fX11_fresh0_l2 v.2 v.1)) (KE := KE) (G := fun v => wM p l e (wR 1) s m args below meth c 0 0 (wE below args s D dA b0 ad S0 F) 2 D dA b0 ad S0 2 [some (.ref 188), some (.int v.1)] [] v.2) (fun v K hN hE hf => pX11_fresh0_l2b X hr  (fun n1 nh hz => hN (n1, nh) hz) (fun z0 hz => hX0 z0 (hE _ hz)) hf)
  exact fun n v1 h hf => key n (v1, h) hf
set_option maxRecDepth 4000 in
theorem pX11_fresh0_l23b (X : wCx p s m args meth c RX11 cX11_fresh0 2 D dA b0 ad) (hr : meth.sig.returnType = none) {h : wSt} {v1 : Int32} {K : (Int32 × wSt) ⊕ ((wSt)) → Prop} (hN : ∀ (n1 : Int32) (nh : wSt), K (.inl (n1, nh)) → wM p l e (wR 1) s m args below meth c 0 0 (wE below args s D dA b0 ad S0 F) 2 D dA b0 ad S0 23 [some (.ref 188), some (.int n1)] [] nh) (hX0 : ∀ (nh : wSt), K (.inr nh) → wM p l e (wR 1) s m args below meth c 0 0 (wE below args s D dA b0 ad S0 F) 2 D dA b0 ad S0 53 [none, none] [] nh) (hf : wok (fX11_fresh0_l23 h v1) K) : wM p l e (wR 1) s m args below meth c 0 0 (wE below args s D dA b0 ad S0 F) 2 D dA b0 ad S0 23 [some (.ref 188), some (.int v1)] [] h := by
  unfold fX11_fresh0_l23 at hf
  refine w_iload_n X dX11_fresh0_23 rfl rfl rfl ?_
  refine w_aload_n X dX11_fresh0_24 rfl rfl rfl ?_
  refine w_getR X dX11_fresh0_25 rfl fl_X11_13 S0_188 rfl ?_
  refine w_iconst X dX11_fresh0_28 rfl ci_0 ?_
  refine w_iald X dX11_fresh0_29 rfl (j := 0) cn_0 S0_190 (show wib 0 6 by decide) ?_
  refine w_icmp_ge X dX11_fresh0_30 rfl (t := 53) rfl (fun hc => ?_) (fun hc => ?_)
  · have hf := wok_t hf hc
    refine w_fg (ls2 := [none, none]) trivial ?_
    exact hX0 _ (wok_s hf)
  · have hf := wok_f hf hc
    refine w_aload_n X dX11_fresh0_33 rfl rfl rfl ?_
    refine w_getR X dX11_fresh0_34 rfl fl_X11_120 S0_188 rfl ?_
    refine w_iconst X dX11_fresh0_37 rfl ci_1 ?_
    refine w_iload_n X dX11_fresh0_38 rfl rfl rfl ?_
    refine w_iadd X dX11_fresh0_39 rfl ?_
    refine w_aload_n X dX11_fresh0_40 rfl rfl rfl ?_
    refine w_getR X dX11_fresh0_41 rfl fl_X11_26 S0_188 rfl ?_
    refine w_iload_n X dX11_fresh0_44 rfl rfl rfl ?_
    obtain ⟨yhg25, hf⟩ := wok_g hf
    refine w_iald X dX11_fresh0_45 rfl (j := v1.toNatClampNeg) rfl S0_194 yhg25 ?_
    obtain ⟨yhg26, hf⟩ := wok_g hf
    refine w_iast X dX11_fresh0_46 rfl (j := (1 + v1).toNatClampNeg) rfl S0_225 yhg26 ?_
    refine w_nmh (fun yh27 eyh27 => ?_)
    have hf := wok_l hf eyh27
    refine w_iinc X dX11_fresh0_47 rfl (v := (v1 + 1)) rfl rfl (Nat.le_of_ble_eq_true rfl) (cinc_1 _) (ls' := [some (.ref 188), some (.int (v1 + 1))]) rfl ?_
    refine w_goto X dX11_fresh0_50 (t := 23) rfl ?_
    exact hN _ _ (wok_s hf)
set_option maxRecDepth 4000 in
theorem pX11_fresh0_l23 (X : wCx p s m args meth c RX11 cX11_fresh0 2 D dA b0 ad) (hr : meth.sig.returnType = none)  {KE : (wSt) → Prop} (hX0 : ∀ (nh : wSt), KE (nh) → wM p l e (wR 1) s m args below meth c 0 0 (wE below args s D dA b0 ad S0 F) 2 D dA b0 ad S0 53 [none, none] [] nh) : ∀ (n : Nat) (v1 : Int32) (h : wSt), wok (wit (fun v : (Int32 × wSt) => fX11_fresh0_l23 v.2 v.1) n (v1, h)) KE → wM p l e (wR 1) s m args below meth c 0 0 (wE below args s D dA b0 ad S0 F) 2 D dA b0 ad S0 23 [some (.ref 188), some (.int v1)] [] h := by
  have key := wit_M (b := (fun v : (Int32 × wSt) => fX11_fresh0_l23 v.2 v.1)) (KE := KE) (G := fun v => wM p l e (wR 1) s m args below meth c 0 0 (wE below args s D dA b0 ad S0 F) 2 D dA b0 ad S0 23 [some (.ref 188), some (.int v.1)] [] v.2) (fun v K hN hE hf => pX11_fresh0_l23b X hr  (fun n1 nh hz => hN (n1, nh) hz) (fun z0 hz => hX0 z0 (hE _ hz)) hf)
  exact fun n v1 h hf => key n (v1, h) hf
set_option maxRecDepth 4000 in
theorem pX11_fresh0_b0 (X : wCx p s m args meth c RX11 cX11_fresh0 2 D dA b0 ad) (hr : meth.sig.returnType = none) {h : wSt} {K : wSt → Prop} (hT : ∀ (h2 : wSt), K h2 → F none h2) (hf : wok (fX11_fresh0 h ) K) : wM p l e (wR 1) s m args below meth c 0 0 (wE below args s D dA b0 ad S0 F) 2 D dA b0 ad S0 0 [some (.ref 188), none] [] h := by
  unfold fX11_fresh0 at hf
  refine w_iconst X dX11_fresh0_0 rfl ci_0 ?_
  refine w_istore_n X dX11_fresh0_1 rfl rfl rfl (Nat.le_of_ble_eq_true rfl) (ls' := [some (.ref 188), some (.int 0)]) rfl ?_
  obtain ⟨ye23, hye23, hf⟩ := wok_b hf
  refine pX11_fresh0_l2 X hr  (KE := fun z => ye23 = z) ?_ 3000 _ _ ⟨ye23, hye23, rfl⟩
  · intro yz24 hz
    subst hz
    refine w_iconst X dX11_fresh0_21 rfl ci_0 ?_
    refine w_istore_n X dX11_fresh0_22 rfl rfl rfl (Nat.le_of_ble_eq_true rfl) (ls' := [some (.ref 188), some (.int 0)]) rfl ?_
    obtain ⟨ye28, hye28, hf⟩ := wok_b hf
    refine pX11_fresh0_l23 X hr  (KE := fun z => ye28 = z) ?_ 3000 _ _ ⟨ye28, hye28, rfl⟩
    · intro yz29 hz
      subst hz
      exact w_vret X dX11_fresh0_53 hr (hT _ (wok_s hf))
set_option maxRecDepth 4000 in
theorem kX11_fresh0 (l : Launch) {h : wSt} {res : wSt} (hf : fX11_fresh0 h  = some res) : wC l yX11_fresh0 cX11_fresh0 2 none 1 S0 [.ref 188] h (wFV (fun b => res = b)) := by
  refine w_meth2 1 (by decide) (Nat.le_of_ble_eq_true rfl) (ls := [some (.ref 188), none]) rfl ?_
  intro p e s m args below meth c D dA b0 ad X hr
  exact pX11_fresh0_b0 X hr  (K := fun z => res = z) (fun h2 hz => ⟨rfl, hz⟩) ⟨res, hf, rfl⟩
set_option maxRecDepth 4000 in
theorem pX11_library_l46b (X : wCx p s m args meth c RX11 cX11_library 2 D dA b0 ad) (hr : meth.sig.returnType = (some .int)) {h : wSt} {v1 : Int32} {K : (Int32 × wSt) ⊕ ((wSt)) → Prop} (hN : ∀ (n1 : Int32) (nh : wSt), K (.inl (n1, nh)) → wM p l e (wR 7) s m args below meth c 0 0 (wE below args s D dA b0 ad S0 F) 2 D dA b0 ad S0 46 [some (.ref 188), some (.int n1)] [] nh) (hX0 : ∀ (nh : wSt), K (.inr nh) → wM p l e (wR 7) s m args below meth c 0 0 (wE below args s D dA b0 ad S0 F) 2 D dA b0 ad S0 64 [none, none] [] nh) (hf : wok (fX11_library_l46 h v1) K) : wM p l e (wR 7) s m args below meth c 0 0 (wE below args s D dA b0 ad S0 F) 2 D dA b0 ad S0 46 [some (.ref 188), some (.int v1)] [] h := by
  unfold fX11_library_l46 at hf
  refine w_iload_n X dX11_library_46 rfl rfl rfl ?_
  refine w_iconst X dX11_library_47 rfl ci_4 ?_
  refine w_icmp_ge X dX11_library_48 rfl (t := 64) rfl (fun hc => ?_) (fun hc => ?_)
  · have hf := wok_t hf hc
    refine w_fg (ls2 := [none, none]) trivial ?_
    exact hX0 _ (wok_s hf)
  · have hf := wok_f hf hc
    refine w_aload_n X dX11_library_51 rfl rfl rfl ?_
    refine w_getR X dX11_library_52 rfl fl_X11_135 S0_188 rfl ?_
    refine w_iload_n X dX11_library_55 rfl rfl rfl ?_
    refine w_iconst X dX11_library_56 rfl ci_0 ?_
    obtain ⟨yhg28, hf⟩ := wok_g hf
    refine w_zast X dX11_library_57 rfl (j := v1.toNatClampNeg) rfl S0_230 yhg28 ?_
    refine w_nmh (fun yh29 eyh29 => ?_)
    have hf := wok_l hf eyh29
    refine w_iinc X dX11_library_58 rfl (v := (v1 + 1)) rfl rfl (Nat.le_of_ble_eq_true rfl) (cinc_1 _) (ls' := [some (.ref 188), some (.int (v1 + 1))]) rfl ?_
    refine w_goto X dX11_library_61 (t := 46) rfl ?_
    exact hN _ _ (wok_s hf)
set_option maxRecDepth 4000 in
theorem pX11_library_l46 (X : wCx p s m args meth c RX11 cX11_library 2 D dA b0 ad) (hr : meth.sig.returnType = (some .int))  {KE : (wSt) → Prop} (hX0 : ∀ (nh : wSt), KE (nh) → wM p l e (wR 7) s m args below meth c 0 0 (wE below args s D dA b0 ad S0 F) 2 D dA b0 ad S0 64 [none, none] [] nh) : ∀ (n : Nat) (v1 : Int32) (h : wSt), wok (wit (fun v : (Int32 × wSt) => fX11_library_l46 v.2 v.1) n (v1, h)) KE → wM p l e (wR 7) s m args below meth c 0 0 (wE below args s D dA b0 ad S0 F) 2 D dA b0 ad S0 46 [some (.ref 188), some (.int v1)] [] h := by
  have key := wit_M (b := (fun v : (Int32 × wSt) => fX11_library_l46 v.2 v.1)) (KE := KE) (G := fun v => wM p l e (wR 7) s m args below meth c 0 0 (wE below args s D dA b0 ad S0 F) 2 D dA b0 ad S0 46 [some (.ref 188), some (.int v.1)] [] v.2) (fun v K hN hE hf => pX11_library_l46b X hr  (fun n1 nh hz => hN (n1, nh) hz) (fun z0 hz => hX0 z0 (hE _ hz)) hf)
  exact fun n v1 h hf => key n (v1, h) hf
set_option maxRecDepth 4000 in
theorem pX11_library_b0 (X : wCx p s m args meth c RX11 cX11_library 2 D dA b0 ad) (hr : meth.sig.returnType = (some .int)) {h : wSt} {K : Int32 × wSt → Prop} (hT : ∀ (x : Int32) (h2 : wSt), K (x, h2) → F (some (.int x)) h2) (hf : wok (fX11_library h ) K) : wM p l e (wR 7) s m args below meth c 0 0 (wE below args s D dA b0 ad S0 F) 2 D dA b0 ad S0 0 [some (.ref 188), none] [] h := by
  unfold fX11_library at hf
  refine w_aload_n X dX11_library_0 rfl rfl rfl ?_
  refine w_iconst X dX11_library_1 rfl ci_0 ?_
  refine w_putI X dX11_library_2 rfl fp_X11_144 S0_188 rfl ?_
  refine w_nmh (fun yh21 eyh21 => ?_)
  have hf := wok_l hf eyh21
  refine w_aload_n X dX11_library_5 rfl rfl rfl ?_
  obtain ⟨yr22, eyr22, hf⟩ := wok_b hf
  refine w_callV X dX11_library_6 rfl vl_X11_334 (kX11_readsAll l  eyr22) S0_188 (As := []) (st := []) rfl rfl (Nat.le_of_ble_eq_true rfl) ⟨Nat.le_of_ble_eq_true rfl, Nat.le_of_ble_eq_true rfl⟩ ⟨Nat.zero_le _, Nat.zero_le _⟩ (fun r h2 hF => ?_)
  obtain ⟨_, rfl, rfl, rfl⟩ := hF
  show wM p l e (wR 7) s m args below meth c 0 0 (wE below args s D dA b0 ad S0 F) 2 D dA b0 ad S0 9 [some (.ref 188), none] [.int (wb yr22.1)] yr22.2
  refine w_if_ne X dX11_library_9 rfl (t := 17) rfl (fun hc => ?_) (fun hc => ?_)
  · have hf := wok_t hf (wb_n0 hc)
    refine w_aload_n X dX11_library_17 rfl rfl rfl ?_
    obtain ⟨yr23, eyr23, hf⟩ := wok_b hf
    refine w_callV X dX11_library_18 rfl vl_X11_337 (kX11_lays l  eyr23) S0_188 (As := []) (st := []) rfl rfl (Nat.le_of_ble_eq_true rfl) ⟨Nat.le_of_ble_eq_true rfl, Nat.le_of_ble_eq_true rfl⟩ ⟨Nat.zero_le _, Nat.zero_le _⟩ (fun r h2 hF => ?_)
    obtain ⟨rfl, rfl⟩ := hF
    show wM p l e (wR 7) s m args below meth c 0 0 (wE below args s D dA b0 ad S0 F) 2 D dA b0 ad S0 21 [some (.ref 188), none] [] yr23
    refine w_aload_n X dX11_library_21 rfl rfl rfl ?_
    obtain ⟨yr24, eyr24, hf⟩ := wok_b hf
    refine w_callV X dX11_library_22 rfl vl_X11_340 (kX11_fresh0 l  eyr24) S0_188 (As := []) (st := []) rfl rfl (Nat.le_of_ble_eq_true rfl) ⟨Nat.le_of_ble_eq_true rfl, Nat.le_of_ble_eq_true rfl⟩ ⟨Nat.zero_le _, Nat.zero_le _⟩ (fun r h2 hF => ?_)
    obtain ⟨rfl, rfl⟩ := hF
    show wM p l e (wR 7) s m args below meth c 0 0 (wE below args s D dA b0 ad S0 F) 2 D dA b0 ad S0 25 [some (.ref 188), none] [] yr24
    refine w_aload_n X dX11_library_25 rfl rfl rfl ?_
    refine w_getR X dX11_library_26 rfl fl_X11_90 S0_188 rfl ?_
    refine w_iconst X dX11_library_29 rfl ci_0 ?_
    refine w_iconst X dX11_library_30 rfl ci_0 ?_
    refine w_iast X dX11_library_31 rfl (j := 0) cn_0 S0_215 (show wib 0 6 by decide) ?_
    refine w_nmh (fun yh25 eyh25 => ?_)
    have hf := wok_l hf eyh25
    refine w_aload_n X dX11_library_32 rfl rfl rfl ?_
    refine w_getR X dX11_library_33 rfl fl_X11_105 S0_188 rfl ?_
    refine w_iconst X dX11_library_36 rfl ci_0 ?_
    refine w_iconst X dX11_library_37 rfl ci_0 ?_
    refine w_iast X dX11_library_38 rfl (j := 0) cn_0 S0_220 (show wib 0 5 by decide) ?_
    refine w_nmh (fun yh26 eyh26 => ?_)
    have hf := wok_l hf eyh26
    refine w_aload_n X dX11_library_39 rfl rfl rfl ?_
    refine w_iconst X dX11_library_40 rfl ci_0 ?_
    refine w_putI X dX11_library_41 rfl fp_X11_343 S0_188 rfl ?_
    refine w_nmh (fun yh27 eyh27 => ?_)
    have hf := wok_l hf eyh27
    refine w_iconst X dX11_library_44 rfl ci_0 ?_
    refine w_istore_n X dX11_library_45 rfl rfl rfl (Nat.le_of_ble_eq_true rfl) (ls' := [some (.ref 188), some (.int 0)]) rfl ?_
    obtain ⟨ye30, hye30, hf⟩ := wok_b hf
    refine pX11_library_l46 X hr  (KE := fun z => ye30 = z) ?_ 3000 _ _ ⟨ye30, hye30, rfl⟩
    · intro yz31 hz
      subst hz
      refine w_iconst X dX11_library_64 rfl ci_0 ?_
      exact w_iret X dX11_library_65 hr (hT _ _ (wok_s hf))
  · have hf := wok_f hf (wb_0 hc)
    refine w_aload_n X dX11_library_12 rfl rfl rfl ?_
    refine w_getI X dX11_library_13 rfl fl_X11_180 S0_188 rfl ?_
    exact w_iret X dX11_library_16 hr (hT _ _ (wok_s hf))
set_option maxRecDepth 4000 in
theorem kX11_library (l : Launch) {h : wSt} {res : Int32 × wSt} (hf : fX11_library h  = some res) : wC l yX11_library cX11_library 2 (some .int) 7 S0 [.ref 188] h (wFI (fun a b => res.1 = a ∧ res.2 = b)) := by
  refine w_meth2 1 (by decide) (Nat.le_of_ble_eq_true rfl) (ls := [some (.ref 188), none]) rfl ?_
  intro p e s m args below meth c D dA b0 ad X hr
  exact pX11_library_b0 X hr  (K := fun z => res = z) (fun x h2 hz => ⟨x, rfl, by rw [hz], by rw [hz]⟩) ⟨res, hf, rfl⟩
set_option maxRecDepth 4000 in
theorem pX11_year_l16b (X : wCx p s m args meth c RX11 cX11_year 1 D dA b0 ad) (hr : meth.sig.returnType = (some .int)) {h : wSt} {K : (wSt) ⊕ ((wSt) ⊕ (wSt)) → Prop} (hN : ∀ (nh : wSt), K (.inl nh) → wM p l e (wR 5) s m args below meth c 0 0 (wE below args s D dA b0 ad S0 F) 1 D dA b0 ad S0 16 [some (.ref 188)] [] nh) (hX0 : ∀ (nh : wSt), K (.inr (.inl nh)) → wM p l e (wR 5) s m args below meth c 0 0 (wE below args s D dA b0 ad S0 F) 1 D dA b0 ad S0 30 [some (.ref 188)] [] nh) (hX1 : ∀ (nh : wSt), K (.inr (.inr nh)) → wM p l e (wR 5) s m args below meth c 0 0 (wE below args s D dA b0 ad S0 F) 1 D dA b0 ad S0 35 [some (.ref 188)] [] nh) (hf : wok (fX11_year_l16 h ) K) : wM p l e (wR 5) s m args below meth c 0 0 (wE below args s D dA b0 ad S0 F) 1 D dA b0 ad S0 16 [some (.ref 188)] [] h := by
  unfold fX11_year_l16 at hf
  refine w_aload_n X dX11_year_16 rfl rfl rfl ?_
  refine w_getI X dX11_year_17 rfl fl_X11_169 S0_188 rfl ?_
  refine w_if_eq X dX11_year_20 rfl (t := 35) rfl (fun hc => ?_) (fun hc => ?_)
  · have hf := wok_t hf hc
    exact hX1 _ (wok_s hf)
  · have hf := wok_f hf hc
    refine w_aload_n X dX11_year_23 rfl rfl rfl ?_
    obtain ⟨yr24, eyr24, hf⟩ := wok_b hf
    refine w_callV X dX11_year_24 rfl vl_X11_346 (kX11_readsLine l  eyr24) S0_188 (As := []) (st := []) rfl rfl (Nat.le_of_ble_eq_true rfl) ⟨Nat.le_of_ble_eq_true rfl, Nat.le_of_ble_eq_true rfl⟩ ⟨Nat.zero_le _, Nat.zero_le _⟩ (fun r h2 hF => ?_)
    obtain ⟨_, rfl, rfl, rfl⟩ := hF
    show wM p l e (wR 5) s m args below meth c 0 0 (wE below args s D dA b0 ad S0 F) 1 D dA b0 ad S0 27 [some (.ref 188)] [.int (wb yr24.1)] yr24.2
    refine w_if_ne X dX11_year_27 rfl (t := 16) rfl (fun hc => ?_) (fun hc => ?_)
    · have hf := wok_t hf (wb_n0 hc)
      exact hN _ (wok_s hf)
    · have hf := wok_f hf (wb_0 hc)
      exact hX0 _ (wok_s hf)
set_option maxRecDepth 4000 in
theorem pX11_year_l16 (X : wCx p s m args meth c RX11 cX11_year 1 D dA b0 ad) (hr : meth.sig.returnType = (some .int))  {KE : (wSt) ⊕ (wSt) → Prop} (hX0 : ∀ (nh : wSt), KE ((.inl nh)) → wM p l e (wR 5) s m args below meth c 0 0 (wE below args s D dA b0 ad S0 F) 1 D dA b0 ad S0 30 [some (.ref 188)] [] nh) (hX1 : ∀ (nh : wSt), KE ((.inr nh)) → wM p l e (wR 5) s m args below meth c 0 0 (wE below args s D dA b0 ad S0 F) 1 D dA b0 ad S0 35 [some (.ref 188)] [] nh) : ∀ (n : Nat) (h : wSt), wok (wit (fun v : (wSt) => fX11_year_l16 v ) n h) KE → wM p l e (wR 5) s m args below meth c 0 0 (wE below args s D dA b0 ad S0 F) 1 D dA b0 ad S0 16 [some (.ref 188)] [] h := by
  have key := wit_M (b := (fun v : (wSt) => fX11_year_l16 v )) (KE := KE) (G := fun v => wM p l e (wR 5) s m args below meth c 0 0 (wE below args s D dA b0 ad S0 F) 1 D dA b0 ad S0 16 [some (.ref 188)] [] v) (fun v K hN hE hf => pX11_year_l16b X hr  (fun  nh hz => hN nh hz) (fun z0 hz => hX0 z0 (hE _ hz)) (fun z0 hz => hX1 z0 (hE _ hz)) hf)
  exact fun n h hf => key n h hf
set_option maxRecDepth 4000 in
theorem pX11_year_b0 (X : wCx p s m args meth c RX11 cX11_year 1 D dA b0 ad) (hr : meth.sig.returnType = (some .int)) {h : wSt} {K : Int32 × wSt → Prop} (hT : ∀ (x : Int32) (h2 : wSt), K (x, h2) → F (some (.int x)) h2) (hf : wok (fX11_year h ) K) : wM p l e (wR 5) s m args below meth c 0 0 (wE below args s D dA b0 ad S0 F) 1 D dA b0 ad S0 0 [some (.ref 188)] [] h := by
  unfold fX11_year at hf
  refine w_aload_n X dX11_year_0 rfl rfl rfl ?_
  refine w_iconst X dX11_year_1 rfl ci_0 ?_
  refine w_putI X dX11_year_2 rfl fp_X11_144 S0_188 rfl ?_
  refine w_nmh (fun yh21 eyh21 => ?_)
  have hf := wok_l hf eyh21
  refine w_aload_n X dX11_year_5 rfl rfl rfl ?_
  refine w_getR X dX11_year_6 rfl fl_X11_90 S0_188 rfl ?_
  refine w_iconst X dX11_year_9 rfl ci_5 ?_
  refine w_iconst X dX11_year_10 rfl ci_0 ?_
  refine w_iast X dX11_year_11 rfl (j := 5) cn_5 S0_215 (show wib 5 6 by decide) ?_
  refine w_nmh (fun yh22 eyh22 => ?_)
  have hf := wok_l hf eyh22
  refine w_aload_n X dX11_year_12 rfl rfl rfl ?_
  obtain ⟨yr23, eyr23, hf⟩ := wok_b hf
  refine w_callV X dX11_year_13 rfl vl_X11_305 (kX11_begins l  eyr23) S0_188 (As := []) (st := []) rfl rfl (Nat.le_of_ble_eq_true rfl) ⟨Nat.le_of_ble_eq_true rfl, Nat.le_of_ble_eq_true rfl⟩ ⟨Nat.zero_le _, Nat.zero_le _⟩ (fun r h2 hF => ?_)
  obtain ⟨rfl, rfl⟩ := hF
  show wM p l e (wR 5) s m args below meth c 0 0 (wE below args s D dA b0 ad S0 F) 1 D dA b0 ad S0 16 [some (.ref 188)] [] yr23
  obtain ⟨ye25, hye25, hf⟩ := wok_b hf
  refine pX11_year_l16 X hr  (KE := fun z => ye25 = z) ?_ ?_ 3000 _ ⟨ye25, hye25, rfl⟩
  · intro yz26 hz
    subst hz
    refine w_aload_n X dX11_year_30 rfl rfl rfl ?_
    refine w_getI X dX11_year_31 rfl fl_X11_180 S0_188 rfl ?_
    exact w_iret X dX11_year_34 hr (hT _ _ (wok_s hf))
  · intro yz27 hz
    subst hz
    refine w_aload_n X dX11_year_35 rfl rfl rfl ?_
    refine w_iconst X dX11_year_36 rfl ci_5 ?_
    refine w_iconst X dX11_year_37 rfl ci_0 ?_
    obtain ⟨yr28, eyr28, hf⟩ := wok_b hf
    refine w_callV X dX11_year_38 rfl vl_X11_349 (kX11_laysLines l  eyr28) S0_188 (As := [.int 5, .int 0]) (st := []) rfl rfl (Nat.le_of_ble_eq_true rfl) ⟨Nat.le_of_ble_eq_true rfl, Nat.le_of_ble_eq_true rfl⟩ ⟨Nat.zero_le _, Nat.zero_le _⟩ (fun r h2 hF => ?_)
    obtain ⟨rfl, rfl⟩ := hF
    show wM p l e (wR 5) s m args below meth c 0 0 (wE below args s D dA b0 ad S0 F) 1 D dA b0 ad S0 41 [some (.ref 188)] [] yr28
    refine w_iconst X dX11_year_41 rfl ci_0 ?_
    exact w_iret X dX11_year_42 hr (hT _ _ (wok_s hf))
set_option maxRecDepth 4000 in
theorem kX11_year (l : Launch) {h : wSt} {res : Int32 × wSt} (hf : fX11_year h  = some res) : wC l yX11_year cX11_year 1 (some .int) 5 S0 [.ref 188] h (wFI (fun a b => res.1 = a ∧ res.2 = b)) := by
  refine w_meth2 0 (by decide) (Nat.le_of_ble_eq_true rfl) (ls := [some (.ref 188)]) rfl ?_
  intro p e s m args below meth c D dA b0 ad X hr
  exact pX11_year_b0 X hr  (K := fun z => res = z) (fun x h2 hz => ⟨x, rfl, by rw [hz], by rw [hz]⟩) ⟨res, hf, rfl⟩
set_option maxRecDepth 4000 in
theorem pX11_isSkin_b0 (X : wCx p s m args meth c RX11 cX11_isSkin 2 D dA b0 ad) (hr : meth.sig.returnType = (some .boolean)) {h : wSt} {x0 : Int32} {K : Bool → Prop} (hT : ∀ (x : Bool), K x → F (some (.int (wb x))) h) (hf : wok (fX11_isSkin h x0) K) : wM p l e (wR 1) s m args below meth c 0 0 (wE below args s D dA b0 ad S0 F) 2 D dA b0 ad S0 0 [some (.ref 188), some (.int x0)] [] h := by
  unfold fX11_isSkin at hf
  refine w_iload_n X dX11_isSkin_0 rfl rfl rfl ?_
  refine w_if_lt X dX11_isSkin_1 rfl (t := 18) rfl (fun hc => ?_) (fun hc => ?_)
  · have hf := wok_t hf hc
    refine w_iconst X dX11_isSkin_18 rfl ci_0 ?_
    exact w_zret X dX11_isSkin_19 hr rfl (hT false (wok_s hf))
  · have hf := wok_f hf hc
    refine w_iload_n X dX11_isSkin_4 rfl rfl rfl ?_
    refine w_aload_n X dX11_isSkin_5 rfl rfl rfl ?_
    refine w_getR X dX11_isSkin_6 rfl fl_X11_13 S0_188 rfl ?_
    refine w_iconst X dX11_isSkin_9 rfl ci_0 ?_
    refine w_iald X dX11_isSkin_10 rfl (j := 0) cn_0 S0_190 (show wib 0 6 by decide) ?_
    refine w_icmp_ge X dX11_isSkin_11 rfl (t := 18) rfl (fun hc => ?_) (fun hc => ?_)
    · have hf := wok_t hf hc
      refine w_iconst X dX11_isSkin_18 rfl ci_0 ?_
      exact w_zret X dX11_isSkin_19 hr rfl (hT false (wok_s hf))
    · have hf := wok_f hf hc
      refine w_iconst X dX11_isSkin_14 rfl ci_1 ?_
      refine w_goto X dX11_isSkin_15 (t := 19) rfl ?_
      exact w_zret X dX11_isSkin_19 hr rfl (hT true (wok_s hf))
set_option maxRecDepth 4000 in
theorem kX11_isSkin (l : Launch) {h : wSt} {x0 : Int32} {res : Bool} (hf : fX11_isSkin h x0 = some res) : wC l yX11_isSkin cX11_isSkin 2 (some .boolean) 1 S0 [.ref 188, .int x0] h (wFZ (fun a b => res = a ∧ h = b)) := by
  refine w_meth2 0 (by decide) (Nat.le_of_ble_eq_true rfl) (ls := [some (.ref 188), some (.int x0)]) rfl ?_
  intro p e s m args below meth c D dA b0 ad X hr
  exact pX11_isSkin_b0 X hr  (K := fun z => res = z) (fun x hz => ⟨x, rfl, hz, rfl⟩) ⟨res, hf, rfl⟩
set_option maxRecDepth 4000 in
theorem pX11_isText_b0 (X : wCx p s m args meth c RX11 cX11_isText 2 D dA b0 ad) (hr : meth.sig.returnType = (some .boolean)) {h : wSt} {x0 : Int32} {K : Bool → Prop} (hT : ∀ (x : Bool), K x → F (some (.int (wb x))) h) (hf : wok (fX11_isText h x0) K) : wM p l e (wR 1) s m args below meth c 0 0 (wE below args s D dA b0 ad S0 F) 2 D dA b0 ad S0 0 [some (.ref 188), some (.int x0)] [] h := by
  unfold fX11_isText at hf
  refine w_iload_n X dX11_isText_0 rfl rfl rfl ?_
  refine w_if_lt X dX11_isText_1 rfl (t := 18) rfl (fun hc => ?_) (fun hc => ?_)
  · have hf := wok_t hf hc
    refine w_iconst X dX11_isText_18 rfl ci_0 ?_
    exact w_zret X dX11_isText_19 hr rfl (hT false (wok_s hf))
  · have hf := wok_f hf hc
    refine w_iload_n X dX11_isText_4 rfl rfl rfl ?_
    refine w_aload_n X dX11_isText_5 rfl rfl rfl ?_
    refine w_getR X dX11_isText_6 rfl fl_X11_13 S0_188 rfl ?_
    refine w_iconst X dX11_isText_9 rfl ci_1 ?_
    refine w_iald X dX11_isText_10 rfl (j := 1) cn_1 S0_190 (show wib 1 6 by decide) ?_
    refine w_icmp_ge X dX11_isText_11 rfl (t := 18) rfl (fun hc => ?_) (fun hc => ?_)
    · have hf := wok_t hf hc
      refine w_iconst X dX11_isText_18 rfl ci_0 ?_
      exact w_zret X dX11_isText_19 hr rfl (hT false (wok_s hf))
    · have hf := wok_f hf hc
      refine w_iconst X dX11_isText_14 rfl ci_1 ?_
      refine w_goto X dX11_isText_15 (t := 19) rfl ?_
      exact w_zret X dX11_isText_19 hr rfl (hT true (wok_s hf))
set_option maxRecDepth 4000 in
theorem kX11_isText (l : Launch) {h : wSt} {x0 : Int32} {res : Bool} (hf : fX11_isText h x0 = some res) : wC l yX11_isText cX11_isText 2 (some .boolean) 1 S0 [.ref 188, .int x0] h (wFZ (fun a b => res = a ∧ h = b)) := by
  refine w_meth2 0 (by decide) (Nat.le_of_ble_eq_true rfl) (ls := [some (.ref 188), some (.int x0)]) rfl ?_
  intro p e s m args below meth c D dA b0 ad X hr
  exact pX11_isText_b0 X hr  (K := fun z => res = z) (fun x hz => ⟨x, rfl, hz, rfl⟩) ⟨res, hf, rfl⟩
set_option maxRecDepth 4000 in
theorem pX11_isLine_b0 (X : wCx p s m args meth c RX11 cX11_isLine 3 D dA b0 ad) (hr : meth.sig.returnType = (some .boolean)) {h : wSt} {x0 : Int32} {x1 : Int32} {K : Bool → Prop} (hT : ∀ (x : Bool), K x → F (some (.int (wb x))) h) (hf : wok (fX11_isLine h x0 x1) K) : wM p l e (wR 2) s m args below meth c 0 0 (wE below args s D dA b0 ad S0 F) 3 D dA b0 ad S0 0 [some (.ref 188), some (.int x0), some (.int x1)] [] h := by
  unfold fX11_isLine at hf
  refine w_aload_n X dX11_isLine_0 rfl rfl rfl ?_
  refine w_iload_n X dX11_isLine_1 rfl rfl rfl ?_
  obtain ⟨yr21, eyr21, hf⟩ := wok_b hf
  refine w_callV X dX11_isLine_2 rfl vl_X11_353 (kX11_isSkin l  eyr21) S0_188 (As := [.int x0]) (st := []) rfl rfl (Nat.le_of_ble_eq_true rfl) ⟨Nat.le_of_ble_eq_true rfl, Nat.le_of_ble_eq_true rfl⟩ ⟨Nat.zero_le _, Nat.zero_le _⟩ (fun r h2 hF => ?_)
  obtain ⟨_, rfl, rfl, rfl⟩ := hF
  show wM p l e (wR 2) s m args below meth c 0 0 (wE below args s D dA b0 ad S0 F) 3 D dA b0 ad S0 5 [some (.ref 188), some (.int x0), some (.int x1)] [.int (wb yr21)] h
  refine w_if_eq X dX11_isLine_5 rfl (t := 26) rfl (fun hc => ?_) (fun hc => ?_)
  · have hf := wok_f hf (wb_0 hc)
    refine w_iconst X dX11_isLine_26 rfl ci_0 ?_
    exact w_zret X dX11_isLine_27 hr rfl (hT false (wok_s hf))
  · have hf := wok_t hf (wb_n0 hc)
    refine w_iload_n X dX11_isLine_8 rfl rfl rfl ?_
    refine w_if_lt X dX11_isLine_9 rfl (t := 26) rfl (fun hc => ?_) (fun hc => ?_)
    · have hf := wok_t hf hc
      refine w_iconst X dX11_isLine_26 rfl ci_0 ?_
      exact w_zret X dX11_isLine_27 hr rfl (hT false (wok_s hf))
    · have hf := wok_f hf hc
      refine w_iload_n X dX11_isLine_12 rfl rfl rfl ?_
      refine w_aload_n X dX11_isLine_13 rfl rfl rfl ?_
      refine w_getR X dX11_isLine_14 rfl fl_X11_23 S0_188 rfl ?_
      refine w_iload_n X dX11_isLine_17 rfl rfl rfl ?_
      obtain ⟨yhg22, hf⟩ := wok_g hf
      refine w_iald X dX11_isLine_18 rfl (j := x0.toNatClampNeg) rfl S0_193 yhg22 ?_
      refine w_icmp_ge X dX11_isLine_19 rfl (t := 26) rfl (fun hc => ?_) (fun hc => ?_)
      · have hf := wok_t hf hc
        refine w_iconst X dX11_isLine_26 rfl ci_0 ?_
        exact w_zret X dX11_isLine_27 hr rfl (hT false (wok_s hf))
      · have hf := wok_f hf hc
        refine w_iconst X dX11_isLine_22 rfl ci_1 ?_
        refine w_goto X dX11_isLine_23 (t := 27) rfl ?_
        exact w_zret X dX11_isLine_27 hr rfl (hT true (wok_s hf))
set_option maxRecDepth 4000 in
theorem kX11_isLine (l : Launch) {h : wSt} {x0 : Int32} {x1 : Int32} {res : Bool} (hf : fX11_isLine h x0 x1 = some res) : wC l yX11_isLine cX11_isLine 3 (some .boolean) 2 S0 [.ref 188, .int x0, .int x1] h (wFZ (fun a b => res = a ∧ h = b)) := by
  refine w_meth2 0 (by decide) (Nat.le_of_ble_eq_true rfl) (ls := [some (.ref 188), some (.int x0), some (.int x1)]) rfl ?_
  intro p e s m args below meth c D dA b0 ad X hr
  exact pX11_isLine_b0 X hr  (K := fun z => res = z) (fun x hz => ⟨x, rfl, hz, rfl⟩) ⟨res, hf, rfl⟩
set_option maxRecDepth 4000 in
theorem pX11_deepOf_l4b (X : wCx p s m args meth c RX11 cX11_deepOf 3 D dA b0 ad) (hr : meth.sig.returnType = (some .int)) {h : wSt} {v1 : Int32} {v2 : Int32} {K : (Int32 × Int32) ⊕ ((Int32)) → Prop} (hN : ∀ (n1 : Int32) (n2 : Int32), K (.inl (n1, n2)) → wM p l e (wR 1) s m args below meth c 0 0 (wE below args s D dA b0 ad S0 F) 3 D dA b0 ad S0 4 [none, some (.int n1), some (.int n2)] [] h) (hX0 : ∀ (n1 : Int32), K (.inr n1) → wM p l e (wR 1) s m args below meth c 0 0 (wE below args s D dA b0 ad S0 F) 3 D dA b0 ad S0 19 [none, some (.int n1), none] [] h) (hf : wok (fX11_deepOf_l4 h v1 v2) K) : wM p l e (wR 1) s m args below meth c 0 0 (wE below args s D dA b0 ad S0 F) 3 D dA b0 ad S0 4 [none, some (.int v1), some (.int v2)] [] h := by
  unfold fX11_deepOf_l4 at hf
  refine w_iload_n X dX11_deepOf_4 rfl rfl rfl ?_
  refine w_if_le X dX11_deepOf_5 rfl (t := 19) rfl (fun hc => ?_) (fun hc => ?_)
  · have hf := wok_t hf hc
    refine w_fg (ls2 := [none, some (.int v1), none]) ⟨rfl, trivial⟩ ?_
    exact hX0 _ (wok_s hf)
  · have hf := wok_f hf hc
    refine w_iinc X dX11_deepOf_8 rfl (v := (v1 + 1)) rfl rfl (Nat.le_of_ble_eq_true rfl) (cinc_1 _) (ls' := [none, some (.int (v1 + 1)), some (.int v2)]) rfl ?_
    refine w_iload_n X dX11_deepOf_11 rfl rfl rfl ?_
    refine w_bipush X dX11_deepOf_12 rfl cb_7 ?_
    refine w_idiv X dX11_deepOf_14 rfl (by decide) ?_
    refine w_istore_n X dX11_deepOf_15 rfl rfl rfl (Nat.le_of_ble_eq_true rfl) (ls' := [none, some (.int (v1 + 1)), some (.int (v2 / 7))]) rfl ?_
    refine w_goto X dX11_deepOf_16 (t := 4) rfl ?_
    exact hN _ _ (wok_s hf)
set_option maxRecDepth 4000 in
theorem pX11_deepOf_l4 (X : wCx p s m args meth c RX11 cX11_deepOf 3 D dA b0 ad) (hr : meth.sig.returnType = (some .int)) {h : wSt} {KE : (Int32) → Prop} (hX0 : ∀ (n1 : Int32), KE (n1) → wM p l e (wR 1) s m args below meth c 0 0 (wE below args s D dA b0 ad S0 F) 3 D dA b0 ad S0 19 [none, some (.int n1), none] [] h) : ∀ (n : Nat) (v1 : Int32) (v2 : Int32), wok (wit (fun v : (Int32 × Int32) => fX11_deepOf_l4 h v.1 v.2) n (v1, v2)) KE → wM p l e (wR 1) s m args below meth c 0 0 (wE below args s D dA b0 ad S0 F) 3 D dA b0 ad S0 4 [none, some (.int v1), some (.int v2)] [] h := by
  have key := wit_M (b := (fun v : (Int32 × Int32) => fX11_deepOf_l4 h v.1 v.2)) (KE := KE) (G := fun v => wM p l e (wR 1) s m args below meth c 0 0 (wE below args s D dA b0 ad S0 F) 3 D dA b0 ad S0 4 [none, some (.int v.1), some (.int v.2)] [] h) (fun v K hN hE hf => pX11_deepOf_l4b X hr  (fun n1 n2 hz => hN (n1, n2) hz) (fun z0 hz => hX0 z0 (hE _ hz)) hf)
  exact fun n v1 v2 hf => key n (v1, v2) hf
set_option maxRecDepth 4000 in
theorem pX11_deepOf_b0 (X : wCx p s m args meth c RX11 cX11_deepOf 3 D dA b0 ad) (hr : meth.sig.returnType = (some .int)) {h : wSt} {x0 : Int32} {K : Int32 → Prop} (hT : ∀ (x : Int32), K x → F (some (.int x)) h) (hf : wok (fX11_deepOf h x0) K) : wM p l e (wR 1) s m args below meth c 0 0 (wE below args s D dA b0 ad S0 F) 3 D dA b0 ad S0 0 [some (.int x0), none, none] [] h := by
  unfold fX11_deepOf at hf
  refine w_iconst X dX11_deepOf_0 rfl ci_0 ?_
  refine w_istore_n X dX11_deepOf_1 rfl rfl rfl (Nat.le_of_ble_eq_true rfl) (ls' := [some (.int x0), some (.int 0), none]) rfl ?_
  refine w_iload_n X dX11_deepOf_2 rfl rfl rfl ?_
  refine w_istore_n X dX11_deepOf_3 rfl rfl rfl (Nat.le_of_ble_eq_true rfl) (ls' := [some (.int x0), some (.int 0), some (.int x0)]) rfl ?_
  refine w_fg (ls2 := [none, some (.int 0), some (.int x0)]) ⟨rfl, rfl, trivial⟩ ?_
  obtain ⟨ye21, hye21, hf⟩ := wok_b hf
  refine pX11_deepOf_l4 X hr  (KE := fun z => ye21 = z) ?_ 3000 _ _ ⟨ye21, hye21, rfl⟩
  · intro yz22 hz
    subst hz
    refine w_iload_n X dX11_deepOf_19 rfl rfl rfl ?_
    exact w_iret X dX11_deepOf_20 hr (hT _ (wok_s hf))
set_option maxRecDepth 4000 in
theorem kX11_deepOf (l : Launch) {h : wSt} {x0 : Int32} {res : Int32} (hf : fX11_deepOf h x0 = some res) : wC l yX11_deepOf cX11_deepOf 3 (some .int) 1 S0 [.int x0] h (wFI (fun a b => res = a ∧ h = b)) := by
  refine w_meth2 2 (by decide) (Nat.le_of_ble_eq_true rfl) (ls := [some (.int x0), none, none]) rfl ?_
  intro p e s m args below meth c D dA b0 ad X hr
  exact pX11_deepOf_b0 X hr  (K := fun z => res = z) (fun x hz => ⟨x, rfl, hz, rfl⟩) ⟨res, hf, rfl⟩
set_option maxRecDepth 4000 in
theorem pX11_dampOf_b0 (X : wCx p s m args meth c RX11 cX11_dampOf 2 D dA b0 ad) (hr : meth.sig.returnType = (some .int)) {h : wSt} {x0 : Int32} {K : Int32 → Prop} (hT : ∀ (x : Int32), K x → F (some (.int x)) h) (hf : wok (fX11_dampOf h x0) K) : wM p l e (wR 1) s m args below meth c 0 0 (wE below args s D dA b0 ad S0 F) 2 D dA b0 ad S0 0 [some (.ref 188), some (.int x0)] [] h := by
  unfold fX11_dampOf at hf
  refine w_aload_n X dX11_dampOf_0 rfl rfl rfl ?_
  refine w_getR X dX11_dampOf_1 rfl fl_X11_13 S0_188 rfl ?_
  refine w_iconst X dX11_dampOf_4 rfl ci_2 ?_
  refine w_iald X dX11_dampOf_5 rfl (j := 2) cn_2 S0_190 (show wib 2 6 by decide) ?_
  refine w_if_ne X dX11_dampOf_6 rfl (t := 13) rfl (fun hc => ?_) (fun hc => ?_)
  · have hf := wok_f hf hc
    refine w_aload_n X dX11_dampOf_13 rfl rfl rfl ?_
    refine w_getR X dX11_dampOf_14 rfl fl_X11_41 S0_188 rfl ?_
    refine w_iload_n X dX11_dampOf_17 rfl rfl rfl ?_
    refine w_aload_n X dX11_dampOf_18 rfl rfl rfl ?_
    refine w_getR X dX11_dampOf_19 rfl fl_X11_13 S0_188 rfl ?_
    refine w_iconst X dX11_dampOf_22 rfl ci_2 ?_
    refine w_iald X dX11_dampOf_23 rfl (j := 2) cn_2 S0_190 (show wib 2 6 by decide) ?_
    obtain ⟨yhg21, hf⟩ := wok_g hf
    refine w_irem X dX11_dampOf_24 rfl yhg21 ?_
    obtain ⟨yhg22, hf⟩ := wok_g hf
    refine w_iald X dX11_dampOf_25 rfl (j := (x0 - x0 / (h.1 190 2) * (h.1 190 2)).toNatClampNeg) rfl S0_199 yhg22 ?_
    exact w_iret X dX11_dampOf_26 hr (hT _ (wok_s hf))
  · have hf := wok_t hf hc
    refine w_iconst X dX11_dampOf_9 rfl ci_0 ?_
    refine w_goto X dX11_dampOf_10 (t := 26) rfl ?_
    exact w_iret X dX11_dampOf_26 hr (hT _ (wok_s hf))
set_option maxRecDepth 4000 in
theorem kX11_dampOf (l : Launch) {h : wSt} {x0 : Int32} {res : Int32} (hf : fX11_dampOf h x0 = some res) : wC l yX11_dampOf cX11_dampOf 2 (some .int) 1 S0 [.ref 188, .int x0] h (wFI (fun a b => res = a ∧ h = b)) := by
  refine w_meth2 0 (by decide) (Nat.le_of_ble_eq_true rfl) (ls := [some (.ref 188), some (.int x0)]) rfl ?_
  intro p e s m args below meth c D dA b0 ad X hr
  exact pX11_dampOf_b0 X hr  (K := fun z => res = z) (fun x hz => ⟨x, rfl, hz, rfl⟩) ⟨res, hf, rfl⟩
set_option maxRecDepth 4000 in
theorem pX11_showsBy_b38 (X : wCx p s m args meth c RX11 cX11_showsBy 7 D dA b0 ad) (hr : meth.sig.returnType = (some .boolean)) {h : wSt} {v1 : Int32} {v3 : Int32} {v5 : Int32} {w0 : Int32} {K : Bool × wSt → Prop} (hT : ∀ (x : Bool) (h2 : wSt), K (x, h2) → F (some (.int (wb x))) h2)  (hf : wok (fX11_showsBy_b38 h v1 v3 v5 w0) K) : wM p l e (wR 4) s m args below meth c 0 0 (wE below args s D dA b0 ad S0 F) 7 D dA b0 ad S0 38 [some (.ref 188), some (.int v1), none, some (.int v3), none, some (.int v5), none] [.int w0] h := by
  unfold fX11_showsBy_b38 at hf
  refine w_istore X dX11_showsBy_38 rfl rfl (Nat.le_of_ble_eq_true rfl) (ls' := [some (.ref 188), some (.int v1), none, some (.int v3), none, some (.int v5), some (.int w0)]) rfl ?_
  refine w_aload_n X dX11_showsBy_40 rfl rfl rfl ?_
  refine w_getR X dX11_showsBy_41 rfl fl_X11_47 S0_188 rfl ?_
  refine w_iconst X dX11_showsBy_44 rfl ci_0 ?_
  refine w_iald X dX11_showsBy_45 rfl (j := 0) cn_0 S0_201 (show wib 0 2 by decide) ?_
  refine w_aload_n X dX11_showsBy_46 rfl rfl rfl ?_
  refine w_getR X dX11_showsBy_47 rfl fl_X11_44 S0_188 rfl ?_
  refine w_iconst X dX11_showsBy_50 rfl ci_0 ?_
  refine w_iald X dX11_showsBy_51 rfl (j := 0) cn_0 S0_200 (show wib 0 2 by decide) ?_
  refine w_icmp_ne X dX11_showsBy_52 rfl (t := 77) rfl (fun hc => ?_) (fun hc => ?_)
  · have hf := wok_f hf hc
    refine w_aload_n X dX11_showsBy_77 rfl rfl rfl ?_
    refine w_getR X dX11_showsBy_78 rfl fl_X11_87 S0_188 rfl ?_
    refine w_iconst X dX11_showsBy_81 rfl ci_1 ?_
    refine w_iload X dX11_showsBy_82 rfl rfl ?_
    refine w_iast X dX11_showsBy_84 rfl (j := 1) cn_1 S0_214 (show wib 1 20 by decide) ?_
    refine w_nmh (fun yh23 eyh23 => ?_)
    have hf := wok_l hf eyh23
    refine w_aload_n X dX11_showsBy_85 rfl rfl rfl ?_
    refine w_getR X dX11_showsBy_86 rfl fl_X11_87 S0_188 rfl ?_
    refine w_iconst X dX11_showsBy_89 rfl ci_2 ?_
    refine w_iload X dX11_showsBy_90 rfl rfl ?_
    refine w_iast X dX11_showsBy_92 rfl (j := 2) cn_2 S0_214 (show wib 2 20 by decide) ?_
    refine w_nmh (fun yh24 eyh24 => ?_)
    have hf := wok_l hf eyh24
    refine w_aload_n X dX11_showsBy_93 rfl rfl rfl ?_
    refine w_getR X dX11_showsBy_94 rfl fl_X11_87 S0_188 rfl ?_
    refine w_iconst X dX11_showsBy_97 rfl ci_3 ?_
    refine w_aload_n X dX11_showsBy_98 rfl rfl rfl ?_
    refine w_getR X dX11_showsBy_99 rfl fl_X11_35 S0_188 rfl ?_
    refine w_iload_n X dX11_showsBy_102 rfl rfl rfl ?_
    obtain ⟨yhg25, hf⟩ := wok_g hf
    refine w_iald X dX11_showsBy_103 rfl (j := v1.toNatClampNeg) rfl S0_197 yhg25 ?_
    refine w_iast X dX11_showsBy_104 rfl (j := 3) cn_3 S0_214 (show wib 3 20 by decide) ?_
    refine w_nmh (fun yh26 eyh26 => ?_)
    have hf := wok_l hf eyh26
    refine w_aload_n X dX11_showsBy_105 rfl rfl rfl ?_
    refine w_getR X dX11_showsBy_106 rfl fl_X11_87 S0_188 rfl ?_
    refine w_iconst X dX11_showsBy_109 rfl ci_4 ?_
    refine w_iload_n X dX11_showsBy_110 rfl rfl rfl ?_
    refine w_iast X dX11_showsBy_111 rfl (j := 4) cn_4 S0_214 (show wib 4 20 by decide) ?_
    refine w_nmh (fun yh27 eyh27 => ?_)
    have hf := wok_l hf eyh27
    refine w_aload_n X dX11_showsBy_112 rfl rfl rfl ?_
    refine w_iconst X dX11_showsBy_113 rfl ci_0 ?_
    obtain ⟨yr28, eyr28, hf⟩ := wok_b hf
    refine w_callV X dX11_showsBy_114 rfl vl_X11_356 (kX11_worked l  eyr28) S0_188 (As := [.int 0]) (st := []) rfl rfl (Nat.le_of_ble_eq_true rfl) ⟨Nat.le_of_ble_eq_true rfl, Nat.le_of_ble_eq_true rfl⟩ ⟨Nat.zero_le _, Nat.zero_le _⟩ (fun r h2 hF => ?_)
    obtain ⟨_, rfl, rfl, rfl⟩ := hF
    show wM p l e (wR 4) s m args below meth c 0 0 (wE below args s D dA b0 ad S0 F) 7 D dA b0 ad S0 117 [some (.ref 188), some (.int v1), none, some (.int v3), none, some (.int v5), some (.int w0)] [.int yr28.1] yr28.2
    refine w_if_eq X dX11_showsBy_117 rfl (t := 124) rfl (fun hc => ?_) (fun hc => ?_)
    · have hf := wok_t hf hc
      refine w_iconst X dX11_showsBy_124 rfl ci_0 ?_
      exact w_zret X dX11_showsBy_125 hr rfl (hT false _ (wok_s hf))
    · have hf := wok_f hf hc
      refine w_iconst X dX11_showsBy_120 rfl ci_1 ?_
      refine w_goto X dX11_showsBy_121 (t := 125) rfl ?_
      exact w_zret X dX11_showsBy_125 hr rfl (hT true _ (wok_s hf))
  · have hf := wok_t hf hc
    refine w_iload X dX11_showsBy_55 rfl rfl ?_
    refine w_iconst X dX11_showsBy_57 rfl ci_2 ?_
    refine w_imul X dX11_showsBy_58 rfl ?_
    refine w_aload_n X dX11_showsBy_59 rfl rfl rfl ?_
    refine w_getR X dX11_showsBy_60 rfl fl_X11_35 S0_188 rfl ?_
    refine w_iload_n X dX11_showsBy_63 rfl rfl rfl ?_
    obtain ⟨yhg29, hf⟩ := wok_g hf
    refine w_iald X dX11_showsBy_64 rfl (j := v1.toNatClampNeg) rfl S0_197 yhg29 ?_
    refine w_isub X dX11_showsBy_65 rfl ?_
    refine w_iload X dX11_showsBy_66 rfl rfl ?_
    refine w_icmp_ge X dX11_showsBy_68 rfl (t := 75) rfl (fun hc => ?_) (fun hc => ?_)
    · have hf := wok_t hf hc
      refine w_iconst X dX11_showsBy_75 rfl ci_0 ?_
      exact w_zret X dX11_showsBy_76 hr rfl (hT false _ (wok_s hf))
    · have hf := wok_f hf hc
      refine w_iconst X dX11_showsBy_71 rfl ci_1 ?_
      refine w_goto X dX11_showsBy_72 (t := 76) rfl ?_
      exact w_zret X dX11_showsBy_76 hr rfl (hT true _ (wok_s hf))
set_option maxRecDepth 4000 in
theorem pX11_showsBy_b19 (X : wCx p s m args meth c RX11 cX11_showsBy 7 D dA b0 ad) (hr : meth.sig.returnType = (some .boolean)) {h : wSt} {v1 : Int32} {v2 : Int32} {v3 : Int32} {w0 : Int32} {K : Bool × wSt → Prop} (hT : ∀ (x : Bool) (h2 : wSt), K (x, h2) → F (some (.int (wb x))) h2)  (hf : wok (fX11_showsBy_b19 h v1 v2 v3 w0) K) : wM p l e (wR 4) s m args below meth c 0 0 (wE below args s D dA b0 ad S0 F) 7 D dA b0 ad S0 19 [some (.ref 188), some (.int v1), some (.int v2), some (.int v3), none, none, none] [.int w0] h := by
  unfold fX11_showsBy_b19 at hf
  refine w_istore X dX11_showsBy_19 rfl rfl (Nat.le_of_ble_eq_true rfl) (ls' := [some (.ref 188), some (.int v1), some (.int v2), some (.int v3), none, some (.int w0), none]) rfl ?_
  refine w_aload_n X dX11_showsBy_21 rfl rfl rfl ?_
  refine w_getR X dX11_showsBy_22 rfl fl_X11_32 S0_188 rfl ?_
  refine w_iload_n X dX11_showsBy_25 rfl rfl rfl ?_
  obtain ⟨yhg22, hf⟩ := wok_g hf
  refine w_iald X dX11_showsBy_26 rfl (j := v1.toNatClampNeg) rfl S0_196 yhg22 ?_
  refine w_iconst X dX11_showsBy_27 rfl ci_2 ?_
  refine w_icmp_ne X dX11_showsBy_28 rfl (t := 37) rfl (fun hc => ?_) (fun hc => ?_)
  · have hf := wok_f hf hc
    refine w_iload_n X dX11_showsBy_37 rfl rfl rfl ?_
    refine w_fg (ls2 := [some (.ref 188), some (.int v1), none, some (.int v3), none, some (.int w0), none]) ⟨rfl, rfl, rfl, rfl, trivial⟩ ?_
    exact pX11_showsBy_b38 X hr  hT hf
  · have hf := wok_t hf hc
    refine w_iload_n X dX11_showsBy_31 rfl rfl rfl ?_
    refine w_iconst X dX11_showsBy_32 rfl ci_1 ?_
    refine w_isub X dX11_showsBy_33 rfl ?_
    refine w_goto X dX11_showsBy_34 (t := 38) rfl ?_
    refine w_fg (ls2 := [some (.ref 188), some (.int v1), none, some (.int v3), none, some (.int w0), none]) ⟨rfl, rfl, rfl, rfl, trivial⟩ ?_
    exact pX11_showsBy_b38 X hr  hT hf
set_option maxRecDepth 4000 in
theorem pX11_showsBy_b0 (X : wCx p s m args meth c RX11 cX11_showsBy 7 D dA b0 ad) (hr : meth.sig.returnType = (some .boolean)) {h : wSt} {x0 : Int32} {x1 : Int32} {x2 : Int32} {x3 : Int32} {K : Bool × wSt → Prop} (hT : ∀ (x : Bool) (h2 : wSt), K (x, h2) → F (some (.int (wb x))) h2) (hf : wok (fX11_showsBy h x0 x1 x2 x3) K) : wM p l e (wR 4) s m args below meth c 0 0 (wE below args s D dA b0 ad S0 F) 7 D dA b0 ad S0 0 [some (.ref 188), some (.int x0), some (.int x1), some (.int x2), some (.int x3), none, none] [] h := by
  unfold fX11_showsBy at hf
  refine w_aload_n X dX11_showsBy_0 rfl rfl rfl ?_
  refine w_getR X dX11_showsBy_1 rfl fl_X11_32 S0_188 rfl ?_
  refine w_iload_n X dX11_showsBy_4 rfl rfl rfl ?_
  obtain ⟨yhg21, hf⟩ := wok_g hf
  refine w_iald X dX11_showsBy_5 rfl (j := x0.toNatClampNeg) rfl S0_196 yhg21 ?_
  refine w_iconst X dX11_showsBy_6 rfl ci_1 ?_
  refine w_icmp_ne X dX11_showsBy_7 rfl (t := 17) rfl (fun hc => ?_) (fun hc => ?_)
  · have hf := wok_f hf hc
    refine w_iload X dX11_showsBy_17 rfl rfl ?_
    refine w_fg (ls2 := [some (.ref 188), some (.int x0), some (.int x1), some (.int x2), none, none, none]) ⟨rfl, rfl, rfl, rfl, trivial⟩ ?_
    exact pX11_showsBy_b19 X hr  hT hf
  · have hf := wok_t hf hc
    refine w_iload X dX11_showsBy_10 rfl rfl ?_
    refine w_iconst X dX11_showsBy_12 rfl ci_1 ?_
    refine w_iadd X dX11_showsBy_13 rfl ?_
    refine w_goto X dX11_showsBy_14 (t := 19) rfl ?_
    refine w_fg (ls2 := [some (.ref 188), some (.int x0), some (.int x1), some (.int x2), none, none, none]) ⟨rfl, rfl, rfl, rfl, trivial⟩ ?_
    exact pX11_showsBy_b19 X hr  hT hf
set_option maxRecDepth 4000 in
theorem kX11_showsBy (l : Launch) {h : wSt} {x0 : Int32} {x1 : Int32} {x2 : Int32} {x3 : Int32} {res : Bool × wSt} (hf : fX11_showsBy h x0 x1 x2 x3 = some res) : wC l yX11_showsBy cX11_showsBy 7 (some .boolean) 4 S0 [.ref 188, .int x0, .int x1, .int x2, .int x3] h (wFZ (fun a b => res.1 = a ∧ res.2 = b)) := by
  refine w_meth2 2 (by decide) (Nat.le_of_ble_eq_true rfl) (ls := [some (.ref 188), some (.int x0), some (.int x1), some (.int x2), some (.int x3), none, none]) rfl ?_
  intro p e s m args below meth c D dA b0 ad X hr
  exact pX11_showsBy_b0 X hr  (K := fun z => res = z) (fun x h2 hz => ⟨x, rfl, by rw [hz], by rw [hz]⟩) ⟨res, hf, rfl⟩
set_option maxRecDepth 4000 in
theorem pX11_readBy_l47b (X : wCx p s m args meth c RX11 cX11_readBy 7 D dA b0 ad) (hr : meth.sig.returnType = (some .int)) {h : wSt} {v1 : Int32} {v3 : Int32} {v5 : Int32} {v6 : Int32} {K : (Int32 × Int32 × wSt) ⊕ ((wSt) ⊕ (Int32 × wSt)) → Prop} (hN : ∀ (n5 : Int32) (n6 : Int32) (nh : wSt), K (.inl (n5, n6, nh)) → wM p l e (wR 5) s m args below meth c 0 0 (wE below args s D dA b0 ad S0 F) 7 D dA b0 ad S0 47 [some (.ref 188), some (.int v1), none, some (.int v3), none, some (.int n5), some (.int n6)] [] nh) (hX0 : ∀ (nh : wSt), K (.inr (.inl nh)) → wM p l e (wR 5) s m args below meth c 0 0 (wE below args s D dA b0 ad S0 F) 7 D dA b0 ad S0 98 [none, none, none, none, none, none, none] [] nh) (hT : ∀ (x : Int32) (h2 : wSt), K (.inr (.inr (x, h2))) → F (some (.int x)) h2) (hf : wok (fX11_readBy_l47 h v1 v3 v5 v6) K) : wM p l e (wR 5) s m args below meth c 0 0 (wE below args s D dA b0 ad S0 F) 7 D dA b0 ad S0 47 [some (.ref 188), some (.int v1), none, some (.int v3), none, some (.int v5), some (.int v6)] [] h := by
  unfold fX11_readBy_l47 at hf
  refine w_iload X dX11_readBy_47 rfl rfl ?_
  refine w_if_le X dX11_readBy_49 rfl (t := 98) rfl (fun hc => ?_) (fun hc => ?_)
  · have hf := wok_t hf hc
    refine w_fg (ls2 := [none, none, none, none, none, none, none]) trivial ?_
    exact hX0 _ (wok_s hf)
  · have hf := wok_f hf hc
    refine w_aload_n X dX11_readBy_52 rfl rfl rfl ?_
    refine w_iload X dX11_readBy_53 rfl rfl ?_
    refine w_bipush X dX11_readBy_55 rfl cb_7 ?_
    refine w_irem X dX11_readBy_57 rfl (by decide) ?_
    refine w_iconst X dX11_readBy_58 rfl ci_1 ?_
    refine w_isub X dX11_readBy_59 rfl ?_
    refine w_iload X dX11_readBy_60 rfl rfl ?_
    refine w_aload_n X dX11_readBy_62 rfl rfl rfl ?_
    refine w_getR X dX11_readBy_63 rfl fl_X11_120 S0_188 rfl ?_
    refine w_iconst X dX11_readBy_66 rfl ci_1 ?_
    refine w_iload_n X dX11_readBy_67 rfl rfl rfl ?_
    refine w_iadd X dX11_readBy_68 rfl ?_
    obtain ⟨yhg24, hf⟩ := wok_g hf
    refine w_iald X dX11_readBy_69 rfl (j := (1 + v1).toNatClampNeg) rfl S0_225 yhg24 ?_
    refine w_iload_n X dX11_readBy_70 rfl rfl rfl ?_
    obtain ⟨yr25, eyr25, hf⟩ := wok_b hf
    refine w_callV X dX11_readBy_71 rfl vl_X11_359 (kX11_showsBy l  eyr25) S0_188 (As := [.int ((v6 - v6 / 7 * 7) - 1), .int v5, .int (h.1 225 (1 + v1).toNatClampNeg), .int v3]) (st := []) rfl rfl (Nat.le_of_ble_eq_true rfl) ⟨Nat.le_of_ble_eq_true rfl, Nat.le_of_ble_eq_true rfl⟩ ⟨Nat.zero_le _, Nat.zero_le _⟩ (fun r h2 hF => ?_)
    obtain ⟨_, rfl, rfl, rfl⟩ := hF
    show wM p l e (wR 5) s m args below meth c 0 0 (wE below args s D dA b0 ad S0 F) 7 D dA b0 ad S0 74 [some (.ref 188), some (.int v1), none, some (.int v3), none, some (.int v5), some (.int v6)] [.int (wb yr25.1)] yr25.2
    refine w_if_eq X dX11_readBy_74 rfl (t := 85) rfl (fun hc => ?_) (fun hc => ?_)
    · have hf := wok_f hf (wb_0 hc)
      refine w_iinc X dX11_readBy_85 rfl (v := (v5 + 1)) rfl rfl (Nat.le_of_ble_eq_true rfl) (cinc_1 _) (ls' := [some (.ref 188), some (.int v1), none, some (.int v3), none, some (.int (v5 + 1)), some (.int v6)]) rfl ?_
      refine w_iload X dX11_readBy_88 rfl rfl ?_
      refine w_bipush X dX11_readBy_90 rfl cb_7 ?_
      refine w_idiv X dX11_readBy_92 rfl (by decide) ?_
      refine w_istore X dX11_readBy_93 rfl rfl (Nat.le_of_ble_eq_true rfl) (ls' := [some (.ref 188), some (.int v1), none, some (.int v3), none, some (.int (v5 + 1)), some (.int (v6 / 7))]) rfl ?_
      refine w_goto X dX11_readBy_95 (t := 47) rfl ?_
      exact hN _ _ _ (wok_s hf)
    · have hf := wok_t hf (wb_n0 hc)
      refine w_iload X dX11_readBy_77 rfl rfl ?_
      refine w_bipush X dX11_readBy_79 rfl cb_7 ?_
      refine w_irem X dX11_readBy_81 rfl (by decide) ?_
      refine w_iconst X dX11_readBy_82 rfl ci_1 ?_
      refine w_isub X dX11_readBy_83 rfl ?_
      exact w_iret X dX11_readBy_84 hr (hT _ _ (wok_s hf))
set_option maxRecDepth 4000 in
theorem pX11_readBy_l47 (X : wCx p s m args meth c RX11 cX11_readBy 7 D dA b0 ad) (hr : meth.sig.returnType = (some .int))  {v1 : Int32} {v3 : Int32} {KE : (wSt) ⊕ (Int32 × wSt) → Prop} (hX0 : ∀ (nh : wSt), KE ((.inl nh)) → wM p l e (wR 5) s m args below meth c 0 0 (wE below args s D dA b0 ad S0 F) 7 D dA b0 ad S0 98 [none, none, none, none, none, none, none] [] nh) (hT : ∀ (x : Int32) (h2 : wSt), KE ((.inr (x, h2))) → F (some (.int x)) h2) : ∀ (n : Nat) (v5 : Int32) (v6 : Int32) (h : wSt), wok (wit (fun v : (Int32 × Int32 × wSt) => fX11_readBy_l47 v.2.2 v1 v3 v.1 v.2.1) n (v5, v6, h)) KE → wM p l e (wR 5) s m args below meth c 0 0 (wE below args s D dA b0 ad S0 F) 7 D dA b0 ad S0 47 [some (.ref 188), some (.int v1), none, some (.int v3), none, some (.int v5), some (.int v6)] [] h := by
  have key := wit_M (b := (fun v : (Int32 × Int32 × wSt) => fX11_readBy_l47 v.2.2 v1 v3 v.1 v.2.1)) (KE := KE) (G := fun v => wM p l e (wR 5) s m args below meth c 0 0 (wE below args s D dA b0 ad S0 F) 7 D dA b0 ad S0 47 [some (.ref 188), some (.int v1), none, some (.int v3), none, some (.int v.1), some (.int v.2.1)] [] v.2.2) (fun v K hN hE hf => pX11_readBy_l47b X hr  (fun n5 n6 nh hz => hN (n5, n6, nh) hz) (fun z0 hz => hX0 z0 (hE _ hz)) (fun z0 z1 hz => hT z0 z1 (hE _ hz)) hf)
  exact fun n v5 v6 h hf => key n (v5, v6, h) hf
set_option maxRecDepth 4000 in
theorem pX11_readBy_b0 (X : wCx p s m args meth c RX11 cX11_readBy 7 D dA b0 ad) (hr : meth.sig.returnType = (some .int)) {h : wSt} {x0 : Int32} {x1 : Int32} {x2 : Int32} {K : Int32 × wSt → Prop} (hT : ∀ (x : Int32) (h2 : wSt), K (x, h2) → F (some (.int x)) h2) (hf : wok (fX11_readBy h x0 x1 x2) K) : wM p l e (wR 5) s m args below meth c 0 0 (wE below args s D dA b0 ad S0 F) 7 D dA b0 ad S0 0 [some (.ref 188), some (.int x0), some (.int x1), some (.int x2), none, none, none] [] h := by
  unfold fX11_readBy at hf
  refine w_aload_n X dX11_readBy_0 rfl rfl rfl ?_
  refine w_getR X dX11_readBy_1 rfl fl_X11_120 S0_188 rfl ?_
  refine w_bipush X dX11_readBy_4 rfl cb_7 ?_
  refine w_bipush X dX11_readBy_6 rfl cb_6 ?_
  refine w_iload_n X dX11_readBy_8 rfl rfl rfl ?_
  refine w_imul X dX11_readBy_9 rfl ?_
  refine w_iadd X dX11_readBy_10 rfl ?_
  refine w_iload_n X dX11_readBy_11 rfl rfl rfl ?_
  refine w_iadd X dX11_readBy_12 rfl ?_
  obtain ⟨yhg21, hf⟩ := wok_g hf
  refine w_iald X dX11_readBy_13 rfl (j := ((7 + (6 * x0)) + x1).toNatClampNeg) rfl S0_225 yhg21 ?_
  refine w_topi (fun yx22 eyx22 => ?_)
  have hf := wok_l hf eyx22
  refine w_istore X dX11_readBy_14 rfl rfl (Nat.le_of_ble_eq_true rfl) (ls' := [some (.ref 188), some (.int x0), some (.int x1), some (.int x2), some (.int yx22), none, none]) rfl ?_
  refine w_aload_n X dX11_readBy_16 rfl rfl rfl ?_
  refine w_getR X dX11_readBy_17 rfl fl_X11_120 S0_188 rfl ?_
  refine w_iconst X dX11_readBy_20 rfl ci_4 ?_
  refine w_iload_n X dX11_readBy_21 rfl rfl rfl ?_
  refine w_iadd X dX11_readBy_22 rfl ?_
  obtain ⟨yhg23, hf⟩ := wok_g hf
  refine w_iald X dX11_readBy_23 rfl (j := (4 + x0).toNatClampNeg) rfl S0_225 yhg23 ?_
  refine w_iload_n X dX11_readBy_24 rfl rfl rfl ?_
  refine w_ishr X dX11_readBy_25 rfl ?_
  refine w_iconst X dX11_readBy_26 rfl ci_1 ?_
  refine w_iand X dX11_readBy_27 rfl ?_
  refine w_iconst X dX11_readBy_28 rfl ci_1 ?_
  refine w_icmp_ne X dX11_readBy_29 rfl (t := 40) rfl (fun hc => ?_) (fun hc => ?_)
  · have hf := wok_f hf hc
    refine w_iconst X dX11_readBy_40 rfl ci_1 ?_
    refine w_istore X dX11_readBy_41 rfl rfl (Nat.le_of_ble_eq_true rfl) (ls' := [some (.ref 188), some (.int x0), some (.int x1), some (.int x2), some (.int yx22), some (.int 1), none]) rfl ?_
    refine w_iload X dX11_readBy_43 rfl rfl ?_
    refine w_istore X dX11_readBy_45 rfl rfl (Nat.le_of_ble_eq_true rfl) (ls' := [some (.ref 188), some (.int x0), some (.int x1), some (.int x2), some (.int yx22), some (.int 1), some (.int yx22)]) rfl ?_
    refine w_fg (ls2 := [some (.ref 188), some (.int x0), none, some (.int x2), none, some (.int 1), some (.int yx22)]) ⟨rfl, rfl, rfl, rfl, rfl, trivial⟩ ?_
    obtain ⟨ye26, hye26, hf⟩ := wok_b hf
    refine pX11_readBy_l47 X hr  (KE := fun z => ye26 = z) ?_ ?_ 3000 _ _ _ ⟨ye26, hye26, rfl⟩
    · intro yz27 hz
      subst hz
      refine w_iconst X dX11_readBy_98 rfl ci_m1 ?_
      exact w_iret X dX11_readBy_99 hr (hT _ _ (wok_s hf))
    · intro z zh hz
      subst hz
      exact hT _ _ (wok_s hf)
  · have hf := wok_t hf hc
    refine w_iload X dX11_readBy_32 rfl rfl ?_
    refine w_bipush X dX11_readBy_34 rfl cb_7 ?_
    refine w_irem X dX11_readBy_36 rfl (by decide) ?_
    refine w_iconst X dX11_readBy_37 rfl ci_1 ?_
    refine w_isub X dX11_readBy_38 rfl ?_
    exact w_iret X dX11_readBy_39 hr (hT _ _ (wok_s hf))
set_option maxRecDepth 4000 in
theorem kX11_readBy (l : Launch) {h : wSt} {x0 : Int32} {x1 : Int32} {x2 : Int32} {res : Int32 × wSt} (hf : fX11_readBy h x0 x1 x2 = some res) : wC l yX11_readBy cX11_readBy 7 (some .int) 5 S0 [.ref 188, .int x0, .int x1, .int x2] h (wFI (fun a b => res.1 = a ∧ res.2 = b)) := by
  refine w_meth2 3 (by decide) (Nat.le_of_ble_eq_true rfl) (ls := [some (.ref 188), some (.int x0), some (.int x1), some (.int x2), none, none, none]) rfl ?_
  intro p e s m args below meth c D dA b0 ad X hr
  exact pX11_readBy_b0 X hr  (K := fun z => res = z) (fun x h2 hz => ⟨x, rfl, by rw [hz], by rw [hz]⟩) ⟨res, hf, rfl⟩
set_option maxRecDepth 4000 in
theorem pX11_wholeBy_b89_23 (X : wCx p s m args meth c RX11 cX11_wholeBy 8 D dA b0 ad) (hr : meth.sig.returnType = (some .int)) {h : wSt} {v1 : Int32} {v2 : Int32} {v3 : Int32} {v4 : Int32} {v5 : Int32} {v6 : Int32} {K : (Int32 × Int32 × Int32 × Int32 × wSt) ⊕ ((Int32 × wSt)) → Prop} (hN : ∀ (n2 : Int32) (n4 : Int32) (n5 : Int32) (n6 : Int32) (nh : wSt), K (.inl (n2, n4, n5, n6, nh)) → wM p l e (wR 6) s m args below meth c 0 0 (wE below args s D dA b0 ad S0 F) 8 D dA b0 ad S0 23 [some (.ref 188), some (.int v1), some (.int n2), some (.int v3), some (.int n4), some (.int n5), some (.int n6), none] [] nh) (hX0 : ∀ (n2 : Int32) (nh : wSt), K (.inr (n2, nh)) → wM p l e (wR 6) s m args below meth c 0 0 (wE below args s D dA b0 ad S0 F) 8 D dA b0 ad S0 95 [some (.ref 188), some (.int v1), some (.int n2), some (.int v3), none, none, none, none] [] nh) (hf : wok (fX11_wholeBy_b89_23 h v1 v2 v3 v4 v5 v6) K) : wM p l e (wR 6) s m args below meth c 0 0 (wE below args s D dA b0 ad S0 F) 8 D dA b0 ad S0 89 [some (.ref 188), some (.int v1), some (.int v2), some (.int v3), some (.int v4), some (.int v5), some (.int v6), none] [] h := by
  unfold fX11_wholeBy_b89_23 at hf
  refine w_iinc X dX11_wholeBy_89 rfl (v := (v6 + 1)) rfl rfl (Nat.le_of_ble_eq_true rfl) (cinc_1 _) (ls' := [some (.ref 188), some (.int v1), some (.int v2), some (.int v3), some (.int v4), some (.int v5), some (.int (v6 + 1)), none]) rfl ?_
  refine w_goto X dX11_wholeBy_92 (t := 23) rfl ?_
  exact hN _ _ _ _ _ (wok_s hf)
set_option maxRecDepth 4000 in
theorem pX11_wholeBy_b59_23 (X : wCx p s m args meth c RX11 cX11_wholeBy 8 D dA b0 ad) (hr : meth.sig.returnType = (some .int)) {h : wSt} {v1 : Int32} {v2 : Int32} {v3 : Int32} {v6 : Int32} {v7 : Int32} {w0 : Int32} {K : (Int32 × Int32 × Int32 × Int32 × wSt) ⊕ ((Int32 × wSt)) → Prop} (hN : ∀ (n2 : Int32) (n4 : Int32) (n5 : Int32) (n6 : Int32) (nh : wSt), K (.inl (n2, n4, n5, n6, nh)) → wM p l e (wR 6) s m args below meth c 0 0 (wE below args s D dA b0 ad S0 F) 8 D dA b0 ad S0 23 [some (.ref 188), some (.int v1), some (.int n2), some (.int v3), some (.int n4), some (.int n5), some (.int n6), none] [] nh) (hX0 : ∀ (n2 : Int32) (nh : wSt), K (.inr (n2, nh)) → wM p l e (wR 6) s m args below meth c 0 0 (wE below args s D dA b0 ad S0 F) 8 D dA b0 ad S0 95 [some (.ref 188), some (.int v1), some (.int n2), some (.int v3), none, none, none, none] [] nh) (hf : wok (fX11_wholeBy_b59_23 h v1 v2 v3 v6 v7 w0) K) : wM p l e (wR 6) s m args below meth c 0 0 (wE below args s D dA b0 ad S0 F) 8 D dA b0 ad S0 59 [some (.ref 188), some (.int v1), some (.int v2), some (.int v3), none, none, some (.int v6), some (.int v7)] [.int w0] h := by
  unfold fX11_wholeBy_b59_23 at hf
  refine w_istore X dX11_wholeBy_59 rfl rfl (Nat.le_of_ble_eq_true rfl) (ls' := [some (.ref 188), some (.int v1), some (.int v2), some (.int v3), none, some (.int w0), some (.int v6), some (.int v7)]) rfl ?_
  refine w_iload X dX11_wholeBy_61 rfl rfl ?_
  refine w_istore X dX11_wholeBy_63 rfl rfl (Nat.le_of_ble_eq_true rfl) (ls' := [some (.ref 188), some (.int v1), some (.int v2), some (.int v3), some (.int v7), some (.int w0), some (.int v6), some (.int v7)]) rfl ?_
  refine w_iload X dX11_wholeBy_65 rfl rfl ?_
  refine w_if_lt X dX11_wholeBy_67 rfl (t := 89) rfl (fun hc => ?_) (fun hc => ?_)
  · have hf := wok_t hf hc
    refine w_fg (ls2 := [some (.ref 188), some (.int v1), some (.int v2), some (.int v3), some (.int v7), some (.int w0), some (.int v6), none]) ⟨rfl, rfl, rfl, rfl, rfl, rfl, rfl, trivial⟩ ?_
    exact pX11_wholeBy_b89_23 X hr  hN hX0 hf
  · have hf := wok_f hf hc
    refine w_iload X dX11_wholeBy_70 rfl rfl ?_
    refine w_aload_n X dX11_wholeBy_72 rfl rfl rfl ?_
    refine w_getR X dX11_wholeBy_73 rfl fl_X11_38 S0_188 rfl ?_
    refine w_iload X dX11_wholeBy_76 rfl rfl ?_
    obtain ⟨yhg23, hf⟩ := wok_g hf
    refine w_iald X dX11_wholeBy_78 rfl (j := v7.toNatClampNeg) rfl S0_198 yhg23 ?_
    refine w_icmp_lt X dX11_wholeBy_79 rfl (t := 89) rfl (fun hc => ?_) (fun hc => ?_)
    · have hf := wok_t hf hc
      refine w_fg (ls2 := [some (.ref 188), some (.int v1), some (.int v2), some (.int v3), some (.int v7), some (.int w0), some (.int v6), none]) ⟨rfl, rfl, rfl, rfl, rfl, rfl, rfl, trivial⟩ ?_
      exact pX11_wholeBy_b89_23 X hr  hN hX0 hf
    · have hf := wok_f hf hc
      refine w_iload_n X dX11_wholeBy_82 rfl rfl rfl ?_
      refine w_iconst X dX11_wholeBy_83 rfl ci_1 ?_
      refine w_iload X dX11_wholeBy_84 rfl rfl ?_
      refine w_ishl X dX11_wholeBy_86 rfl ?_
      refine w_ior X dX11_wholeBy_87 rfl ?_
      refine w_istore_n X dX11_wholeBy_88 rfl rfl rfl (Nat.le_of_ble_eq_true rfl) (ls' := [some (.ref 188), some (.int v1), some (.int (v2 ||| (1 <<< (v7 &&& 31)))), some (.int v3), some (.int v7), some (.int w0), some (.int v6), some (.int v7)]) rfl ?_
      refine w_fg (ls2 := [some (.ref 188), some (.int v1), some (.int (v2 ||| (1 <<< (v7 &&& 31)))), some (.int v3), some (.int v7), some (.int w0), some (.int v6), none]) ⟨rfl, rfl, rfl, rfl, rfl, rfl, rfl, trivial⟩ ?_
      exact pX11_wholeBy_b89_23 X hr  hN hX0 hf
set_option maxRecDepth 4000 in
theorem pX11_wholeBy_l23b (X : wCx p s m args meth c RX11 cX11_wholeBy 8 D dA b0 ad) (hr : meth.sig.returnType = (some .int)) {h : wSt} {v1 : Int32} {v3 : Int32} {v2 : Int32} {v4 : Int32} {v5 : Int32} {v6 : Int32} {K : (Int32 × Int32 × Int32 × Int32 × wSt) ⊕ ((Int32 × wSt)) → Prop} (hN : ∀ (n2 : Int32) (n4 : Int32) (n5 : Int32) (n6 : Int32) (nh : wSt), K (.inl (n2, n4, n5, n6, nh)) → wM p l e (wR 6) s m args below meth c 0 0 (wE below args s D dA b0 ad S0 F) 8 D dA b0 ad S0 23 [some (.ref 188), some (.int v1), some (.int n2), some (.int v3), some (.int n4), some (.int n5), some (.int n6), none] [] nh) (hX0 : ∀ (n2 : Int32) (nh : wSt), K (.inr (n2, nh)) → wM p l e (wR 6) s m args below meth c 0 0 (wE below args s D dA b0 ad S0 F) 8 D dA b0 ad S0 95 [some (.ref 188), some (.int v1), some (.int n2), some (.int v3), none, none, none, none] [] nh) (hf : wok (fX11_wholeBy_l23 h v1 v3 v2 v4 v5 v6) K) : wM p l e (wR 6) s m args below meth c 0 0 (wE below args s D dA b0 ad S0 F) 8 D dA b0 ad S0 23 [some (.ref 188), some (.int v1), some (.int v2), some (.int v3), some (.int v4), some (.int v5), some (.int v6), none] [] h := by
  unfold fX11_wholeBy_l23 at hf
  refine w_iload X dX11_wholeBy_23 rfl rfl ?_
  refine w_aload_n X dX11_wholeBy_25 rfl rfl rfl ?_
  refine w_getR X dX11_wholeBy_26 rfl fl_X11_23 S0_188 rfl ?_
  refine w_iload_n X dX11_wholeBy_29 rfl rfl rfl ?_
  obtain ⟨yhg21, hf⟩ := wok_g hf
  refine w_iald X dX11_wholeBy_30 rfl (j := v3.toNatClampNeg) rfl S0_193 yhg21 ?_
  refine w_icmp_ge X dX11_wholeBy_31 rfl (t := 95) rfl (fun hc => ?_) (fun hc => ?_)
  · have hf := wok_t hf hc
    refine w_fg (ls2 := [some (.ref 188), some (.int v1), some (.int v2), some (.int v3), none, none, none, none]) ⟨rfl, rfl, rfl, rfl, trivial⟩ ?_
    exact hX0 _ _ (wok_s hf)
  · have hf := wok_f hf hc
    refine w_aload_n X dX11_wholeBy_34 rfl rfl rfl ?_
    refine w_iload_n X dX11_wholeBy_35 rfl rfl rfl ?_
    refine w_iload X dX11_wholeBy_36 rfl rfl ?_
    refine w_iload_n X dX11_wholeBy_38 rfl rfl rfl ?_
    obtain ⟨yr22, eyr22, hf⟩ := wok_b hf
    refine w_callV X dX11_wholeBy_39 rfl vl_X11_363 (kX11_readBy l  eyr22) S0_188 (As := [.int v3, .int v6, .int v1]) (st := []) rfl rfl (Nat.le_of_ble_eq_true rfl) ⟨Nat.le_of_ble_eq_true rfl, Nat.le_of_ble_eq_true rfl⟩ ⟨Nat.zero_le _, Nat.zero_le _⟩ (fun r h2 hF => ?_)
    obtain ⟨_, rfl, rfl, rfl⟩ := hF
    show wM p l e (wR 6) s m args below meth c 0 0 (wE below args s D dA b0 ad S0 F) 8 D dA b0 ad S0 42 [some (.ref 188), some (.int v1), some (.int v2), some (.int v3), some (.int v4), some (.int v5), some (.int v6), none] [.int yr22.1] yr22.2
    refine w_istore X dX11_wholeBy_42 rfl rfl (Nat.le_of_ble_eq_true rfl) (ls' := [some (.ref 188), some (.int v1), some (.int v2), some (.int v3), some (.int v4), some (.int v5), some (.int v6), some (.int yr22.1)]) rfl ?_
    refine w_iload X dX11_wholeBy_44 rfl rfl ?_
    refine w_iload X dX11_wholeBy_46 rfl rfl ?_
    refine w_icmp_ne X dX11_wholeBy_48 rfl (t := 58) rfl (fun hc => ?_) (fun hc => ?_)
    · have hf := wok_f hf hc
      refine w_iconst X dX11_wholeBy_58 rfl ci_1 ?_
      refine w_fg (ls2 := [some (.ref 188), some (.int v1), some (.int v2), some (.int v3), none, none, some (.int v6), some (.int yr22.1)]) ⟨rfl, rfl, rfl, rfl, rfl, rfl, trivial⟩ ?_
      exact pX11_wholeBy_b59_23 X hr  hN hX0 hf
    · have hf := wok_t hf hc
      refine w_iload X dX11_wholeBy_51 rfl rfl ?_
      refine w_iconst X dX11_wholeBy_53 rfl ci_1 ?_
      refine w_iadd X dX11_wholeBy_54 rfl ?_
      refine w_goto X dX11_wholeBy_55 (t := 59) rfl ?_
      refine w_fg (ls2 := [some (.ref 188), some (.int v1), some (.int v2), some (.int v3), none, none, some (.int v6), some (.int yr22.1)]) ⟨rfl, rfl, rfl, rfl, rfl, rfl, trivial⟩ ?_
      exact pX11_wholeBy_b59_23 X hr  hN hX0 hf
set_option maxRecDepth 4000 in
theorem pX11_wholeBy_l23 (X : wCx p s m args meth c RX11 cX11_wholeBy 8 D dA b0 ad) (hr : meth.sig.returnType = (some .int))  {v1 : Int32} {v3 : Int32} {KE : (Int32 × wSt) → Prop} (hX0 : ∀ (n2 : Int32) (nh : wSt), KE ((n2, nh)) → wM p l e (wR 6) s m args below meth c 0 0 (wE below args s D dA b0 ad S0 F) 8 D dA b0 ad S0 95 [some (.ref 188), some (.int v1), some (.int n2), some (.int v3), none, none, none, none] [] nh) : ∀ (n : Nat) (v2 : Int32) (v4 : Int32) (v5 : Int32) (v6 : Int32) (h : wSt), wok (wit (fun v : (Int32 × Int32 × Int32 × Int32 × wSt) => fX11_wholeBy_l23 v.2.2.2.2 v1 v3 v.1 v.2.1 v.2.2.1 v.2.2.2.1) n (v2, v4, v5, v6, h)) KE → wM p l e (wR 6) s m args below meth c 0 0 (wE below args s D dA b0 ad S0 F) 8 D dA b0 ad S0 23 [some (.ref 188), some (.int v1), some (.int v2), some (.int v3), some (.int v4), some (.int v5), some (.int v6), none] [] h := by
  have key := wit_M (b := (fun v : (Int32 × Int32 × Int32 × Int32 × wSt) => fX11_wholeBy_l23 v.2.2.2.2 v1 v3 v.1 v.2.1 v.2.2.1 v.2.2.2.1)) (KE := KE) (G := fun v => wM p l e (wR 6) s m args below meth c 0 0 (wE below args s D dA b0 ad S0 F) 8 D dA b0 ad S0 23 [some (.ref 188), some (.int v1), some (.int v.1), some (.int v3), some (.int v.2.1), some (.int v.2.2.1), some (.int v.2.2.2.1), none] [] v.2.2.2.2) (fun v K hN hE hf => pX11_wholeBy_l23b X hr  (fun n2 n4 n5 n6 nh hz => hN (n2, n4, n5, n6, nh) hz) (fun z0 z1 hz => hX0 z0 z1 (hE _ hz)) hf)
  exact fun n v2 v4 v5 v6 h hf => key n (v2, v4, v5, v6, h) hf
set_option maxRecDepth 4000 in
theorem pX11_wholeBy_l4b (X : wCx p s m args meth c RX11 cX11_wholeBy 8 D dA b0 ad) (hr : meth.sig.returnType = (some .int)) {h : wSt} {v1 : Int32} {v2 : Int32} {v3 : Int32} {K : (Int32 × Int32 × wSt) ⊕ ((Int32 × wSt)) → Prop} (hN : ∀ (n2 : Int32) (n3 : Int32) (nh : wSt), K (.inl (n2, n3, nh)) → wM p l e (wR 6) s m args below meth c 0 0 (wE below args s D dA b0 ad S0 F) 8 D dA b0 ad S0 4 [some (.ref 188), some (.int v1), some (.int n2), some (.int n3), none, none, none, none] [] nh) (hX0 : ∀ (n2 : Int32) (nh : wSt), K (.inr (n2, nh)) → wM p l e (wR 6) s m args below meth c 0 0 (wE below args s D dA b0 ad S0 F) 8 D dA b0 ad S0 101 [none, none, some (.int n2), none, none, none, none, none] [] nh) (hf : wok (fX11_wholeBy_l4 h v1 v2 v3) K) : wM p l e (wR 6) s m args below meth c 0 0 (wE below args s D dA b0 ad S0 F) 8 D dA b0 ad S0 4 [some (.ref 188), some (.int v1), some (.int v2), some (.int v3), none, none, none, none] [] h := by
  unfold fX11_wholeBy_l4 at hf
  refine w_iload_n X dX11_wholeBy_4 rfl rfl rfl ?_
  refine w_aload_n X dX11_wholeBy_5 rfl rfl rfl ?_
  refine w_getR X dX11_wholeBy_6 rfl fl_X11_13 S0_188 rfl ?_
  refine w_iconst X dX11_wholeBy_9 rfl ci_0 ?_
  refine w_iald X dX11_wholeBy_10 rfl (j := 0) cn_0 S0_190 (show wib 0 6 by decide) ?_
  refine w_icmp_ge X dX11_wholeBy_11 rfl (t := 101) rfl (fun hc => ?_) (fun hc => ?_)
  · have hf := wok_t hf hc
    refine w_fg (ls2 := [none, none, some (.int v2), none, none, none, none, none]) ⟨rfl, trivial⟩ ?_
    exact hX0 _ _ (wok_s hf)
  · have hf := wok_f hf hc
    refine w_iconst X dX11_wholeBy_14 rfl ci_m1 ?_
    refine w_istore X dX11_wholeBy_15 rfl rfl (Nat.le_of_ble_eq_true rfl) (ls' := [some (.ref 188), some (.int v1), some (.int v2), some (.int v3), some (.int (-1)), none, none, none]) rfl ?_
    refine w_iconst X dX11_wholeBy_17 rfl ci_0 ?_
    refine w_istore X dX11_wholeBy_18 rfl rfl (Nat.le_of_ble_eq_true rfl) (ls' := [some (.ref 188), some (.int v1), some (.int v2), some (.int v3), some (.int (-1)), some (.int 0), none, none]) rfl ?_
    refine w_iconst X dX11_wholeBy_20 rfl ci_0 ?_
    refine w_istore X dX11_wholeBy_21 rfl rfl (Nat.le_of_ble_eq_true rfl) (ls' := [some (.ref 188), some (.int v1), some (.int v2), some (.int v3), some (.int (-1)), some (.int 0), some (.int 0), none]) rfl ?_
    obtain ⟨ye24, hye24, hf⟩ := wok_b hf
    refine pX11_wholeBy_l23 X hr  (KE := fun z => ye24 = z) ?_ 3000 _ _ _ _ _ ⟨ye24, hye24, rfl⟩
    · intro yz25 yz26 hz
      subst hz
      refine w_iinc X dX11_wholeBy_95 rfl (v := (v3 + 1)) rfl rfl (Nat.le_of_ble_eq_true rfl) (cinc_1 _) (ls' := [some (.ref 188), some (.int v1), some (.int yz25), some (.int (v3 + 1)), none, none, none, none]) rfl ?_
      refine w_goto X dX11_wholeBy_98 (t := 4) rfl ?_
      exact hN _ _ _ (wok_s hf)
set_option maxRecDepth 4000 in
theorem pX11_wholeBy_l4 (X : wCx p s m args meth c RX11 cX11_wholeBy 8 D dA b0 ad) (hr : meth.sig.returnType = (some .int))  {v1 : Int32} {KE : (Int32 × wSt) → Prop} (hX0 : ∀ (n2 : Int32) (nh : wSt), KE ((n2, nh)) → wM p l e (wR 6) s m args below meth c 0 0 (wE below args s D dA b0 ad S0 F) 8 D dA b0 ad S0 101 [none, none, some (.int n2), none, none, none, none, none] [] nh) : ∀ (n : Nat) (v2 : Int32) (v3 : Int32) (h : wSt), wok (wit (fun v : (Int32 × Int32 × wSt) => fX11_wholeBy_l4 v.2.2 v1 v.1 v.2.1) n (v2, v3, h)) KE → wM p l e (wR 6) s m args below meth c 0 0 (wE below args s D dA b0 ad S0 F) 8 D dA b0 ad S0 4 [some (.ref 188), some (.int v1), some (.int v2), some (.int v3), none, none, none, none] [] h := by
  have key := wit_M (b := (fun v : (Int32 × Int32 × wSt) => fX11_wholeBy_l4 v.2.2 v1 v.1 v.2.1)) (KE := KE) (G := fun v => wM p l e (wR 6) s m args below meth c 0 0 (wE below args s D dA b0 ad S0 F) 8 D dA b0 ad S0 4 [some (.ref 188), some (.int v1), some (.int v.1), some (.int v.2.1), none, none, none, none] [] v.2.2) (fun v K hN hE hf => pX11_wholeBy_l4b X hr  (fun n2 n3 nh hz => hN (n2, n3, nh) hz) (fun z0 z1 hz => hX0 z0 z1 (hE _ hz)) hf)
  exact fun n v2 v3 h hf => key n (v2, v3, h) hf
set_option maxRecDepth 4000 in
theorem pX11_wholeBy_b0 (X : wCx p s m args meth c RX11 cX11_wholeBy 8 D dA b0 ad) (hr : meth.sig.returnType = (some .int)) {h : wSt} {x0 : Int32} {K : Int32 × wSt → Prop} (hT : ∀ (x : Int32) (h2 : wSt), K (x, h2) → F (some (.int x)) h2) (hf : wok (fX11_wholeBy h x0) K) : wM p l e (wR 6) s m args below meth c 0 0 (wE below args s D dA b0 ad S0 F) 8 D dA b0 ad S0 0 [some (.ref 188), some (.int x0), none, none, none, none, none, none] [] h := by
  unfold fX11_wholeBy at hf
  refine w_iconst X dX11_wholeBy_0 rfl ci_0 ?_
  refine w_istore_n X dX11_wholeBy_1 rfl rfl rfl (Nat.le_of_ble_eq_true rfl) (ls' := [some (.ref 188), some (.int x0), some (.int 0), none, none, none, none, none]) rfl ?_
  refine w_iconst X dX11_wholeBy_2 rfl ci_0 ?_
  refine w_istore_n X dX11_wholeBy_3 rfl rfl rfl (Nat.le_of_ble_eq_true rfl) (ls' := [some (.ref 188), some (.int x0), some (.int 0), some (.int 0), none, none, none, none]) rfl ?_
  obtain ⟨ye27, hye27, hf⟩ := wok_b hf
  refine pX11_wholeBy_l4 X hr  (KE := fun z => ye27 = z) ?_ 3000 _ _ _ ⟨ye27, hye27, rfl⟩
  · intro yz28 yz29 hz
    subst hz
    refine w_iload_n X dX11_wholeBy_101 rfl rfl rfl ?_
    exact w_iret X dX11_wholeBy_102 hr (hT _ _ (wok_s hf))
set_option maxRecDepth 4000 in
theorem kX11_wholeBy (l : Launch) {h : wSt} {x0 : Int32} {res : Int32 × wSt} (hf : fX11_wholeBy h x0 = some res) : wC l yX11_wholeBy cX11_wholeBy 8 (some .int) 6 S0 [.ref 188, .int x0] h (wFI (fun a b => res.1 = a ∧ res.2 = b)) := by
  refine w_meth2 6 (by decide) (Nat.le_of_ble_eq_true rfl) (ls := [some (.ref 188), some (.int x0), none, none, none, none, none, none]) rfl ?_
  intro p e s m args below meth c D dA b0 ad X hr
  exact pX11_wholeBy_b0 X hr  (K := fun z => res = z) (fun x h2 hz => ⟨x, rfl, by rw [hz], by rw [hz]⟩) ⟨res, hf, rfl⟩
set_option maxRecDepth 4000 in
theorem pX11_wholeNow_b0 (X : wCx p s m args meth c RX11 cX11_wholeNow 1 D dA b0 ad) (hr : meth.sig.returnType = (some .int)) {h : wSt} {K : Int32 × wSt → Prop} (hT : ∀ (x : Int32) (h2 : wSt), K (x, h2) → F (some (.int x)) h2) (hf : wok (fX11_wholeNow h ) K) : wM p l e (wR 7) s m args below meth c 0 0 (wE below args s D dA b0 ad S0 F) 1 D dA b0 ad S0 0 [some (.ref 188)] [] h := by
  unfold fX11_wholeNow at hf
  refine w_aload_n X dX11_wholeNow_0 rfl rfl rfl ?_
  refine w_aload_n X dX11_wholeNow_1 rfl rfl rfl ?_
  refine w_aload_n X dX11_wholeNow_2 rfl rfl rfl ?_
  refine w_getR X dX11_wholeNow_3 rfl fl_X11_120 S0_188 rfl ?_
  refine w_iconst X dX11_wholeNow_6 rfl ci_0 ?_
  refine w_iald X dX11_wholeNow_7 rfl (j := 0) cn_0 S0_225 (show wib 0 25 by decide) ?_
  obtain ⟨yr21, eyr21, hf⟩ := wok_b hf
  refine w_callV X dX11_wholeNow_8 rfl vl_X11_367 (kX11_dampOf l  eyr21) S0_188 (As := [.int (h.1 225 0)]) (st := [.ref 188]) rfl rfl (Nat.le_of_ble_eq_true rfl) ⟨Nat.le_of_ble_eq_true rfl, Nat.le_of_ble_eq_true rfl⟩ ⟨Nat.zero_le _, Nat.zero_le _⟩ (fun r h2 hF => ?_)
  obtain ⟨_, rfl, rfl, rfl⟩ := hF
  show wM p l e (wR 7) s m args below meth c 0 0 (wE below args s D dA b0 ad S0 F) 1 D dA b0 ad S0 11 [some (.ref 188)] [.int yr21, .ref 188] h
  obtain ⟨yr22, eyr22, hf⟩ := wok_b hf
  refine w_callV X dX11_wholeNow_11 rfl vl_X11_370 (kX11_wholeBy l  eyr22) S0_188 (As := [.int yr21]) (st := []) rfl rfl (Nat.le_of_ble_eq_true rfl) ⟨Nat.le_of_ble_eq_true rfl, Nat.le_of_ble_eq_true rfl⟩ ⟨Nat.zero_le _, Nat.zero_le _⟩ (fun r h2 hF => ?_)
  obtain ⟨_, rfl, rfl, rfl⟩ := hF
  show wM p l e (wR 7) s m args below meth c 0 0 (wE below args s D dA b0 ad S0 F) 1 D dA b0 ad S0 14 [some (.ref 188)] [.int yr22.1] yr22.2
  exact w_iret X dX11_wholeNow_14 hr (hT _ _ (wok_s hf))
set_option maxRecDepth 4000 in
theorem kX11_wholeNow (l : Launch) {h : wSt} {res : Int32 × wSt} (hf : fX11_wholeNow h  = some res) : wC l yX11_wholeNow cX11_wholeNow 1 (some .int) 7 S0 [.ref 188] h (wFI (fun a b => res.1 = a ∧ res.2 = b)) := by
  refine w_meth2 0 (by decide) (Nat.le_of_ble_eq_true rfl) (ls := [some (.ref 188)]) rfl ?_
  intro p e s m args below meth c D dA b0 ad X hr
  exact pX11_wholeNow_b0 X hr  (K := fun z => res = z) (fun x h2 hz => ⟨x, rfl, by rw [hz], by rw [hz]⟩) ⟨res, hf, rfl⟩
set_option maxRecDepth 4000 in
theorem pX11_canWrite_l33b (X : wCx p s m args meth c RX11 cX11_canWrite 5 D dA b0 ad) (hr : meth.sig.returnType = (some .boolean)) {h : wSt} {v1 : Int32} {v2 : Int32} {v3 : Int32} {v4 : Int32} {K : (Int32) ⊕ ((Unit) ⊕ (Bool)) → Prop} (hN : ∀ (n4 : Int32), K (.inl n4) → wM p l e (wR 1) s m args below meth c 0 0 (wE below args s D dA b0 ad S0 F) 5 D dA b0 ad S0 33 [some (.ref 188), some (.int v1), some (.int v2), some (.int v3), some (.int n4)] [] h) (hX0 : K (.inr (.inl ())) → wM p l e (wR 1) s m args below meth c 0 0 (wE below args s D dA b0 ad S0 F) 5 D dA b0 ad S0 107 [none, none, none, none, none] [] h) (hT : ∀ (x : Bool), K (.inr (.inr x)) → F (some (.int (wb x))) h) (hf : wok (fX11_canWrite_l33 h v1 v2 v3 v4) K) : wM p l e (wR 1) s m args below meth c 0 0 (wE below args s D dA b0 ad S0 F) 5 D dA b0 ad S0 33 [some (.ref 188), some (.int v1), some (.int v2), some (.int v3), some (.int v4)] [] h := by
  unfold fX11_canWrite_l33 at hf
  refine w_iload X dX11_canWrite_33 rfl rfl ?_
  refine w_iload_n X dX11_canWrite_35 rfl rfl rfl ?_
  refine w_aload_n X dX11_canWrite_36 rfl rfl rfl ?_
  refine w_getR X dX11_canWrite_37 rfl fl_X11_38 S0_188 rfl ?_
  refine w_iload_n X dX11_canWrite_40 rfl rfl rfl ?_
  obtain ⟨yhg24, hf⟩ := wok_g hf
  refine w_iald X dX11_canWrite_41 rfl (j := v1.toNatClampNeg) rfl S0_198 yhg24 ?_
  refine w_iadd X dX11_canWrite_42 rfl ?_
  refine w_icmp_ge X dX11_canWrite_43 rfl (t := 107) rfl (fun hc => ?_) (fun hc => ?_)
  · have hf := wok_t hf hc
    refine w_fg (ls2 := [none, none, none, none, none]) trivial ?_
    exact hX0 (wok_s hf)
  · have hf := wok_f hf hc
    refine w_aload_n X dX11_canWrite_46 rfl rfl rfl ?_
    refine w_getR X dX11_canWrite_47 rfl fl_X11_29 S0_188 rfl ?_
    refine w_iload_n X dX11_canWrite_50 rfl rfl rfl ?_
    obtain ⟨yhg25, hf⟩ := wok_g hf
    refine w_iald X dX11_canWrite_51 rfl (j := v2.toNatClampNeg) rfl S0_195 yhg25 ?_
    refine w_iload X dX11_canWrite_52 rfl rfl ?_
    refine w_ishr X dX11_canWrite_54 rfl ?_
    refine w_iconst X dX11_canWrite_55 rfl ci_1 ?_
    refine w_iand X dX11_canWrite_56 rfl ?_
    refine w_iconst X dX11_canWrite_57 rfl ci_1 ?_
    refine w_icmp_eq X dX11_canWrite_58 rfl (t := 99) rfl (fun hc => ?_) (fun hc => ?_)
    · have hf := wok_t hf hc
      refine w_iconst X dX11_canWrite_99 rfl ci_0 ?_
      exact w_zret X dX11_canWrite_100 hr rfl (hT false (wok_s hf))
    · have hf := wok_f hf hc
      refine w_aload_n X dX11_canWrite_61 rfl rfl rfl ?_
      refine w_getR X dX11_canWrite_62 rfl fl_X11_120 S0_188 rfl ?_
      refine w_iconst X dX11_canWrite_65 rfl ci_4 ?_
      refine w_iload_n X dX11_canWrite_66 rfl rfl rfl ?_
      refine w_iadd X dX11_canWrite_67 rfl ?_
      obtain ⟨yhg26, hf⟩ := wok_g hf
      refine w_iald X dX11_canWrite_68 rfl (j := (4 + v2).toNatClampNeg) rfl S0_225 yhg26 ?_
      refine w_iload X dX11_canWrite_69 rfl rfl ?_
      refine w_ishr X dX11_canWrite_71 rfl ?_
      refine w_iconst X dX11_canWrite_72 rfl ci_1 ?_
      refine w_iand X dX11_canWrite_73 rfl ?_
      refine w_iconst X dX11_canWrite_74 rfl ci_1 ?_
      refine w_icmp_eq X dX11_canWrite_75 rfl (t := 99) rfl (fun hc => ?_) (fun hc => ?_)
      · have hf := wok_t hf hc
        refine w_iconst X dX11_canWrite_99 rfl ci_0 ?_
        exact w_zret X dX11_canWrite_100 hr rfl (hT false (wok_s hf))
      · have hf := wok_f hf hc
        refine w_aload_n X dX11_canWrite_78 rfl rfl rfl ?_
        refine w_getR X dX11_canWrite_79 rfl fl_X11_120 S0_188 rfl ?_
        refine w_bipush X dX11_canWrite_82 rfl cb_7 ?_
        refine w_bipush X dX11_canWrite_84 rfl cb_6 ?_
        refine w_iload_n X dX11_canWrite_86 rfl rfl rfl ?_
        refine w_imul X dX11_canWrite_87 rfl ?_
        refine w_iadd X dX11_canWrite_88 rfl ?_
        refine w_iload X dX11_canWrite_89 rfl rfl ?_
        refine w_iadd X dX11_canWrite_91 rfl ?_
        obtain ⟨yhg27, hf⟩ := wok_g hf
        refine w_iald X dX11_canWrite_92 rfl (j := ((7 + (6 * v2)) + v4).toNatClampNeg) rfl S0_225 yhg27 ?_
        refine w_ldcw X dX11_canWrite_93 rfl wd_1610 ?_
        refine w_icmp_lt X dX11_canWrite_96 rfl (t := 101) rfl (fun hc => ?_) (fun hc => ?_)
        · have hf := wok_t hf hc
          refine w_iinc X dX11_canWrite_101 rfl (v := (v4 + 1)) rfl rfl (Nat.le_of_ble_eq_true rfl) (cinc_1 _) (ls' := [some (.ref 188), some (.int v1), some (.int v2), some (.int v3), some (.int (v4 + 1))]) rfl ?_
          refine w_goto X dX11_canWrite_104 (t := 33) rfl ?_
          exact hN _ (wok_s hf)
        · have hf := wok_f hf hc
          refine w_iconst X dX11_canWrite_99 rfl ci_0 ?_
          exact w_zret X dX11_canWrite_100 hr rfl (hT false (wok_s hf))
set_option maxRecDepth 4000 in
theorem pX11_canWrite_l33 (X : wCx p s m args meth c RX11 cX11_canWrite 5 D dA b0 ad) (hr : meth.sig.returnType = (some .boolean)) {h : wSt} {v1 : Int32} {v2 : Int32} {v3 : Int32} {KE : (Unit) ⊕ (Bool) → Prop} (hX0 : KE ((.inl ())) → wM p l e (wR 1) s m args below meth c 0 0 (wE below args s D dA b0 ad S0 F) 5 D dA b0 ad S0 107 [none, none, none, none, none] [] h) (hT : ∀ (x : Bool), KE ((.inr x)) → F (some (.int (wb x))) h) : ∀ (n : Nat) (v4 : Int32), wok (wit (fun v : (Int32) => fX11_canWrite_l33 h v1 v2 v3 v) n v4) KE → wM p l e (wR 1) s m args below meth c 0 0 (wE below args s D dA b0 ad S0 F) 5 D dA b0 ad S0 33 [some (.ref 188), some (.int v1), some (.int v2), some (.int v3), some (.int v4)] [] h := by
  have key := wit_M (b := (fun v : (Int32) => fX11_canWrite_l33 h v1 v2 v3 v)) (KE := KE) (G := fun v => wM p l e (wR 1) s m args below meth c 0 0 (wE below args s D dA b0 ad S0 F) 5 D dA b0 ad S0 33 [some (.ref 188), some (.int v1), some (.int v2), some (.int v3), some (.int v)] [] h) (fun v K hN hE hf => pX11_canWrite_l33b X hr  (fun n4 hz => hN n4 hz) (fun  hz => hX0  (hE _ hz)) (fun z0 hz => hT z0 (hE _ hz)) hf)
  exact fun n v4 hf => key n v4 hf
set_option maxRecDepth 4000 in
theorem pX11_canWrite_b0 (X : wCx p s m args meth c RX11 cX11_canWrite 5 D dA b0 ad) (hr : meth.sig.returnType = (some .boolean)) {h : wSt} {x0 : Int32} {x1 : Int32} {x2 : Int32} {K : Bool → Prop} (hT : ∀ (x : Bool), K x → F (some (.int (wb x))) h) (hf : wok (fX11_canWrite h x0 x1 x2) K) : wM p l e (wR 1) s m args below meth c 0 0 (wE below args s D dA b0 ad S0 F) 5 D dA b0 ad S0 0 [some (.ref 188), some (.int x0), some (.int x1), some (.int x2), none] [] h := by
  unfold fX11_canWrite at hf
  refine w_aload_n X dX11_canWrite_0 rfl rfl rfl ?_
  refine w_getR X dX11_canWrite_1 rfl fl_X11_120 S0_188 rfl ?_
  refine w_iconst X dX11_canWrite_4 rfl ci_1 ?_
  refine w_iload_n X dX11_canWrite_5 rfl rfl rfl ?_
  refine w_iadd X dX11_canWrite_6 rfl ?_
  obtain ⟨yhg21, hf⟩ := wok_g hf
  refine w_iald X dX11_canWrite_7 rfl (j := (1 + x1).toNatClampNeg) rfl S0_225 yhg21 ?_
  refine w_if_eq X dX11_canWrite_8 rfl (t := 28) rfl (fun hc => ?_) (fun hc => ?_)
  · have hf := wok_t hf hc
    refine w_iconst X dX11_canWrite_28 rfl ci_0 ?_
    exact w_zret X dX11_canWrite_29 hr rfl (hT false (wok_s hf))
  · have hf := wok_f hf hc
    refine w_iload_n X dX11_canWrite_11 rfl rfl rfl ?_
    refine w_aload_n X dX11_canWrite_12 rfl rfl rfl ?_
    refine w_getR X dX11_canWrite_13 rfl fl_X11_38 S0_188 rfl ?_
    refine w_iload_n X dX11_canWrite_16 rfl rfl rfl ?_
    obtain ⟨yhg22, hf⟩ := wok_g hf
    refine w_iald X dX11_canWrite_17 rfl (j := x0.toNatClampNeg) rfl S0_198 yhg22 ?_
    refine w_iadd X dX11_canWrite_18 rfl ?_
    refine w_aload_n X dX11_canWrite_19 rfl rfl rfl ?_
    refine w_getR X dX11_canWrite_20 rfl fl_X11_23 S0_188 rfl ?_
    refine w_iload_n X dX11_canWrite_23 rfl rfl rfl ?_
    obtain ⟨yhg23, hf⟩ := wok_g hf
    refine w_iald X dX11_canWrite_24 rfl (j := x1.toNatClampNeg) rfl S0_193 yhg23 ?_
    refine w_icmp_le X dX11_canWrite_25 rfl (t := 30) rfl (fun hc => ?_) (fun hc => ?_)
    · have hf := wok_t hf hc
      refine w_iload_n X dX11_canWrite_30 rfl rfl rfl ?_
      refine w_istore X dX11_canWrite_31 rfl rfl (Nat.le_of_ble_eq_true rfl) (ls' := [some (.ref 188), some (.int x0), some (.int x1), some (.int x2), some (.int x2)]) rfl ?_
      obtain ⟨ye28, hye28, hf⟩ := wok_b hf
      refine pX11_canWrite_l33 X hr  (KE := fun z => ye28 = z) ?_ ?_ 3000 _ ⟨ye28, hye28, rfl⟩
      · intro hz
        subst hz
        refine w_iconst X dX11_canWrite_107 rfl ci_1 ?_
        exact w_zret X dX11_canWrite_108 hr rfl (hT true (wok_s hf))
      · intro z hz
        subst hz
        exact hT _ (wok_s hf)
    · have hf := wok_f hf hc
      refine w_iconst X dX11_canWrite_28 rfl ci_0 ?_
      exact w_zret X dX11_canWrite_29 hr rfl (hT false (wok_s hf))
set_option maxRecDepth 4000 in
theorem kX11_canWrite (l : Launch) {h : wSt} {x0 : Int32} {x1 : Int32} {x2 : Int32} {res : Bool} (hf : fX11_canWrite h x0 x1 x2 = some res) : wC l yX11_canWrite cX11_canWrite 5 (some .boolean) 1 S0 [.ref 188, .int x0, .int x1, .int x2] h (wFZ (fun a b => res = a ∧ h = b)) := by
  refine w_meth2 1 (by decide) (Nat.le_of_ble_eq_true rfl) (ls := [some (.ref 188), some (.int x0), some (.int x1), some (.int x2), none]) rfl ?_
  intro p e s m args below meth c D dA b0 ad X hr
  exact pX11_canWrite_b0 X hr  (K := fun z => res = z) (fun x hz => ⟨x, rfl, hz, rfl⟩) ⟨res, hf, rfl⟩
set_option maxRecDepth 4000 in
theorem pX11_writes_l3b (X : wCx p s m args meth c RX11 cX11_writes 5 D dA b0 ad) (hr : meth.sig.returnType = none) {h : wSt} {v1 : Int32} {v2 : Int32} {v3 : Int32} {v4 : Int32} {K : (Int32 × wSt) ⊕ ((wSt)) → Prop} (hN : ∀ (n4 : Int32) (nh : wSt), K (.inl (n4, nh)) → wM p l e (wR 1) s m args below meth c 0 0 (wE below args s D dA b0 ad S0 F) 5 D dA b0 ad S0 3 [some (.ref 188), some (.int v1), some (.int v2), some (.int v3), some (.int n4)] [] nh) (hX0 : ∀ (nh : wSt), K (.inr nh) → wM p l e (wR 1) s m args below meth c 0 0 (wE below args s D dA b0 ad S0 F) 5 D dA b0 ad S0 74 [none, none, none, none, none] [] nh) (hf : wok (fX11_writes_l3 h v1 v2 v3 v4) K) : wM p l e (wR 1) s m args below meth c 0 0 (wE below args s D dA b0 ad S0 F) 5 D dA b0 ad S0 3 [some (.ref 188), some (.int v1), some (.int v2), some (.int v3), some (.int v4)] [] h := by
  unfold fX11_writes_l3 at hf
  refine w_iload X dX11_writes_3 rfl rfl ?_
  refine w_iload_n X dX11_writes_5 rfl rfl rfl ?_
  refine w_aload_n X dX11_writes_6 rfl rfl rfl ?_
  refine w_getR X dX11_writes_7 rfl fl_X11_38 S0_188 rfl ?_
  refine w_iload_n X dX11_writes_10 rfl rfl rfl ?_
  obtain ⟨yhg21, hf⟩ := wok_g hf
  refine w_iald X dX11_writes_11 rfl (j := v1.toNatClampNeg) rfl S0_198 yhg21 ?_
  refine w_iadd X dX11_writes_12 rfl ?_
  refine w_icmp_ge X dX11_writes_13 rfl (t := 74) rfl (fun hc => ?_) (fun hc => ?_)
  · have hf := wok_t hf hc
    refine w_fg (ls2 := [none, none, none, none, none]) trivial ?_
    exact hX0 _ (wok_s hf)
  · have hf := wok_f hf hc
    refine w_aload_n X dX11_writes_16 rfl rfl rfl ?_
    refine w_getR X dX11_writes_17 rfl fl_X11_120 S0_188 rfl ?_
    refine w_bipush X dX11_writes_20 rfl cb_7 ?_
    refine w_bipush X dX11_writes_22 rfl cb_6 ?_
    refine w_iload_n X dX11_writes_24 rfl rfl rfl ?_
    refine w_imul X dX11_writes_25 rfl ?_
    refine w_iadd X dX11_writes_26 rfl ?_
    refine w_iload X dX11_writes_27 rfl rfl ?_
    refine w_iadd X dX11_writes_29 rfl ?_
    refine w_aload_n X dX11_writes_30 rfl rfl rfl ?_
    refine w_getR X dX11_writes_31 rfl fl_X11_120 S0_188 rfl ?_
    refine w_bipush X dX11_writes_34 rfl cb_7 ?_
    refine w_bipush X dX11_writes_36 rfl cb_6 ?_
    refine w_iload_n X dX11_writes_38 rfl rfl rfl ?_
    refine w_imul X dX11_writes_39 rfl ?_
    refine w_iadd X dX11_writes_40 rfl ?_
    refine w_iload X dX11_writes_41 rfl rfl ?_
    refine w_iadd X dX11_writes_43 rfl ?_
    obtain ⟨yhg22, hf⟩ := wok_g hf
    refine w_iald X dX11_writes_44 rfl (j := ((7 + (6 * v2)) + v4).toNatClampNeg) rfl S0_225 yhg22 ?_
    refine w_bipush X dX11_writes_45 rfl cb_7 ?_
    refine w_imul X dX11_writes_47 rfl ?_
    refine w_iload_n X dX11_writes_48 rfl rfl rfl ?_
    refine w_iadd X dX11_writes_49 rfl ?_
    refine w_iconst X dX11_writes_50 rfl ci_1 ?_
    refine w_iadd X dX11_writes_51 rfl ?_
    refine w_iast X dX11_writes_52 rfl (j := ((7 + (6 * v2)) + v4).toNatClampNeg) rfl S0_225 yhg22 ?_
    refine w_nmh (fun yh23 eyh23 => ?_)
    have hf := wok_l hf eyh23
    refine w_aload_n X dX11_writes_53 rfl rfl rfl ?_
    refine w_getR X dX11_writes_54 rfl fl_X11_120 S0_188 rfl ?_
    refine w_iconst X dX11_writes_57 rfl ci_4 ?_
    refine w_iload_n X dX11_writes_58 rfl rfl rfl ?_
    refine w_iadd X dX11_writes_59 rfl ?_
    refine w_dup2 X dX11_writes_60 rfl rfl rfl ?_
    obtain ⟨yhg24, hf⟩ := wok_g hf
    refine w_iald X dX11_writes_61 rfl (j := (4 + v2).toNatClampNeg) rfl S0_225 yhg24 ?_
    refine w_iconst X dX11_writes_62 rfl ci_1 ?_
    refine w_iload X dX11_writes_63 rfl rfl ?_
    refine w_ishl X dX11_writes_65 rfl ?_
    refine w_ior X dX11_writes_66 rfl ?_
    refine w_iast X dX11_writes_67 rfl (j := (4 + v2).toNatClampNeg) rfl S0_225 yhg24 ?_
    refine w_nmh (fun yh25 eyh25 => ?_)
    have hf := wok_l hf eyh25
    refine w_iinc X dX11_writes_68 rfl (v := (v4 + 1)) rfl rfl (Nat.le_of_ble_eq_true rfl) (cinc_1 _) (ls' := [some (.ref 188), some (.int v1), some (.int v2), some (.int v3), some (.int (v4 + 1))]) rfl ?_
    refine w_goto X dX11_writes_71 (t := 3) rfl ?_
    exact hN _ _ (wok_s hf)
set_option maxRecDepth 4000 in
theorem pX11_writes_l3 (X : wCx p s m args meth c RX11 cX11_writes 5 D dA b0 ad) (hr : meth.sig.returnType = none)  {v1 : Int32} {v2 : Int32} {v3 : Int32} {KE : (wSt) → Prop} (hX0 : ∀ (nh : wSt), KE (nh) → wM p l e (wR 1) s m args below meth c 0 0 (wE below args s D dA b0 ad S0 F) 5 D dA b0 ad S0 74 [none, none, none, none, none] [] nh) : ∀ (n : Nat) (v4 : Int32) (h : wSt), wok (wit (fun v : (Int32 × wSt) => fX11_writes_l3 v.2 v1 v2 v3 v.1) n (v4, h)) KE → wM p l e (wR 1) s m args below meth c 0 0 (wE below args s D dA b0 ad S0 F) 5 D dA b0 ad S0 3 [some (.ref 188), some (.int v1), some (.int v2), some (.int v3), some (.int v4)] [] h := by
  have key := wit_M (b := (fun v : (Int32 × wSt) => fX11_writes_l3 v.2 v1 v2 v3 v.1)) (KE := KE) (G := fun v => wM p l e (wR 1) s m args below meth c 0 0 (wE below args s D dA b0 ad S0 F) 5 D dA b0 ad S0 3 [some (.ref 188), some (.int v1), some (.int v2), some (.int v3), some (.int v.1)] [] v.2) (fun v K hN hE hf => pX11_writes_l3b X hr  (fun n4 nh hz => hN (n4, nh) hz) (fun z0 hz => hX0 z0 (hE _ hz)) hf)
  exact fun n v4 h hf => key n (v4, h) hf
set_option maxRecDepth 4000 in
theorem pX11_writes_b0 (X : wCx p s m args meth c RX11 cX11_writes 5 D dA b0 ad) (hr : meth.sig.returnType = none) {h : wSt} {x0 : Int32} {x1 : Int32} {x2 : Int32} {K : wSt → Prop} (hT : ∀ (h2 : wSt), K h2 → F none h2) (hf : wok (fX11_writes h x0 x1 x2) K) : wM p l e (wR 1) s m args below meth c 0 0 (wE below args s D dA b0 ad S0 F) 5 D dA b0 ad S0 0 [some (.ref 188), some (.int x0), some (.int x1), some (.int x2), none] [] h := by
  unfold fX11_writes at hf
  refine w_iload_n X dX11_writes_0 rfl rfl rfl ?_
  refine w_istore X dX11_writes_1 rfl rfl (Nat.le_of_ble_eq_true rfl) (ls' := [some (.ref 188), some (.int x0), some (.int x1), some (.int x2), some (.int x2)]) rfl ?_
  obtain ⟨ye26, hye26, hf⟩ := wok_b hf
  refine pX11_writes_l3 X hr  (KE := fun z => ye26 = z) ?_ 3000 _ _ ⟨ye26, hye26, rfl⟩
  · intro yz27 hz
    subst hz
    exact w_vret X dX11_writes_74 hr (hT _ (wok_s hf))
set_option maxRecDepth 4000 in
theorem kX11_writes (l : Launch) {h : wSt} {x0 : Int32} {x1 : Int32} {x2 : Int32} {res : wSt} (hf : fX11_writes h x0 x1 x2 = some res) : wC l yX11_writes cX11_writes 5 none 1 S0 [.ref 188, .int x0, .int x1, .int x2] h (wFV (fun b => res = b)) := by
  refine w_meth2 1 (by decide) (Nat.le_of_ble_eq_true rfl) (ls := [some (.ref 188), some (.int x0), some (.int x1), some (.int x2), none]) rfl ?_
  intro p e s m args below meth c D dA b0 ad X hr
  exact pX11_writes_b0 X hr  (K := fun z => res = z) (fun h2 hz => ⟨rfl, hz⟩) ⟨res, hf, rfl⟩
set_option maxRecDepth 4000 in
theorem pX11_scrapedBy_b94_20 (X : wCx p s m args meth c RX11 cX11_scrapedBy 8 D dA b0 ad) (hr : meth.sig.returnType = (some .int)) {h : wSt} {v1 : Int32} {v3 : Int32} {v4 : Int32} {v5 : Int32} {v6 : Int32} {K : (Int32 × Int32 × Int32) ⊕ ((Int32 × Int32)) → Prop} (hN : ∀ (n4 : Int32) (n5 : Int32) (n6 : Int32), K (.inl (n4, n5, n6)) → wM p l e (wR 1) s m args below meth c 0 0 (wE below args s D dA b0 ad S0 F) 8 D dA b0 ad S0 20 [some (.ref 188), some (.int v1), none, some (.int v3), some (.int n4), some (.int n5), some (.int n6), none] [] h) (hX0 : ∀ (n4 : Int32) (n5 : Int32), K (.inr (n4, n5)) → wM p l e (wR 1) s m args below meth c 0 0 (wE below args s D dA b0 ad S0 F) 8 D dA b0 ad S0 100 [none, none, none, some (.int v3), some (.int n4), some (.int n5), none, none] [] h) (hf : wok (fX11_scrapedBy_b94_20 h v1 v3 v4 v5 v6) K) : wM p l e (wR 1) s m args below meth c 0 0 (wE below args s D dA b0 ad S0 F) 8 D dA b0 ad S0 94 [some (.ref 188), some (.int v1), none, some (.int v3), some (.int v4), some (.int v5), some (.int v6), none] [] h := by
  unfold fX11_scrapedBy_b94_20 at hf
  refine w_iinc X dX11_scrapedBy_94 rfl (v := (v6 + 1)) rfl rfl (Nat.le_of_ble_eq_true rfl) (cinc_1 _) (ls' := [some (.ref 188), some (.int v1), none, some (.int v3), some (.int v4), some (.int v5), some (.int (v6 + 1)), none]) rfl ?_
  refine w_goto X dX11_scrapedBy_97 (t := 20) rfl ?_
  exact hN _ _ _ (wok_s hf)
set_option maxRecDepth 4000 in
theorem pX11_scrapedBy_b91_20 (X : wCx p s m args meth c RX11 cX11_scrapedBy 8 D dA b0 ad) (hr : meth.sig.returnType = (some .int)) {h : wSt} {v1 : Int32} {v3 : Int32} {v4 : Int32} {v6 : Int32} {w0 : Int32} {w1 : Int32} {K : (Int32 × Int32 × Int32) ⊕ ((Int32 × Int32)) → Prop} (hN : ∀ (n4 : Int32) (n5 : Int32) (n6 : Int32), K (.inl (n4, n5, n6)) → wM p l e (wR 1) s m args below meth c 0 0 (wE below args s D dA b0 ad S0 F) 8 D dA b0 ad S0 20 [some (.ref 188), some (.int v1), none, some (.int v3), some (.int n4), some (.int n5), some (.int n6), none] [] h) (hX0 : ∀ (n4 : Int32) (n5 : Int32), K (.inr (n4, n5)) → wM p l e (wR 1) s m args below meth c 0 0 (wE below args s D dA b0 ad S0 F) 8 D dA b0 ad S0 100 [none, none, none, some (.int v3), some (.int n4), some (.int n5), none, none] [] h) (hf : wok (fX11_scrapedBy_b91_20 h v1 v3 v4 v6 w0 w1) K) : wM p l e (wR 1) s m args below meth c 0 0 (wE below args s D dA b0 ad S0 F) 8 D dA b0 ad S0 91 [some (.ref 188), some (.int v1), none, some (.int v3), some (.int v4), none, some (.int v6), none] [.int w1, .int w0] h := by
  unfold fX11_scrapedBy_b91_20 at hf
  refine w_ior X dX11_scrapedBy_91 rfl ?_
  refine w_istore X dX11_scrapedBy_92 rfl rfl (Nat.le_of_ble_eq_true rfl) (ls' := [some (.ref 188), some (.int v1), none, some (.int v3), some (.int v4), some (.int (w0 ||| w1)), some (.int v6), none]) rfl ?_
  exact pX11_scrapedBy_b94_20 X hr  hN hX0 hf
set_option maxRecDepth 4000 in
theorem pX11_scrapedBy_l20b (X : wCx p s m args meth c RX11 cX11_scrapedBy 8 D dA b0 ad) (hr : meth.sig.returnType = (some .int)) {h : wSt} {v1 : Int32} {v3 : Int32} {v4 : Int32} {v5 : Int32} {v6 : Int32} {K : (Int32 × Int32 × Int32) ⊕ ((Int32 × Int32)) → Prop} (hN : ∀ (n4 : Int32) (n5 : Int32) (n6 : Int32), K (.inl (n4, n5, n6)) → wM p l e (wR 1) s m args below meth c 0 0 (wE below args s D dA b0 ad S0 F) 8 D dA b0 ad S0 20 [some (.ref 188), some (.int v1), none, some (.int v3), some (.int n4), some (.int n5), some (.int n6), none] [] h) (hX0 : ∀ (n4 : Int32) (n5 : Int32), K (.inr (n4, n5)) → wM p l e (wR 1) s m args below meth c 0 0 (wE below args s D dA b0 ad S0 F) 8 D dA b0 ad S0 100 [none, none, none, some (.int v3), some (.int n4), some (.int n5), none, none] [] h) (hf : wok (fX11_scrapedBy_l20 h v1 v3 v4 v5 v6) K) : wM p l e (wR 1) s m args below meth c 0 0 (wE below args s D dA b0 ad S0 F) 8 D dA b0 ad S0 20 [some (.ref 188), some (.int v1), none, some (.int v3), some (.int v4), some (.int v5), some (.int v6), none] [] h := by
  unfold fX11_scrapedBy_l20 at hf
  refine w_iload X dX11_scrapedBy_20 rfl rfl ?_
  refine w_bipush X dX11_scrapedBy_22 rfl cb_6 ?_
  refine w_icmp_ge X dX11_scrapedBy_24 rfl (t := 100) rfl (fun hc => ?_) (fun hc => ?_)
  · have hf := wok_t hf hc
    refine w_fg (ls2 := [none, none, none, some (.int v3), some (.int v4), some (.int v5), none, none]) ⟨rfl, rfl, rfl, trivial⟩ ?_
    exact hX0 _ _ (wok_s hf)
  · have hf := wok_f hf hc
    refine w_iload_n X dX11_scrapedBy_27 rfl rfl rfl ?_
    refine w_iload X dX11_scrapedBy_28 rfl rfl ?_
    refine w_ishr X dX11_scrapedBy_30 rfl ?_
    refine w_iconst X dX11_scrapedBy_31 rfl ci_1 ?_
    refine w_iand X dX11_scrapedBy_32 rfl ?_
    refine w_if_ne X dX11_scrapedBy_33 rfl (t := 39) rfl (fun hc => ?_) (fun hc => ?_)
    · have hf := wok_f hf hc
      refine w_aload_n X dX11_scrapedBy_39 rfl rfl rfl ?_
      refine w_getR X dX11_scrapedBy_40 rfl fl_X11_120 S0_188 rfl ?_
      refine w_bipush X dX11_scrapedBy_43 rfl cb_7 ?_
      refine w_bipush X dX11_scrapedBy_45 rfl cb_6 ?_
      refine w_iload_n X dX11_scrapedBy_47 rfl rfl rfl ?_
      refine w_imul X dX11_scrapedBy_48 rfl ?_
      refine w_iadd X dX11_scrapedBy_49 rfl ?_
      refine w_iload X dX11_scrapedBy_50 rfl rfl ?_
      refine w_iadd X dX11_scrapedBy_52 rfl ?_
      obtain ⟨yhg23, hf⟩ := wok_g hf
      refine w_iald X dX11_scrapedBy_53 rfl (j := ((7 + (6 * v1)) + v6).toNatClampNeg) rfl S0_225 yhg23 ?_
      refine w_bipush X dX11_scrapedBy_54 rfl cb_7 ?_
      refine w_irem X dX11_scrapedBy_56 rfl (by decide) ?_
      refine w_iconst X dX11_scrapedBy_57 rfl ci_1 ?_
      refine w_isub X dX11_scrapedBy_58 rfl ?_
      refine w_topi (fun yx24 eyx24 => ?_)
      have hf := wok_l hf eyx24
      refine w_istore X dX11_scrapedBy_59 rfl rfl (Nat.le_of_ble_eq_true rfl) (ls' := [some (.ref 188), some (.int v1), none, some (.int v3), some (.int v4), some (.int v5), some (.int v6), some (.int yx24)]) rfl ?_
      refine w_iload X dX11_scrapedBy_61 rfl rfl ?_
      refine w_aload_n X dX11_scrapedBy_63 rfl rfl rfl ?_
      refine w_getR X dX11_scrapedBy_64 rfl fl_X11_35 S0_188 rfl ?_
      refine w_iload X dX11_scrapedBy_67 rfl rfl ?_
      obtain ⟨yhg25, hf⟩ := wok_g hf
      refine w_iald X dX11_scrapedBy_69 rfl (j := yx24.toNatClampNeg) rfl S0_197 yhg25 ?_
      refine w_ior X dX11_scrapedBy_70 rfl ?_
      refine w_topi (fun yx26 eyx26 => ?_)
      have hf := wok_l hf eyx26
      refine w_istore X dX11_scrapedBy_71 rfl rfl (Nat.le_of_ble_eq_true rfl) (ls' := [some (.ref 188), some (.int v1), none, some (.int v3), some (.int yx26), some (.int v5), some (.int v6), some (.int yx24)]) rfl ?_
      refine w_iload X dX11_scrapedBy_73 rfl rfl ?_
      refine w_aload_n X dX11_scrapedBy_75 rfl rfl rfl ?_
      refine w_getR X dX11_scrapedBy_76 rfl fl_X11_32 S0_188 rfl ?_
      refine w_iload X dX11_scrapedBy_79 rfl rfl ?_
      refine w_iald X dX11_scrapedBy_81 rfl (j := yx24.toNatClampNeg) rfl S0_196 yhg25 ?_
      refine w_iconst X dX11_scrapedBy_82 rfl ci_3 ?_
      refine w_icmp_ne X dX11_scrapedBy_83 rfl (t := 90) rfl (fun hc => ?_) (fun hc => ?_)
      · have hf := wok_f hf hc
        refine w_iconst X dX11_scrapedBy_90 rfl ci_0 ?_
        refine w_fg (ls2 := [some (.ref 188), some (.int v1), none, some (.int v3), some (.int yx26), none, some (.int v6), none]) ⟨rfl, rfl, rfl, rfl, rfl, trivial⟩ ?_
        exact pX11_scrapedBy_b91_20 X hr  hN hX0 hf
      · have hf := wok_t hf hc
        refine w_iconst X dX11_scrapedBy_86 rfl ci_1 ?_
        refine w_goto X dX11_scrapedBy_87 (t := 91) rfl ?_
        refine w_fg (ls2 := [some (.ref 188), some (.int v1), none, some (.int v3), some (.int yx26), none, some (.int v6), none]) ⟨rfl, rfl, rfl, rfl, rfl, trivial⟩ ?_
        exact pX11_scrapedBy_b91_20 X hr  hN hX0 hf
    · have hf := wok_t hf hc
      refine w_goto X dX11_scrapedBy_36 (t := 94) rfl ?_
      exact pX11_scrapedBy_b94_20 X hr  hN hX0 hf
set_option maxRecDepth 4000 in
theorem pX11_scrapedBy_l20 (X : wCx p s m args meth c RX11 cX11_scrapedBy 8 D dA b0 ad) (hr : meth.sig.returnType = (some .int)) {h : wSt} {v1 : Int32} {v3 : Int32} {KE : (Int32 × Int32) → Prop} (hX0 : ∀ (n4 : Int32) (n5 : Int32), KE ((n4, n5)) → wM p l e (wR 1) s m args below meth c 0 0 (wE below args s D dA b0 ad S0 F) 8 D dA b0 ad S0 100 [none, none, none, some (.int v3), some (.int n4), some (.int n5), none, none] [] h) : ∀ (n : Nat) (v4 : Int32) (v5 : Int32) (v6 : Int32), wok (wit (fun v : (Int32 × Int32 × Int32) => fX11_scrapedBy_l20 h v1 v3 v.1 v.2.1 v.2.2) n (v4, v5, v6)) KE → wM p l e (wR 1) s m args below meth c 0 0 (wE below args s D dA b0 ad S0 F) 8 D dA b0 ad S0 20 [some (.ref 188), some (.int v1), none, some (.int v3), some (.int v4), some (.int v5), some (.int v6), none] [] h := by
  have key := wit_M (b := (fun v : (Int32 × Int32 × Int32) => fX11_scrapedBy_l20 h v1 v3 v.1 v.2.1 v.2.2)) (KE := KE) (G := fun v => wM p l e (wR 1) s m args below meth c 0 0 (wE below args s D dA b0 ad S0 F) 8 D dA b0 ad S0 20 [some (.ref 188), some (.int v1), none, some (.int v3), some (.int v.1), some (.int v.2.1), some (.int v.2.2), none] [] h) (fun v K hN hE hf => pX11_scrapedBy_l20b X hr  (fun n4 n5 n6 hz => hN (n4, n5, n6) hz) (fun z0 z1 hz => hX0 z0 z1 (hE _ hz)) hf)
  exact fun n v4 v5 v6 hf => key n (v4, v5, v6) hf
set_option maxRecDepth 4000 in
theorem pX11_scrapedBy_b0 (X : wCx p s m args meth c RX11 cX11_scrapedBy 8 D dA b0 ad) (hr : meth.sig.returnType = (some .int)) {h : wSt} {x0 : Int32} {x1 : Int32} {K : Int32 → Prop} (hT : ∀ (x : Int32), K x → F (some (.int x)) h) (hf : wok (fX11_scrapedBy h x0 x1) K) : wM p l e (wR 1) s m args below meth c 0 0 (wE below args s D dA b0 ad S0 F) 8 D dA b0 ad S0 0 [some (.ref 188), some (.int x0), some (.int x1), none, none, none, none, none] [] h := by
  unfold fX11_scrapedBy at hf
  refine w_aload_n X dX11_scrapedBy_0 rfl rfl rfl ?_
  refine w_getR X dX11_scrapedBy_1 rfl fl_X11_120 S0_188 rfl ?_
  refine w_iconst X dX11_scrapedBy_4 rfl ci_4 ?_
  refine w_iload_n X dX11_scrapedBy_5 rfl rfl rfl ?_
  refine w_iadd X dX11_scrapedBy_6 rfl ?_
  obtain ⟨yhg21, hf⟩ := wok_g hf
  refine w_iald X dX11_scrapedBy_7 rfl (j := (4 + x0).toNatClampNeg) rfl S0_225 yhg21 ?_
  refine w_iload_n X dX11_scrapedBy_8 rfl rfl rfl ?_
  refine w_iand X dX11_scrapedBy_9 rfl ?_
  refine w_topi (fun yx22 eyx22 => ?_)
  have hf := wok_l hf eyx22
  refine w_istore_n X dX11_scrapedBy_10 rfl rfl rfl (Nat.le_of_ble_eq_true rfl) (ls' := [some (.ref 188), some (.int x0), some (.int x1), some (.int yx22), none, none, none, none]) rfl ?_
  refine w_iconst X dX11_scrapedBy_11 rfl ci_0 ?_
  refine w_istore X dX11_scrapedBy_12 rfl rfl (Nat.le_of_ble_eq_true rfl) (ls' := [some (.ref 188), some (.int x0), some (.int x1), some (.int yx22), some (.int 0), none, none, none]) rfl ?_
  refine w_iconst X dX11_scrapedBy_14 rfl ci_0 ?_
  refine w_istore X dX11_scrapedBy_15 rfl rfl (Nat.le_of_ble_eq_true rfl) (ls' := [some (.ref 188), some (.int x0), some (.int x1), some (.int yx22), some (.int 0), some (.int 0), none, none]) rfl ?_
  refine w_iconst X dX11_scrapedBy_17 rfl ci_0 ?_
  refine w_istore X dX11_scrapedBy_18 rfl rfl (Nat.le_of_ble_eq_true rfl) (ls' := [some (.ref 188), some (.int x0), some (.int x1), some (.int yx22), some (.int 0), some (.int 0), some (.int 0), none]) rfl ?_
  refine w_fg (ls2 := [some (.ref 188), some (.int x0), none, some (.int yx22), some (.int 0), some (.int 0), some (.int 0), none]) ⟨rfl, rfl, rfl, rfl, rfl, rfl, trivial⟩ ?_
  obtain ⟨ye27, hye27, hf⟩ := wok_b hf
  refine pX11_scrapedBy_l20 X hr  (KE := fun z => ye27 = z) ?_ 3000 _ _ _ ⟨ye27, hye27, rfl⟩
  · intro yz28 yz29 hz
    subst hz
    refine w_iload_n X dX11_scrapedBy_100 rfl rfl rfl ?_
    refine w_if_ne X dX11_scrapedBy_101 rfl (t := 108) rfl (fun hc => ?_) (fun hc => ?_)
    · have hf := wok_f hf hc
      refine w_iconst X dX11_scrapedBy_108 rfl ci_1 ?_
      refine w_iload X dX11_scrapedBy_109 rfl rfl ?_
      refine w_iadd X dX11_scrapedBy_111 rfl ?_
      refine w_iload X dX11_scrapedBy_112 rfl rfl ?_
      refine w_iadd X dX11_scrapedBy_114 rfl ?_
      exact w_iret X dX11_scrapedBy_115 hr (hT _ (wok_s hf))
    · have hf := wok_t hf hc
      refine w_iconst X dX11_scrapedBy_104 rfl ci_0 ?_
      refine w_goto X dX11_scrapedBy_105 (t := 115) rfl ?_
      exact w_iret X dX11_scrapedBy_115 hr (hT _ (wok_s hf))
set_option maxRecDepth 4000 in
theorem kX11_scrapedBy (l : Launch) {h : wSt} {x0 : Int32} {x1 : Int32} {res : Int32} (hf : fX11_scrapedBy h x0 x1 = some res) : wC l yX11_scrapedBy cX11_scrapedBy 8 (some .int) 1 S0 [.ref 188, .int x0, .int x1] h (wFI (fun a b => res = a ∧ h = b)) := by
  refine w_meth2 5 (by decide) (Nat.le_of_ble_eq_true rfl) (ls := [some (.ref 188), some (.int x0), some (.int x1), none, none, none, none, none]) rfl ?_
  intro p e s m args below meth c D dA b0 ad X hr
  exact pX11_scrapedBy_b0 X hr  (K := fun z => res = z) (fun x hz => ⟨x, rfl, hz, rfl⟩) ⟨res, hf, rfl⟩
set_option maxRecDepth 4000 in
theorem pX11_scrapes_l63b (X : wCx p s m args meth c RX11 cX11_scrapes 4 D dA b0 ad) (hr : meth.sig.returnType = none) {h : wSt} {v1 : Int32} {v3 : Int32} {K : (Int32 × wSt) ⊕ ((wSt)) → Prop} (hN : ∀ (n3 : Int32) (nh : wSt), K (.inl (n3, nh)) → wM p l e (wR 2) s m args below meth c 0 0 (wE below args s D dA b0 ad S0 F) 4 D dA b0 ad S0 63 [some (.ref 188), some (.int v1), none, some (.int n3)] [] nh) (hX0 : ∀ (nh : wSt), K (.inr nh) → wM p l e (wR 2) s m args below meth c 0 0 (wE below args s D dA b0 ad S0 F) 4 D dA b0 ad S0 90 [none, none, none, none] [] nh) (hf : wok (fX11_scrapes_l63 h v1 v3) K) : wM p l e (wR 2) s m args below meth c 0 0 (wE below args s D dA b0 ad S0 F) 4 D dA b0 ad S0 63 [some (.ref 188), some (.int v1), none, some (.int v3)] [] h := by
  unfold fX11_scrapes_l63 at hf
  refine w_iload_n X dX11_scrapes_63 rfl rfl rfl ?_
  refine w_bipush X dX11_scrapes_64 rfl cb_6 ?_
  refine w_icmp_ge X dX11_scrapes_66 rfl (t := 90) rfl (fun hc => ?_) (fun hc => ?_)
  · have hf := wok_t hf hc
    refine w_fg (ls2 := [none, none, none, none]) trivial ?_
    exact hX0 _ (wok_s hf)
  · have hf := wok_f hf hc
    refine w_aload_n X dX11_scrapes_69 rfl rfl rfl ?_
    refine w_getR X dX11_scrapes_70 rfl fl_X11_120 S0_188 rfl ?_
    refine w_bipush X dX11_scrapes_73 rfl cb_7 ?_
    refine w_bipush X dX11_scrapes_75 rfl cb_6 ?_
    refine w_iload_n X dX11_scrapes_77 rfl rfl rfl ?_
    refine w_imul X dX11_scrapes_78 rfl ?_
    refine w_iadd X dX11_scrapes_79 rfl ?_
    refine w_iload_n X dX11_scrapes_80 rfl rfl rfl ?_
    refine w_iadd X dX11_scrapes_81 rfl ?_
    refine w_iconst X dX11_scrapes_82 rfl ci_0 ?_
    obtain ⟨yhg28, hf⟩ := wok_g hf
    refine w_iast X dX11_scrapes_83 rfl (j := ((7 + (6 * v1)) + v3).toNatClampNeg) rfl S0_225 yhg28 ?_
    refine w_nmh (fun yh29 eyh29 => ?_)
    have hf := wok_l hf eyh29
    refine w_iinc X dX11_scrapes_84 rfl (v := (v3 + 1)) rfl rfl (Nat.le_of_ble_eq_true rfl) (cinc_1 _) (ls' := [some (.ref 188), some (.int v1), none, some (.int (v3 + 1))]) rfl ?_
    refine w_goto X dX11_scrapes_87 (t := 63) rfl ?_
    exact hN _ _ (wok_s hf)
set_option maxRecDepth 4000 in
theorem pX11_scrapes_l63 (X : wCx p s m args meth c RX11 cX11_scrapes 4 D dA b0 ad) (hr : meth.sig.returnType = none)  {v1 : Int32} {KE : (wSt) → Prop} (hX0 : ∀ (nh : wSt), KE (nh) → wM p l e (wR 2) s m args below meth c 0 0 (wE below args s D dA b0 ad S0 F) 4 D dA b0 ad S0 90 [none, none, none, none] [] nh) : ∀ (n : Nat) (v3 : Int32) (h : wSt), wok (wit (fun v : (Int32 × wSt) => fX11_scrapes_l63 v.2 v1 v.1) n (v3, h)) KE → wM p l e (wR 2) s m args below meth c 0 0 (wE below args s D dA b0 ad S0 F) 4 D dA b0 ad S0 63 [some (.ref 188), some (.int v1), none, some (.int v3)] [] h := by
  have key := wit_M (b := (fun v : (Int32 × wSt) => fX11_scrapes_l63 v.2 v1 v.1)) (KE := KE) (G := fun v => wM p l e (wR 2) s m args below meth c 0 0 (wE below args s D dA b0 ad S0 F) 4 D dA b0 ad S0 63 [some (.ref 188), some (.int v1), none, some (.int v.1)] [] v.2) (fun v K hN hE hf => pX11_scrapes_l63b X hr  (fun n3 nh hz => hN (n3, nh) hz) (fun z0 hz => hX0 z0 (hE _ hz)) hf)
  exact fun n v3 h hf => key n (v3, h) hf
set_option maxRecDepth 4000 in
theorem pX11_scrapes_b0 (X : wCx p s m args meth c RX11 cX11_scrapes 4 D dA b0 ad) (hr : meth.sig.returnType = none) {h : wSt} {x0 : Int32} {x1 : Int32} {K : wSt → Prop} (hT : ∀ (h2 : wSt), K h2 → F none h2) (hf : wok (fX11_scrapes h x0 x1) K) : wM p l e (wR 2) s m args below meth c 0 0 (wE below args s D dA b0 ad S0 F) 4 D dA b0 ad S0 0 [some (.ref 188), some (.int x0), some (.int x1), none] [] h := by
  unfold fX11_scrapes at hf
  refine w_aload_n X dX11_scrapes_0 rfl rfl rfl ?_
  refine w_getR X dX11_scrapes_1 rfl fl_X11_120 S0_188 rfl ?_
  refine w_iconst X dX11_scrapes_4 rfl ci_1 ?_
  refine w_iload_n X dX11_scrapes_5 rfl rfl rfl ?_
  refine w_iadd X dX11_scrapes_6 rfl ?_
  refine w_dup2 X dX11_scrapes_7 rfl rfl rfl ?_
  obtain ⟨yhg21, hf⟩ := wok_g hf
  refine w_iald X dX11_scrapes_8 rfl (j := (1 + x0).toNatClampNeg) rfl S0_225 yhg21 ?_
  refine w_aload_n X dX11_scrapes_9 rfl rfl rfl ?_
  refine w_iload_n X dX11_scrapes_10 rfl rfl rfl ?_
  refine w_iload_n X dX11_scrapes_11 rfl rfl rfl ?_
  obtain ⟨yr22, eyr22, hf⟩ := wok_b hf
  refine w_callV X dX11_scrapes_12 rfl vl_X11_374 (kX11_scrapedBy l  eyr22) S0_188 (As := [.int x0, .int x1]) (st := [.int (h.1 225 (1 + x0).toNatClampNeg), .int (1 + x0), .ref 225]) rfl rfl (Nat.le_of_ble_eq_true rfl) ⟨Nat.le_of_ble_eq_true rfl, Nat.le_of_ble_eq_true rfl⟩ ⟨Nat.zero_le _, Nat.zero_le _⟩ (fun r h2 hF => ?_)
  obtain ⟨_, rfl, rfl, rfl⟩ := hF
  show wM p l e (wR 2) s m args below meth c 0 0 (wE below args s D dA b0 ad S0 F) 4 D dA b0 ad S0 15 [some (.ref 188), some (.int x0), some (.int x1), none] [.int yr22, .int (h.1 225 (1 + x0).toNatClampNeg), .int (1 + x0), .ref 225] h
  refine w_isub X dX11_scrapes_15 rfl ?_
  refine w_iast X dX11_scrapes_16 rfl (j := (1 + x0).toNatClampNeg) rfl S0_225 yhg21 ?_
  refine w_nmh (fun yh23 eyh23 => ?_)
  have hf := wok_l hf eyh23
  refine w_aload_n X dX11_scrapes_17 rfl rfl rfl ?_
  refine w_getR X dX11_scrapes_18 rfl fl_X11_120 S0_188 rfl ?_
  refine w_iconst X dX11_scrapes_21 rfl ci_4 ?_
  refine w_iload_n X dX11_scrapes_22 rfl rfl rfl ?_
  refine w_iadd X dX11_scrapes_23 rfl ?_
  refine w_dup2 X dX11_scrapes_24 rfl rfl rfl ?_
  obtain ⟨yhg24, hf⟩ := wok_g hf
  refine w_iald X dX11_scrapes_25 rfl (j := (4 + x0).toNatClampNeg) rfl S0_225 yhg24 ?_
  refine w_iload_n X dX11_scrapes_26 rfl rfl rfl ?_
  refine w_iconst X dX11_scrapes_27 rfl ci_m1 ?_
  refine w_ixor X dX11_scrapes_28 rfl ?_
  refine w_iand X dX11_scrapes_29 rfl ?_
  refine w_iast X dX11_scrapes_30 rfl (j := (4 + x0).toNatClampNeg) rfl S0_225 yhg24 ?_
  refine w_nmh (fun yh25 eyh25 => ?_)
  have hf := wok_l hf eyh25
  refine w_aload_n X dX11_scrapes_31 rfl rfl rfl ?_
  refine w_getR X dX11_scrapes_32 rfl fl_X11_120 S0_188 rfl ?_
  refine w_iconst X dX11_scrapes_35 rfl ci_1 ?_
  refine w_iload_n X dX11_scrapes_36 rfl rfl rfl ?_
  refine w_iadd X dX11_scrapes_37 rfl ?_
  refine w_iald X dX11_scrapes_38 rfl (j := (1 + x0).toNatClampNeg) rfl S0_225 yhg21 ?_
  refine w_if_le X dX11_scrapes_39 rfl (t := 43) rfl (fun hc => ?_) (fun hc => ?_)
  · have hf := wok_t hf hc
    refine w_aload_n X dX11_scrapes_43 rfl rfl rfl ?_
    refine w_getR X dX11_scrapes_44 rfl fl_X11_120 S0_188 rfl ?_
    refine w_iconst X dX11_scrapes_47 rfl ci_1 ?_
    refine w_iload_n X dX11_scrapes_48 rfl rfl rfl ?_
    refine w_iadd X dX11_scrapes_49 rfl ?_
    refine w_iconst X dX11_scrapes_50 rfl ci_0 ?_
    refine w_iast X dX11_scrapes_51 rfl (j := (1 + x0).toNatClampNeg) rfl S0_225 yhg21 ?_
    refine w_nmh (fun yh26 eyh26 => ?_)
    have hf := wok_l hf eyh26
    refine w_aload_n X dX11_scrapes_52 rfl rfl rfl ?_
    refine w_getR X dX11_scrapes_53 rfl fl_X11_120 S0_188 rfl ?_
    refine w_iconst X dX11_scrapes_56 rfl ci_4 ?_
    refine w_iload_n X dX11_scrapes_57 rfl rfl rfl ?_
    refine w_iadd X dX11_scrapes_58 rfl ?_
    refine w_iconst X dX11_scrapes_59 rfl ci_0 ?_
    refine w_iast X dX11_scrapes_60 rfl (j := (4 + x0).toNatClampNeg) rfl S0_225 yhg24 ?_
    refine w_nmh (fun yh27 eyh27 => ?_)
    have hf := wok_l hf eyh27
    refine w_iconst X dX11_scrapes_61 rfl ci_0 ?_
    refine w_istore_n X dX11_scrapes_62 rfl rfl rfl (Nat.le_of_ble_eq_true rfl) (ls' := [some (.ref 188), some (.int x0), some (.int x1), some (.int 0)]) rfl ?_
    refine w_fg (ls2 := [some (.ref 188), some (.int x0), none, some (.int 0)]) ⟨rfl, rfl, rfl, trivial⟩ ?_
    obtain ⟨ye30, hye30, hf⟩ := wok_b hf
    refine pX11_scrapes_l63 X hr  (KE := fun z => ye30 = z) ?_ 3000 _ _ ⟨ye30, hye30, rfl⟩
    · intro yz31 hz
      subst hz
      exact w_vret X dX11_scrapes_90 hr (hT _ (wok_s hf))
  · have hf := wok_f hf hc
    exact w_vret X dX11_scrapes_42 hr (hT _ (wok_s hf))
set_option maxRecDepth 4000 in
theorem kX11_scrapes (l : Launch) {h : wSt} {x0 : Int32} {x1 : Int32} {res : wSt} (hf : fX11_scrapes h x0 x1 = some res) : wC l yX11_scrapes cX11_scrapes 4 none 2 S0 [.ref 188, .int x0, .int x1] h (wFV (fun b => res = b)) := by
  refine w_meth2 1 (by decide) (Nat.le_of_ble_eq_true rfl) (ls := [some (.ref 188), some (.int x0), some (.int x1), none]) rfl ?_
  intro p e s m args below meth c D dA b0 ad X hr
  exact pX11_scrapes_b0 X hr  (K := fun z => res = z) (fun h2 hz => ⟨rfl, hz⟩) ⟨res, hf, rfl⟩
set_option maxRecDepth 4000 in
theorem pX11_placeOf_l2b (X : wCx p s m args meth c RX11 cX11_placeOf 4 D dA b0 ad) (hr : meth.sig.returnType = (some .int)) {h : wSt} {v1 : Int32} {v2 : Int32} {v3 : Int32} {K : (Int32) ⊕ ((Unit) ⊕ (Int32)) → Prop} (hN : ∀ (n3 : Int32), K (.inl n3) → wM p l e (wR 2) s m args below meth c 0 0 (wE below args s D dA b0 ad S0 F) 4 D dA b0 ad S0 2 [some (.ref 188), some (.int v1), some (.int v2), some (.int n3)] [] h) (hX0 : K (.inr (.inl ())) → wM p l e (wR 2) s m args below meth c 0 0 (wE below args s D dA b0 ad S0 F) 4 D dA b0 ad S0 30 [none, none, none, none] [] h) (hT : ∀ (x : Int32), K (.inr (.inr x)) → F (some (.int x)) h) (hf : wok (fX11_placeOf_l2 h v1 v2 v3) K) : wM p l e (wR 2) s m args below meth c 0 0 (wE below args s D dA b0 ad S0 F) 4 D dA b0 ad S0 2 [some (.ref 188), some (.int v1), some (.int v2), some (.int v3)] [] h := by
  unfold fX11_placeOf_l2 at hf
  refine w_iload_n X dX11_placeOf_2 rfl rfl rfl ?_
  refine w_aload_n X dX11_placeOf_3 rfl rfl rfl ?_
  refine w_getR X dX11_placeOf_4 rfl fl_X11_23 S0_188 rfl ?_
  refine w_iload_n X dX11_placeOf_7 rfl rfl rfl ?_
  obtain ⟨yhg21, hf⟩ := wok_g hf
  refine w_iald X dX11_placeOf_8 rfl (j := v2.toNatClampNeg) rfl S0_193 yhg21 ?_
  refine w_icmp_ge X dX11_placeOf_9 rfl (t := 30) rfl (fun hc => ?_) (fun hc => ?_)
  · have hf := wok_t hf hc
    refine w_fg (ls2 := [none, none, none, none]) trivial ?_
    exact hX0 (wok_s hf)
  · have hf := wok_f hf hc
    refine w_aload_n X dX11_placeOf_12 rfl rfl rfl ?_
    refine w_iload_n X dX11_placeOf_13 rfl rfl rfl ?_
    refine w_iload_n X dX11_placeOf_14 rfl rfl rfl ?_
    refine w_iload_n X dX11_placeOf_15 rfl rfl rfl ?_
    obtain ⟨yr22, eyr22, hf⟩ := wok_b hf
    refine w_callV X dX11_placeOf_16 rfl vl_X11_378 (kX11_canWrite l  eyr22) S0_188 (As := [.int v1, .int v2, .int v3]) (st := []) rfl rfl (Nat.le_of_ble_eq_true rfl) ⟨Nat.le_of_ble_eq_true rfl, Nat.le_of_ble_eq_true rfl⟩ ⟨Nat.zero_le _, Nat.zero_le _⟩ (fun r h2 hF => ?_)
    obtain ⟨_, rfl, rfl, rfl⟩ := hF
    show wM p l e (wR 2) s m args below meth c 0 0 (wE below args s D dA b0 ad S0 F) 4 D dA b0 ad S0 19 [some (.ref 188), some (.int v1), some (.int v2), some (.int v3)] [.int (wb yr22)] h
    refine w_if_eq X dX11_placeOf_19 rfl (t := 24) rfl (fun hc => ?_) (fun hc => ?_)
    · have hf := wok_f hf (wb_0 hc)
      refine w_iinc X dX11_placeOf_24 rfl (v := (v3 + 1)) rfl rfl (Nat.le_of_ble_eq_true rfl) (cinc_1 _) (ls' := [some (.ref 188), some (.int v1), some (.int v2), some (.int (v3 + 1))]) rfl ?_
      refine w_goto X dX11_placeOf_27 (t := 2) rfl ?_
      exact hN _ (wok_s hf)
    · have hf := wok_t hf (wb_n0 hc)
      refine w_iload_n X dX11_placeOf_22 rfl rfl rfl ?_
      exact w_iret X dX11_placeOf_23 hr (hT _ (wok_s hf))
set_option maxRecDepth 4000 in
theorem pX11_placeOf_l2 (X : wCx p s m args meth c RX11 cX11_placeOf 4 D dA b0 ad) (hr : meth.sig.returnType = (some .int)) {h : wSt} {v1 : Int32} {v2 : Int32} {KE : (Unit) ⊕ (Int32) → Prop} (hX0 : KE ((.inl ())) → wM p l e (wR 2) s m args below meth c 0 0 (wE below args s D dA b0 ad S0 F) 4 D dA b0 ad S0 30 [none, none, none, none] [] h) (hT : ∀ (x : Int32), KE ((.inr x)) → F (some (.int x)) h) : ∀ (n : Nat) (v3 : Int32), wok (wit (fun v : (Int32) => fX11_placeOf_l2 h v1 v2 v) n v3) KE → wM p l e (wR 2) s m args below meth c 0 0 (wE below args s D dA b0 ad S0 F) 4 D dA b0 ad S0 2 [some (.ref 188), some (.int v1), some (.int v2), some (.int v3)] [] h := by
  have key := wit_M (b := (fun v : (Int32) => fX11_placeOf_l2 h v1 v2 v)) (KE := KE) (G := fun v => wM p l e (wR 2) s m args below meth c 0 0 (wE below args s D dA b0 ad S0 F) 4 D dA b0 ad S0 2 [some (.ref 188), some (.int v1), some (.int v2), some (.int v)] [] h) (fun v K hN hE hf => pX11_placeOf_l2b X hr  (fun n3 hz => hN n3 hz) (fun  hz => hX0  (hE _ hz)) (fun z0 hz => hT z0 (hE _ hz)) hf)
  exact fun n v3 hf => key n v3 hf
set_option maxRecDepth 4000 in
theorem pX11_placeOf_b0 (X : wCx p s m args meth c RX11 cX11_placeOf 4 D dA b0 ad) (hr : meth.sig.returnType = (some .int)) {h : wSt} {x0 : Int32} {x1 : Int32} {K : Int32 → Prop} (hT : ∀ (x : Int32), K x → F (some (.int x)) h) (hf : wok (fX11_placeOf h x0 x1) K) : wM p l e (wR 2) s m args below meth c 0 0 (wE below args s D dA b0 ad S0 F) 4 D dA b0 ad S0 0 [some (.ref 188), some (.int x0), some (.int x1), none] [] h := by
  unfold fX11_placeOf at hf
  refine w_iconst X dX11_placeOf_0 rfl ci_0 ?_
  refine w_istore_n X dX11_placeOf_1 rfl rfl rfl (Nat.le_of_ble_eq_true rfl) (ls' := [some (.ref 188), some (.int x0), some (.int x1), some (.int 0)]) rfl ?_
  obtain ⟨ye23, hye23, hf⟩ := wok_b hf
  refine pX11_placeOf_l2 X hr  (KE := fun z => ye23 = z) ?_ ?_ 3000 _ ⟨ye23, hye23, rfl⟩
  · intro hz
    subst hz
    refine w_iconst X dX11_placeOf_30 rfl ci_m1 ?_
    exact w_iret X dX11_placeOf_31 hr (hT _ (wok_s hf))
  · intro z hz
    subst hz
    exact hT _ (wok_s hf)
set_option maxRecDepth 4000 in
theorem kX11_placeOf (l : Launch) {h : wSt} {x0 : Int32} {x1 : Int32} {res : Int32} (hf : fX11_placeOf h x0 x1 = some res) : wC l yX11_placeOf cX11_placeOf 4 (some .int) 2 S0 [.ref 188, .int x0, .int x1] h (wFI (fun a b => res = a ∧ h = b)) := by
  refine w_meth2 1 (by decide) (Nat.le_of_ble_eq_true rfl) (ls := [some (.ref 188), some (.int x0), some (.int x1), none]) rfl ?_
  intro p e s m args below meth c D dA b0 ad X hr
  exact pX11_placeOf_b0 X hr  (K := fun z => res = z) (fun x hz => ⟨x, rfl, hz, rfl⟩) ⟨res, hf, rfl⟩
set_option maxRecDepth 4000 in
theorem pX11_readIn_b59_5 (X : wCx p s m args meth c RX11 cX11_readIn 6 D dA b0 ad) (hr : meth.sig.returnType = (some .int)) {h : wSt} {v1 : Int32} {v2 : Int32} {v4 : Int32} {w0 : Int32} {w1 : Int32} {K : (Int32 × Int32 × wSt) ⊕ ((Int32 × wSt)) → Prop} (hN : ∀ (n3 : Int32) (n4 : Int32) (nh : wSt), K (.inl (n3, n4, nh)) → wM p l e (wR 6) s m args below meth c 0 0 (wE below args s D dA b0 ad S0 F) 6 D dA b0 ad S0 5 [some (.ref 188), some (.int v1), some (.int v2), some (.int n3), some (.int n4), none] [] nh) (hX0 : ∀ (n3 : Int32) (nh : wSt), K (.inr (n3, nh)) → wM p l e (wR 6) s m args below meth c 0 0 (wE below args s D dA b0 ad S0 F) 6 D dA b0 ad S0 67 [none, none, none, some (.int n3), none, none] [] nh) (hf : wok (fX11_readIn_b59_5 h v1 v2 v4 w0 w1) K) : wM p l e (wR 6) s m args below meth c 0 0 (wE below args s D dA b0 ad S0 F) 6 D dA b0 ad S0 59 [some (.ref 188), some (.int v1), some (.int v2), none, some (.int v4), none] [.int w1, .int w0] h := by
  unfold fX11_readIn_b59_5 at hf
  refine w_ior X dX11_readIn_59 rfl ?_
  refine w_istore_n X dX11_readIn_60 rfl rfl rfl (Nat.le_of_ble_eq_true rfl) (ls' := [some (.ref 188), some (.int v1), some (.int v2), some (.int (w0 ||| w1)), some (.int v4), none]) rfl ?_
  refine w_iinc X dX11_readIn_61 rfl (v := (v4 + 1)) rfl rfl (Nat.le_of_ble_eq_true rfl) (cinc_1 _) (ls' := [some (.ref 188), some (.int v1), some (.int v2), some (.int (w0 ||| w1)), some (.int (v4 + 1)), none]) rfl ?_
  refine w_goto X dX11_readIn_64 (t := 5) rfl ?_
  exact hN _ _ _ (wok_s hf)
set_option maxRecDepth 4000 in
theorem pX11_readIn_b58_5 (X : wCx p s m args meth c RX11 cX11_readIn 6 D dA b0 ad) (hr : meth.sig.returnType = (some .int)) {h : wSt} {v1 : Int32} {v2 : Int32} {v4 : Int32} {w0 : Int32} {K : (Int32 × Int32 × wSt) ⊕ ((Int32 × wSt)) → Prop} (hN : ∀ (n3 : Int32) (n4 : Int32) (nh : wSt), K (.inl (n3, n4, nh)) → wM p l e (wR 6) s m args below meth c 0 0 (wE below args s D dA b0 ad S0 F) 6 D dA b0 ad S0 5 [some (.ref 188), some (.int v1), some (.int v2), some (.int n3), some (.int n4), none] [] nh) (hX0 : ∀ (n3 : Int32) (nh : wSt), K (.inr (n3, nh)) → wM p l e (wR 6) s m args below meth c 0 0 (wE below args s D dA b0 ad S0 F) 6 D dA b0 ad S0 67 [none, none, none, some (.int n3), none, none] [] nh) (hf : wok (fX11_readIn_b58_5 h v1 v2 v4 w0) K) : wM p l e (wR 6) s m args below meth c 0 0 (wE below args s D dA b0 ad S0 F) 6 D dA b0 ad S0 58 [some (.ref 188), some (.int v1), some (.int v2), none, some (.int v4), none] [.int w0] h := by
  unfold fX11_readIn_b58_5 at hf
  refine w_iconst X dX11_readIn_58 rfl ci_0 ?_
  exact pX11_readIn_b59_5 X hr  hN hX0 hf
set_option maxRecDepth 4000 in
theorem pX11_readIn_b51_5 (X : wCx p s m args meth c RX11 cX11_readIn 6 D dA b0 ad) (hr : meth.sig.returnType = (some .int)) {h : wSt} {v1 : Int32} {v2 : Int32} {v4 : Int32} {w0 : Int32} {K : (Int32 × Int32 × wSt) ⊕ ((Int32 × wSt)) → Prop} (hN : ∀ (n3 : Int32) (n4 : Int32) (nh : wSt), K (.inl (n3, n4, nh)) → wM p l e (wR 6) s m args below meth c 0 0 (wE below args s D dA b0 ad S0 F) 6 D dA b0 ad S0 5 [some (.ref 188), some (.int v1), some (.int v2), some (.int n3), some (.int n4), none] [] nh) (hX0 : ∀ (n3 : Int32) (nh : wSt), K (.inr (n3, nh)) → wM p l e (wR 6) s m args below meth c 0 0 (wE below args s D dA b0 ad S0 F) 6 D dA b0 ad S0 67 [none, none, none, some (.int n3), none, none] [] nh) (hf : wok (fX11_readIn_b51_5 h v1 v2 v4 w0) K) : wM p l e (wR 6) s m args below meth c 0 0 (wE below args s D dA b0 ad S0 F) 6 D dA b0 ad S0 51 [some (.ref 188), some (.int v1), some (.int v2), none, some (.int v4), none] [.int w0] h := by
  unfold fX11_readIn_b51_5 at hf
  refine w_iconst X dX11_readIn_51 rfl ci_1 ?_
  refine w_iload X dX11_readIn_52 rfl rfl ?_
  refine w_ishl X dX11_readIn_54 rfl ?_
  refine w_goto X dX11_readIn_55 (t := 59) rfl ?_
  exact pX11_readIn_b59_5 X hr  hN hX0 hf
set_option maxRecDepth 4000 in
theorem pX11_readIn_l5b (X : wCx p s m args meth c RX11 cX11_readIn 6 D dA b0 ad) (hr : meth.sig.returnType = (some .int)) {h : wSt} {v1 : Int32} {v2 : Int32} {v3 : Int32} {v4 : Int32} {K : (Int32 × Int32 × wSt) ⊕ ((Int32 × wSt)) → Prop} (hN : ∀ (n3 : Int32) (n4 : Int32) (nh : wSt), K (.inl (n3, n4, nh)) → wM p l e (wR 6) s m args below meth c 0 0 (wE below args s D dA b0 ad S0 F) 6 D dA b0 ad S0 5 [some (.ref 188), some (.int v1), some (.int v2), some (.int n3), some (.int n4), none] [] nh) (hX0 : ∀ (n3 : Int32) (nh : wSt), K (.inr (n3, nh)) → wM p l e (wR 6) s m args below meth c 0 0 (wE below args s D dA b0 ad S0 F) 6 D dA b0 ad S0 67 [none, none, none, some (.int n3), none, none] [] nh) (hf : wok (fX11_readIn_l5 h v1 v2 v3 v4) K) : wM p l e (wR 6) s m args below meth c 0 0 (wE below args s D dA b0 ad S0 F) 6 D dA b0 ad S0 5 [some (.ref 188), some (.int v1), some (.int v2), some (.int v3), some (.int v4), none] [] h := by
  unfold fX11_readIn_l5 at hf
  refine w_iload X dX11_readIn_5 rfl rfl ?_
  refine w_aload_n X dX11_readIn_7 rfl rfl rfl ?_
  refine w_getR X dX11_readIn_8 rfl fl_X11_23 S0_188 rfl ?_
  refine w_iload_n X dX11_readIn_11 rfl rfl rfl ?_
  obtain ⟨yhg21, hf⟩ := wok_g hf
  refine w_iald X dX11_readIn_12 rfl (j := v1.toNatClampNeg) rfl S0_193 yhg21 ?_
  refine w_icmp_ge X dX11_readIn_13 rfl (t := 67) rfl (fun hc => ?_) (fun hc => ?_)
  · have hf := wok_t hf hc
    refine w_fg (ls2 := [none, none, none, some (.int v3), none, none]) ⟨rfl, trivial⟩ ?_
    exact hX0 _ _ (wok_s hf)
  · have hf := wok_f hf hc
    refine w_aload_n X dX11_readIn_16 rfl rfl rfl ?_
    refine w_iload_n X dX11_readIn_17 rfl rfl rfl ?_
    refine w_iload X dX11_readIn_18 rfl rfl ?_
    refine w_aload_n X dX11_readIn_20 rfl rfl rfl ?_
    refine w_aload_n X dX11_readIn_21 rfl rfl rfl ?_
    refine w_getR X dX11_readIn_22 rfl fl_X11_120 S0_188 rfl ?_
    refine w_iconst X dX11_readIn_25 rfl ci_0 ?_
    refine w_iald X dX11_readIn_26 rfl (j := 0) cn_0 S0_225 (show wib 0 25 by decide) ?_
    obtain ⟨yr22, eyr22, hf⟩ := wok_b hf
    refine w_callV X dX11_readIn_27 rfl vl_X11_367 (kX11_dampOf l  eyr22) S0_188 (As := [.int (h.1 225 0)]) (st := [.int v4, .int v1, .ref 188]) rfl rfl (Nat.le_of_ble_eq_true rfl) ⟨Nat.le_of_ble_eq_true rfl, Nat.le_of_ble_eq_true rfl⟩ ⟨Nat.zero_le _, Nat.zero_le _⟩ (fun r h2 hF => ?_)
    obtain ⟨_, rfl, rfl, rfl⟩ := hF
    show wM p l e (wR 6) s m args below meth c 0 0 (wE below args s D dA b0 ad S0 F) 6 D dA b0 ad S0 30 [some (.ref 188), some (.int v1), some (.int v2), some (.int v3), some (.int v4), none] [.int yr22, .int v4, .int v1, .ref 188] h
    obtain ⟨yr23, eyr23, hf⟩ := wok_b hf
    refine w_callV X dX11_readIn_30 rfl vl_X11_363 (kX11_readBy l  eyr23) S0_188 (As := [.int v1, .int v4, .int yr22]) (st := []) rfl rfl (Nat.le_of_ble_eq_true rfl) ⟨Nat.le_of_ble_eq_true rfl, Nat.le_of_ble_eq_true rfl⟩ ⟨Nat.zero_le _, Nat.zero_le _⟩ (fun r h2 hF => ?_)
    obtain ⟨_, rfl, rfl, rfl⟩ := hF
    show wM p l e (wR 6) s m args below meth c 0 0 (wE below args s D dA b0 ad S0 F) 6 D dA b0 ad S0 33 [some (.ref 188), some (.int v1), some (.int v2), some (.int v3), some (.int v4), none] [.int yr23.1] yr23.2
    refine w_istore X dX11_readIn_33 rfl rfl (Nat.le_of_ble_eq_true rfl) (ls' := [some (.ref 188), some (.int v1), some (.int v2), some (.int v3), some (.int v4), some (.int yr23.1)]) rfl ?_
    refine w_iload_n X dX11_readIn_35 rfl rfl rfl ?_
    refine w_iload X dX11_readIn_36 rfl rfl ?_
    refine w_if_lt X dX11_readIn_38 rfl (t := 58) rfl (fun hc => ?_) (fun hc => ?_)
    · have hf := wok_t hf hc
      refine w_fg (ls2 := [some (.ref 188), some (.int v1), some (.int v2), none, some (.int v4), none]) ⟨rfl, rfl, rfl, rfl, trivial⟩ ?_
      exact pX11_readIn_b58_5 X hr  hN hX0 hf
    · have hf := wok_f hf hc
      refine w_iload_n X dX11_readIn_41 rfl rfl rfl ?_
      refine w_if_lt X dX11_readIn_42 rfl (t := 51) rfl (fun hc => ?_) (fun hc => ?_)
      · have hf := wok_t hf hc
        refine w_fg (ls2 := [some (.ref 188), some (.int v1), some (.int v2), none, some (.int v4), none]) ⟨rfl, rfl, rfl, rfl, trivial⟩ ?_
        exact pX11_readIn_b51_5 X hr  hN hX0 hf
      · have hf := wok_f hf hc
        refine w_iload X dX11_readIn_45 rfl rfl ?_
        refine w_iload_n X dX11_readIn_47 rfl rfl rfl ?_
        refine w_icmp_ne X dX11_readIn_48 rfl (t := 58) rfl (fun hc => ?_) (fun hc => ?_)
        · have hf := wok_f hf hc
          refine w_fg (ls2 := [some (.ref 188), some (.int v1), some (.int v2), none, some (.int v4), none]) ⟨rfl, rfl, rfl, rfl, trivial⟩ ?_
          exact pX11_readIn_b58_5 X hr  hN hX0 hf
        · have hf := wok_t hf hc
          refine w_fg (ls2 := [some (.ref 188), some (.int v1), some (.int v2), none, some (.int v4), none]) ⟨rfl, rfl, rfl, rfl, trivial⟩ ?_
          exact pX11_readIn_b51_5 X hr  hN hX0 hf
set_option maxRecDepth 4000 in
theorem pX11_readIn_l5 (X : wCx p s m args meth c RX11 cX11_readIn 6 D dA b0 ad) (hr : meth.sig.returnType = (some .int))  {v1 : Int32} {v2 : Int32} {KE : (Int32 × wSt) → Prop} (hX0 : ∀ (n3 : Int32) (nh : wSt), KE ((n3, nh)) → wM p l e (wR 6) s m args below meth c 0 0 (wE below args s D dA b0 ad S0 F) 6 D dA b0 ad S0 67 [none, none, none, some (.int n3), none, none] [] nh) : ∀ (n : Nat) (v3 : Int32) (v4 : Int32) (h : wSt), wok (wit (fun v : (Int32 × Int32 × wSt) => fX11_readIn_l5 v.2.2 v1 v2 v.1 v.2.1) n (v3, v4, h)) KE → wM p l e (wR 6) s m args below meth c 0 0 (wE below args s D dA b0 ad S0 F) 6 D dA b0 ad S0 5 [some (.ref 188), some (.int v1), some (.int v2), some (.int v3), some (.int v4), none] [] h := by
  have key := wit_M (b := (fun v : (Int32 × Int32 × wSt) => fX11_readIn_l5 v.2.2 v1 v2 v.1 v.2.1)) (KE := KE) (G := fun v => wM p l e (wR 6) s m args below meth c 0 0 (wE below args s D dA b0 ad S0 F) 6 D dA b0 ad S0 5 [some (.ref 188), some (.int v1), some (.int v2), some (.int v.1), some (.int v.2.1), none] [] v.2.2) (fun v K hN hE hf => pX11_readIn_l5b X hr  (fun n3 n4 nh hz => hN (n3, n4, nh) hz) (fun z0 z1 hz => hX0 z0 z1 (hE _ hz)) hf)
  exact fun n v3 v4 h hf => key n (v3, v4, h) hf
set_option maxRecDepth 4000 in
theorem pX11_readIn_b0 (X : wCx p s m args meth c RX11 cX11_readIn 6 D dA b0 ad) (hr : meth.sig.returnType = (some .int)) {h : wSt} {x0 : Int32} {x1 : Int32} {K : Int32 × wSt → Prop} (hT : ∀ (x : Int32) (h2 : wSt), K (x, h2) → F (some (.int x)) h2) (hf : wok (fX11_readIn h x0 x1) K) : wM p l e (wR 6) s m args below meth c 0 0 (wE below args s D dA b0 ad S0 F) 6 D dA b0 ad S0 0 [some (.ref 188), some (.int x0), some (.int x1), none, none, none] [] h := by
  unfold fX11_readIn at hf
  refine w_iconst X dX11_readIn_0 rfl ci_0 ?_
  refine w_istore_n X dX11_readIn_1 rfl rfl rfl (Nat.le_of_ble_eq_true rfl) (ls' := [some (.ref 188), some (.int x0), some (.int x1), some (.int 0), none, none]) rfl ?_
  refine w_iconst X dX11_readIn_2 rfl ci_0 ?_
  refine w_istore X dX11_readIn_3 rfl rfl (Nat.le_of_ble_eq_true rfl) (ls' := [some (.ref 188), some (.int x0), some (.int x1), some (.int 0), some (.int 0), none]) rfl ?_
  obtain ⟨ye24, hye24, hf⟩ := wok_b hf
  refine pX11_readIn_l5 X hr  (KE := fun z => ye24 = z) ?_ 3000 _ _ _ ⟨ye24, hye24, rfl⟩
  · intro yz25 yz26 hz
    subst hz
    refine w_iload_n X dX11_readIn_67 rfl rfl rfl ?_
    exact w_iret X dX11_readIn_68 hr (hT _ _ (wok_s hf))
set_option maxRecDepth 4000 in
theorem kX11_readIn (l : Launch) {h : wSt} {x0 : Int32} {x1 : Int32} {res : Int32 × wSt} (hf : fX11_readIn h x0 x1 = some res) : wC l yX11_readIn cX11_readIn 6 (some .int) 6 S0 [.ref 188, .int x0, .int x1] h (wFI (fun a b => res.1 = a ∧ res.2 = b)) := by
  refine w_meth2 3 (by decide) (Nat.le_of_ble_eq_true rfl) (ls := [some (.ref 188), some (.int x0), some (.int x1), none, none, none]) rfl ?_
  intro p e s m args below meth c D dA b0 ad X hr
  exact pX11_readIn_b0 X hr  (K := fun z => res = z) (fun x h2 hz => ⟨x, rfl, by rw [hz], by rw [hz]⟩) ⟨res, hf, rfl⟩
set_option maxRecDepth 4000 in
theorem pX11_madeOf_l4b (X : wCx p s m args meth c RX11 cX11_madeOf 4 D dA b0 ad) (hr : meth.sig.returnType = (some .int)) {h : wSt} {v1 : Int32} {v2 : Int32} {v3 : Int32} {K : (Int32 × Int32 × wSt) ⊕ ((Int32 × wSt)) → Prop} (hN : ∀ (n2 : Int32) (n3 : Int32) (nh : wSt), K (.inl (n2, n3, nh)) → wM p l e (wR 7) s m args below meth c 0 0 (wE below args s D dA b0 ad S0 F) 4 D dA b0 ad S0 4 [some (.ref 188), some (.int v1), some (.int n2), some (.int n3)] [] nh) (hX0 : ∀ (n2 : Int32) (nh : wSt), K (.inr (n2, nh)) → wM p l e (wR 7) s m args below meth c 0 0 (wE below args s D dA b0 ad S0 F) 4 D dA b0 ad S0 32 [none, none, some (.int n2), none] [] nh) (hf : wok (fX11_madeOf_l4 h v1 v2 v3) K) : wM p l e (wR 7) s m args below meth c 0 0 (wE below args s D dA b0 ad S0 F) 4 D dA b0 ad S0 4 [some (.ref 188), some (.int v1), some (.int v2), some (.int v3)] [] h := by
  unfold fX11_madeOf_l4 at hf
  refine w_iload_n X dX11_madeOf_4 rfl rfl rfl ?_
  refine w_aload_n X dX11_madeOf_5 rfl rfl rfl ?_
  refine w_getR X dX11_madeOf_6 rfl fl_X11_13 S0_188 rfl ?_
  refine w_iconst X dX11_madeOf_9 rfl ci_0 ?_
  refine w_iald X dX11_madeOf_10 rfl (j := 0) cn_0 S0_190 (show wib 0 6 by decide) ?_
  refine w_icmp_ge X dX11_madeOf_11 rfl (t := 32) rfl (fun hc => ?_) (fun hc => ?_)
  · have hf := wok_t hf hc
    refine w_fg (ls2 := [none, none, some (.int v2), none]) ⟨rfl, trivial⟩ ?_
    exact hX0 _ _ (wok_s hf)
  · have hf := wok_f hf hc
    refine w_iload_n X dX11_madeOf_14 rfl rfl rfl ?_
    refine w_aload_n X dX11_madeOf_15 rfl rfl rfl ?_
    refine w_iload_n X dX11_madeOf_16 rfl rfl rfl ?_
    refine w_iload_n X dX11_madeOf_17 rfl rfl rfl ?_
    obtain ⟨yr21, eyr21, hf⟩ := wok_b hf
    refine w_callV X dX11_madeOf_18 rfl vl_X11_381 (kX11_readIn l  eyr21) S0_188 (As := [.int v3, .int v1]) (st := [.int v2]) rfl rfl (Nat.le_of_ble_eq_true rfl) ⟨Nat.le_of_ble_eq_true rfl, Nat.le_of_ble_eq_true rfl⟩ ⟨Nat.zero_le _, Nat.zero_le _⟩ (fun r h2 hF => ?_)
    obtain ⟨_, rfl, rfl, rfl⟩ := hF
    show wM p l e (wR 7) s m args below meth c 0 0 (wE below args s D dA b0 ad S0 F) 4 D dA b0 ad S0 21 [some (.ref 188), some (.int v1), some (.int v2), some (.int v3)] [.int yr21.1, .int v2] yr21.2
    obtain ⟨yr22, eyr22, hf⟩ := wok_b hf
    refine w_callS X dX11_madeOf_21 rfl sl_X11_384 (kX11_bits l  eyr22) (As := [.int yr21.1]) (st := [.int v2]) rfl rfl (Nat.le_of_ble_eq_true rfl) ⟨Nat.le_of_ble_eq_true rfl, Nat.le_of_ble_eq_true rfl⟩ ⟨Nat.zero_le _, Nat.zero_le _⟩ (fun r h2 hF => ?_)
    obtain ⟨_, rfl, rfl, rfl⟩ := hF
    show wM p l e (wR 7) s m args below meth c 0 0 (wE below args s D dA b0 ad S0 F) 4 D dA b0 ad S0 24 [some (.ref 188), some (.int v1), some (.int v2), some (.int v3)] [.int yr22, .int v2] yr21.2
    refine w_iadd X dX11_madeOf_24 rfl ?_
    refine w_istore_n X dX11_madeOf_25 rfl rfl rfl (Nat.le_of_ble_eq_true rfl) (ls' := [some (.ref 188), some (.int v1), some (.int (v2 + yr22)), some (.int v3)]) rfl ?_
    refine w_iinc X dX11_madeOf_26 rfl (v := (v3 + 1)) rfl rfl (Nat.le_of_ble_eq_true rfl) (cinc_1 _) (ls' := [some (.ref 188), some (.int v1), some (.int (v2 + yr22)), some (.int (v3 + 1))]) rfl ?_
    refine w_goto X dX11_madeOf_29 (t := 4) rfl ?_
    exact hN _ _ _ (wok_s hf)
set_option maxRecDepth 4000 in
theorem pX11_madeOf_l4 (X : wCx p s m args meth c RX11 cX11_madeOf 4 D dA b0 ad) (hr : meth.sig.returnType = (some .int))  {v1 : Int32} {KE : (Int32 × wSt) → Prop} (hX0 : ∀ (n2 : Int32) (nh : wSt), KE ((n2, nh)) → wM p l e (wR 7) s m args below meth c 0 0 (wE below args s D dA b0 ad S0 F) 4 D dA b0 ad S0 32 [none, none, some (.int n2), none] [] nh) : ∀ (n : Nat) (v2 : Int32) (v3 : Int32) (h : wSt), wok (wit (fun v : (Int32 × Int32 × wSt) => fX11_madeOf_l4 v.2.2 v1 v.1 v.2.1) n (v2, v3, h)) KE → wM p l e (wR 7) s m args below meth c 0 0 (wE below args s D dA b0 ad S0 F) 4 D dA b0 ad S0 4 [some (.ref 188), some (.int v1), some (.int v2), some (.int v3)] [] h := by
  have key := wit_M (b := (fun v : (Int32 × Int32 × wSt) => fX11_madeOf_l4 v.2.2 v1 v.1 v.2.1)) (KE := KE) (G := fun v => wM p l e (wR 7) s m args below meth c 0 0 (wE below args s D dA b0 ad S0 F) 4 D dA b0 ad S0 4 [some (.ref 188), some (.int v1), some (.int v.1), some (.int v.2.1)] [] v.2.2) (fun v K hN hE hf => pX11_madeOf_l4b X hr  (fun n2 n3 nh hz => hN (n2, n3, nh) hz) (fun z0 z1 hz => hX0 z0 z1 (hE _ hz)) hf)
  exact fun n v2 v3 h hf => key n (v2, v3, h) hf
set_option maxRecDepth 4000 in
theorem pX11_madeOf_b0 (X : wCx p s m args meth c RX11 cX11_madeOf 4 D dA b0 ad) (hr : meth.sig.returnType = (some .int)) {h : wSt} {x0 : Int32} {K : Int32 × wSt → Prop} (hT : ∀ (x : Int32) (h2 : wSt), K (x, h2) → F (some (.int x)) h2) (hf : wok (fX11_madeOf h x0) K) : wM p l e (wR 7) s m args below meth c 0 0 (wE below args s D dA b0 ad S0 F) 4 D dA b0 ad S0 0 [some (.ref 188), some (.int x0), none, none] [] h := by
  unfold fX11_madeOf at hf
  refine w_iconst X dX11_madeOf_0 rfl ci_0 ?_
  refine w_istore_n X dX11_madeOf_1 rfl rfl rfl (Nat.le_of_ble_eq_true rfl) (ls' := [some (.ref 188), some (.int x0), some (.int 0), none]) rfl ?_
  refine w_iconst X dX11_madeOf_2 rfl ci_0 ?_
  refine w_istore_n X dX11_madeOf_3 rfl rfl rfl (Nat.le_of_ble_eq_true rfl) (ls' := [some (.ref 188), some (.int x0), some (.int 0), some (.int 0)]) rfl ?_
  obtain ⟨ye23, hye23, hf⟩ := wok_b hf
  refine pX11_madeOf_l4 X hr  (KE := fun z => ye23 = z) ?_ 3000 _ _ _ ⟨ye23, hye23, rfl⟩
  · intro yz24 yz25 hz
    subst hz
    refine w_iload_n X dX11_madeOf_32 rfl rfl rfl ?_
    exact w_iret X dX11_madeOf_33 hr (hT _ _ (wok_s hf))
set_option maxRecDepth 4000 in
theorem kX11_madeOf (l : Launch) {h : wSt} {x0 : Int32} {res : Int32 × wSt} (hf : fX11_madeOf h x0 = some res) : wC l yX11_madeOf cX11_madeOf 4 (some .int) 7 S0 [.ref 188, .int x0] h (wFI (fun a b => res.1 = a ∧ res.2 = b)) := by
  refine w_meth2 2 (by decide) (Nat.le_of_ble_eq_true rfl) (ls := [some (.ref 188), some (.int x0), none, none]) rfl ?_
  intro p e s m args below meth c D dA b0 ad X hr
  exact pX11_madeOf_b0 X hr  (K := fun z => res = z) (fun x h2 hz => ⟨x, rfl, by rw [hz], by rw [hz]⟩) ⟨res, hf, rfl⟩
set_option maxRecDepth 4000 in
theorem pX11_skin_b0 (X : wCx p s m args meth c RX11 cX11_skin 3 D dA b0 ad) (hr : meth.sig.returnType = (some .int)) {h : wSt} {x0 : Int32} {x1 : Int32} {K : Int32 × wSt → Prop} (hT : ∀ (x : Int32) (h2 : wSt), K (x, h2) → F (some (.int x)) h2) (hf : wok (fX11_skin h x0 x1) K) : wM p l e (wR 7) s m args below meth c 0 0 (wE below args s D dA b0 ad S0 F) 3 D dA b0 ad S0 0 [some (.ref 188), some (.int x0), some (.int x1)] [] h := by
  unfold fX11_skin at hf
  refine w_aload_n X dX11_skin_0 rfl rfl rfl ?_
  refine w_iconst X dX11_skin_1 rfl ci_0 ?_
  refine w_putI X dX11_skin_2 rfl fp_X11_144 S0_188 rfl ?_
  refine w_nmh (fun yh21 eyh21 => ?_)
  have hf := wok_l hf eyh21
  refine w_aload_n X dX11_skin_5 rfl rfl rfl ?_
  refine w_iload_n X dX11_skin_6 rfl rfl rfl ?_
  obtain ⟨yr22, eyr22, hf⟩ := wok_b hf
  refine w_callV X dX11_skin_7 rfl vl_X11_353 (kX11_isSkin l  eyr22) S0_188 (As := [.int x0]) (st := []) rfl rfl (Nat.le_of_ble_eq_true rfl) ⟨Nat.le_of_ble_eq_true rfl, Nat.le_of_ble_eq_true rfl⟩ ⟨Nat.zero_le _, Nat.zero_le _⟩ (fun r h2 hF => ?_)
  obtain ⟨_, rfl, rfl, rfl⟩ := hF
  show wM p l e (wR 7) s m args below meth c 0 0 (wE below args s D dA b0 ad S0 F) 3 D dA b0 ad S0 10 [some (.ref 188), some (.int x0), some (.int x1)] [.int (wb yr22)] yh21
  refine w_if_eq X dX11_skin_10 rfl (t := 22) rfl (fun hc => ?_) (fun hc => ?_)
  · have hf := wok_f hf (wb_0 hc)
    refine w_iconst X dX11_skin_22 rfl ci_m1 ?_
    exact w_iret X dX11_skin_23 hr (hT _ _ (wok_s hf))
  · have hf := wok_t hf (wb_n0 hc)
    refine w_iload_n X dX11_skin_13 rfl rfl rfl ?_
    refine w_iconst X dX11_skin_14 rfl ci_0 ?_
    refine w_iconst X dX11_skin_15 rfl ci_4 ?_
    obtain ⟨yr23, eyr23, hf⟩ := wok_b hf
    refine w_callS X dX11_skin_16 rfl sl_X11_265 (kX11_within l  eyr23) (As := [.int x1, .int 0, .int 4]) (st := []) rfl rfl (Nat.le_of_ble_eq_true rfl) ⟨Nat.le_of_ble_eq_true rfl, Nat.le_of_ble_eq_true rfl⟩ ⟨Nat.zero_le _, Nat.zero_le _⟩ (fun r h2 hF => ?_)
    obtain ⟨_, rfl, rfl, rfl⟩ := hF
    show wM p l e (wR 7) s m args below meth c 0 0 (wE below args s D dA b0 ad S0 F) 3 D dA b0 ad S0 19 [some (.ref 188), some (.int x0), some (.int x1)] [.int (wb yr23)] yh21
    refine w_if_ne X dX11_skin_19 rfl (t := 24) rfl (fun hc => ?_) (fun hc => ?_)
    · have hf := wok_t hf (wb_n0 hc)
      refine w_iload_n X dX11_skin_24 rfl rfl rfl ?_
      refine w_iconst X dX11_skin_25 rfl ci_2 ?_
      refine w_icmp_ge X dX11_skin_26 rfl (t := 51) rfl (fun hc => ?_) (fun hc => ?_)
      · have hf := wok_t hf hc
        refine w_iload_n X dX11_skin_51 rfl rfl rfl ?_
        refine w_iconst X dX11_skin_52 rfl ci_2 ?_
        refine w_icmp_ne X dX11_skin_53 rfl (t := 65) rfl (fun hc => ?_) (fun hc => ?_)
        · have hf := wok_f hf hc
          refine w_iload_n X dX11_skin_65 rfl rfl rfl ?_
          refine w_iconst X dX11_skin_66 rfl ci_3 ?_
          refine w_icmp_ne X dX11_skin_67 rfl (t := 81) rfl (fun hc => ?_) (fun hc => ?_)
          · have hf := wok_f hf hc
            refine w_aload_n X dX11_skin_81 rfl rfl rfl ?_
            refine w_iload_n X dX11_skin_82 rfl rfl rfl ?_
            refine w_iconst X dX11_skin_83 rfl ci_m1 ?_
            obtain ⟨yr24, eyr24, hf⟩ := wok_b hf
            refine w_callV X dX11_skin_84 rfl vl_X11_381 (kX11_readIn l  eyr24) S0_188 (As := [.int x0, .int (-1)]) (st := []) rfl rfl (Nat.le_of_ble_eq_true rfl) ⟨Nat.le_of_ble_eq_true rfl, Nat.le_of_ble_eq_true rfl⟩ ⟨Nat.zero_le _, Nat.zero_le _⟩ (fun r h2 hF => ?_)
            obtain ⟨_, rfl, rfl, rfl⟩ := hF
            show wM p l e (wR 7) s m args below meth c 0 0 (wE below args s D dA b0 ad S0 F) 3 D dA b0 ad S0 87 [some (.ref 188), some (.int x0), some (.int x1)] [.int yr24.1] yr24.2
            exact w_iret X dX11_skin_87 hr (hT _ _ (wok_s hf))
          · have hf := wok_t hf hc
            refine w_aload_n X dX11_skin_70 rfl rfl rfl ?_
            refine w_getR X dX11_skin_71 rfl fl_X11_120 S0_188 rfl ?_
            refine w_iconst X dX11_skin_74 rfl ci_4 ?_
            refine w_iload_n X dX11_skin_75 rfl rfl rfl ?_
            refine w_iadd X dX11_skin_76 rfl ?_
            obtain ⟨yhg25, hf⟩ := wok_g hf
            refine w_iald X dX11_skin_77 rfl (j := (4 + x0).toNatClampNeg) rfl S0_225 yhg25 ?_
            refine w_goto X dX11_skin_78 (t := 87) rfl ?_
            exact w_iret X dX11_skin_87 hr (hT _ _ (wok_s hf))
        · have hf := wok_t hf hc
          refine w_aload_n X dX11_skin_56 rfl rfl rfl ?_
          refine w_getR X dX11_skin_57 rfl fl_X11_29 S0_188 rfl ?_
          refine w_iload_n X dX11_skin_60 rfl rfl rfl ?_
          obtain ⟨yhg26, hf⟩ := wok_g hf
          refine w_iald X dX11_skin_61 rfl (j := x0.toNatClampNeg) rfl S0_195 yhg26 ?_
          refine w_goto X dX11_skin_62 (t := 87) rfl ?_
          exact w_iret X dX11_skin_87 hr (hT _ _ (wok_s hf))
      · have hf := wok_f hf hc
        refine w_iload_n X dX11_skin_29 rfl rfl rfl ?_
        refine w_if_ne X dX11_skin_30 rfl (t := 42) rfl (fun hc => ?_) (fun hc => ?_)
        · have hf := wok_f hf hc
          refine w_aload_n X dX11_skin_42 rfl rfl rfl ?_
          refine w_getR X dX11_skin_43 rfl fl_X11_120 S0_188 rfl ?_
          refine w_iconst X dX11_skin_46 rfl ci_1 ?_
          refine w_iload_n X dX11_skin_47 rfl rfl rfl ?_
          refine w_iadd X dX11_skin_48 rfl ?_
          obtain ⟨yhg27, hf⟩ := wok_g hf
          refine w_iald X dX11_skin_49 rfl (j := (1 + x0).toNatClampNeg) rfl S0_225 yhg27 ?_
          exact w_iret X dX11_skin_50 hr (hT _ _ (wok_s hf))
        · have hf := wok_t hf hc
          refine w_aload_n X dX11_skin_33 rfl rfl rfl ?_
          refine w_getR X dX11_skin_34 rfl fl_X11_23 S0_188 rfl ?_
          refine w_iload_n X dX11_skin_37 rfl rfl rfl ?_
          obtain ⟨yhg28, hf⟩ := wok_g hf
          refine w_iald X dX11_skin_38 rfl (j := x0.toNatClampNeg) rfl S0_193 yhg28 ?_
          refine w_goto X dX11_skin_39 (t := 50) rfl ?_
          exact w_iret X dX11_skin_50 hr (hT _ _ (wok_s hf))
    · have hf := wok_f hf (wb_0 hc)
      refine w_iconst X dX11_skin_22 rfl ci_m1 ?_
      exact w_iret X dX11_skin_23 hr (hT _ _ (wok_s hf))
set_option maxRecDepth 4000 in
theorem kX11_skin (l : Launch) {h : wSt} {x0 : Int32} {x1 : Int32} {res : Int32 × wSt} (hf : fX11_skin h x0 x1 = some res) : wC l yX11_skin cX11_skin 3 (some .int) 7 S0 [.ref 188, .int x0, .int x1] h (wFI (fun a b => res.1 = a ∧ res.2 = b)) := by
  refine w_meth2 0 (by decide) (Nat.le_of_ble_eq_true rfl) (ls := [some (.ref 188), some (.int x0), some (.int x1)]) rfl ?_
  intro p e s m args below meth c D dA b0 ad X hr
  exact pX11_skin_b0 X hr  (K := fun z => res = z) (fun x h2 hz => ⟨x, rfl, by rw [hz], by rw [hz]⟩) ⟨res, hf, rfl⟩
set_option maxRecDepth 4000 in
theorem pX11_text_b0 (X : wCx p s m args meth c RX11 cX11_text 3 D dA b0 ad) (hr : meth.sig.returnType = (some .int)) {h : wSt} {x0 : Int32} {x1 : Int32} {K : Int32 × wSt → Prop} (hT : ∀ (x : Int32) (h2 : wSt), K (x, h2) → F (some (.int x)) h2) (hf : wok (fX11_text h x0 x1) K) : wM p l e (wR 8) s m args below meth c 0 0 (wE below args s D dA b0 ad S0 F) 3 D dA b0 ad S0 0 [some (.ref 188), some (.int x0), some (.int x1)] [] h := by
  unfold fX11_text at hf
  refine w_aload_n X dX11_text_0 rfl rfl rfl ?_
  refine w_iconst X dX11_text_1 rfl ci_0 ?_
  refine w_putI X dX11_text_2 rfl fp_X11_144 S0_188 rfl ?_
  refine w_nmh (fun yh21 eyh21 => ?_)
  have hf := wok_l hf eyh21
  refine w_aload_n X dX11_text_5 rfl rfl rfl ?_
  refine w_iload_n X dX11_text_6 rfl rfl rfl ?_
  obtain ⟨yr22, eyr22, hf⟩ := wok_b hf
  refine w_callV X dX11_text_7 rfl vl_X11_387 (kX11_isText l  eyr22) S0_188 (As := [.int x0]) (st := []) rfl rfl (Nat.le_of_ble_eq_true rfl) ⟨Nat.le_of_ble_eq_true rfl, Nat.le_of_ble_eq_true rfl⟩ ⟨Nat.zero_le _, Nat.zero_le _⟩ (fun r h2 hF => ?_)
  obtain ⟨_, rfl, rfl, rfl⟩ := hF
  show wM p l e (wR 8) s m args below meth c 0 0 (wE below args s D dA b0 ad S0 F) 3 D dA b0 ad S0 10 [some (.ref 188), some (.int x0), some (.int x1)] [.int (wb yr22)] yh21
  refine w_if_eq X dX11_text_10 rfl (t := 22) rfl (fun hc => ?_) (fun hc => ?_)
  · have hf := wok_f hf (wb_0 hc)
    refine w_bipush X dX11_text_22 rfl cb_m2 ?_
    exact w_iret X dX11_text_24 hr (hT _ _ (wok_s hf))
  · have hf := wok_t hf (wb_n0 hc)
    refine w_iload_n X dX11_text_13 rfl rfl rfl ?_
    refine w_iconst X dX11_text_14 rfl ci_0 ?_
    refine w_iconst X dX11_text_15 rfl ci_4 ?_
    obtain ⟨yr23, eyr23, hf⟩ := wok_b hf
    refine w_callS X dX11_text_16 rfl sl_X11_265 (kX11_within l  eyr23) (As := [.int x1, .int 0, .int 4]) (st := []) rfl rfl (Nat.le_of_ble_eq_true rfl) ⟨Nat.le_of_ble_eq_true rfl, Nat.le_of_ble_eq_true rfl⟩ ⟨Nat.zero_le _, Nat.zero_le _⟩ (fun r h2 hF => ?_)
    obtain ⟨_, rfl, rfl, rfl⟩ := hF
    show wM p l e (wR 8) s m args below meth c 0 0 (wE below args s D dA b0 ad S0 F) 3 D dA b0 ad S0 19 [some (.ref 188), some (.int x0), some (.int x1)] [.int (wb yr23)] yh21
    refine w_if_ne X dX11_text_19 rfl (t := 25) rfl (fun hc => ?_) (fun hc => ?_)
    · have hf := wok_t hf (wb_n0 hc)
      refine w_iload_n X dX11_text_25 rfl rfl rfl ?_
      refine w_iconst X dX11_text_26 rfl ci_3 ?_
      refine w_icmp_ge X dX11_text_27 rfl (t := 64) rfl (fun hc => ?_) (fun hc => ?_)
      · have hf := wok_t hf hc
        refine w_iload_n X dX11_text_64 rfl rfl rfl ?_
        refine w_iconst X dX11_text_65 rfl ci_3 ?_
        refine w_icmp_ne X dX11_text_66 rfl (t := 80) rfl (fun hc => ?_) (fun hc => ?_)
        · have hf := wok_f hf hc
          refine w_aload_n X dX11_text_80 rfl rfl rfl ?_
          refine w_iload_n X dX11_text_81 rfl rfl rfl ?_
          obtain ⟨yr24, eyr24, hf⟩ := wok_b hf
          refine w_callV X dX11_text_82 rfl vl_X11_393 (kX11_madeOf l  eyr24) S0_188 (As := [.int x0]) (st := []) rfl rfl (Nat.le_of_ble_eq_true rfl) ⟨Nat.le_of_ble_eq_true rfl, Nat.le_of_ble_eq_true rfl⟩ ⟨Nat.zero_le _, Nat.zero_le _⟩ (fun r h2 hF => ?_)
          obtain ⟨_, rfl, rfl, rfl⟩ := hF
          show wM p l e (wR 8) s m args below meth c 0 0 (wE below args s D dA b0 ad S0 F) 3 D dA b0 ad S0 85 [some (.ref 188), some (.int x0), some (.int x1)] [.int yr24.1] yr24.2
          exact w_iret X dX11_text_85 hr (hT _ _ (wok_s hf))
        · have hf := wok_t hf hc
          refine w_aload_n X dX11_text_69 rfl rfl rfl ?_
          obtain ⟨yr25, eyr25, hf⟩ := wok_b hf
          refine w_callV X dX11_text_70 rfl vl_X11_390 (kX11_wholeNow l  eyr25) S0_188 (As := []) (st := []) rfl rfl (Nat.le_of_ble_eq_true rfl) ⟨Nat.le_of_ble_eq_true rfl, Nat.le_of_ble_eq_true rfl⟩ ⟨Nat.zero_le _, Nat.zero_le _⟩ (fun r h2 hF => ?_)
          obtain ⟨_, rfl, rfl, rfl⟩ := hF
          show wM p l e (wR 8) s m args below meth c 0 0 (wE below args s D dA b0 ad S0 F) 3 D dA b0 ad S0 73 [some (.ref 188), some (.int x0), some (.int x1)] [.int yr25.1] yr25.2
          refine w_iload_n X dX11_text_73 rfl rfl rfl ?_
          refine w_ishr X dX11_text_74 rfl ?_
          refine w_iconst X dX11_text_75 rfl ci_1 ?_
          refine w_iand X dX11_text_76 rfl ?_
          refine w_goto X dX11_text_77 (t := 85) rfl ?_
          exact w_iret X dX11_text_85 hr (hT _ _ (wok_s hf))
      · have hf := wok_f hf hc
        refine w_iload_n X dX11_text_30 rfl rfl rfl ?_
        refine w_if_ne X dX11_text_31 rfl (t := 43) rfl (fun hc => ?_) (fun hc => ?_)
        · have hf := wok_f hf hc
          refine w_iload_n X dX11_text_43 rfl rfl rfl ?_
          refine w_iconst X dX11_text_44 rfl ci_1 ?_
          refine w_icmp_ne X dX11_text_45 rfl (t := 57) rfl (fun hc => ?_) (fun hc => ?_)
          · have hf := wok_f hf hc
            refine w_aload_n X dX11_text_57 rfl rfl rfl ?_
            refine w_getR X dX11_text_58 rfl fl_X11_38 S0_188 rfl ?_
            refine w_iload_n X dX11_text_61 rfl rfl rfl ?_
            obtain ⟨yhg26, hf⟩ := wok_g hf
            refine w_iald X dX11_text_62 rfl (j := x0.toNatClampNeg) rfl S0_198 yhg26 ?_
            exact w_iret X dX11_text_63 hr (hT _ _ (wok_s hf))
          · have hf := wok_t hf hc
            refine w_aload_n X dX11_text_48 rfl rfl rfl ?_
            refine w_getR X dX11_text_49 rfl fl_X11_35 S0_188 rfl ?_
            refine w_iload_n X dX11_text_52 rfl rfl rfl ?_
            obtain ⟨yhg27, hf⟩ := wok_g hf
            refine w_iald X dX11_text_53 rfl (j := x0.toNatClampNeg) rfl S0_197 yhg27 ?_
            refine w_goto X dX11_text_54 (t := 63) rfl ?_
            exact w_iret X dX11_text_63 hr (hT _ _ (wok_s hf))
        · have hf := wok_t hf hc
          refine w_aload_n X dX11_text_34 rfl rfl rfl ?_
          refine w_getR X dX11_text_35 rfl fl_X11_32 S0_188 rfl ?_
          refine w_iload_n X dX11_text_38 rfl rfl rfl ?_
          obtain ⟨yhg28, hf⟩ := wok_g hf
          refine w_iald X dX11_text_39 rfl (j := x0.toNatClampNeg) rfl S0_196 yhg28 ?_
          refine w_goto X dX11_text_40 (t := 63) rfl ?_
          exact w_iret X dX11_text_63 hr (hT _ _ (wok_s hf))
    · have hf := wok_f hf (wb_0 hc)
      refine w_bipush X dX11_text_22 rfl cb_m2 ?_
      exact w_iret X dX11_text_24 hr (hT _ _ (wok_s hf))
set_option maxRecDepth 4000 in
theorem kX11_text (l : Launch) {h : wSt} {x0 : Int32} {x1 : Int32} {res : Int32 × wSt} (hf : fX11_text h x0 x1 = some res) : wC l yX11_text cX11_text 3 (some .int) 8 S0 [.ref 188, .int x0, .int x1] h (wFI (fun a b => res.1 = a ∧ res.2 = b)) := by
  refine w_meth2 0 (by decide) (Nat.le_of_ble_eq_true rfl) (ls := [some (.ref 188), some (.int x0), some (.int x1)]) rfl ?_
  intro p e s m args below meth c D dA b0 ad X hr
  exact pX11_text_b0 X hr  (K := fun z => res = z) (fun x h2 hz => ⟨x, rfl, by rw [hz], by rw [hz]⟩) ⟨res, hf, rfl⟩
end WX

def fX11_layers (h : wSt) (x0 : Int32) (x1 : Int32) : Option (Int32 × wSt) :=
wlet (wuI h 188 0 0) (fun yh21 =>
(fX11_isLine yh21 x0 x1).bind (fun yr22 =>
if yr22 = true then
if wib ((7 + (6 * x0)) + x1) 25 then
(fX11_deepOf yh21 (yh21.1 225 ((7 + (6 * x0)) + x1).toNatClampNeg)).bind (fun yr24 =>
some (yr24, yh21))
else none
else
some ((-1 : Int32), yh21)))
def fX11_layerOf_l9 (h : wSt) (v1 : Int32) (v2 : Int32) (v3 : Int32) : Option ((Int32 × Int32) ⊕ ((Int32))) :=
if v3 ≤ v1 then
some (.inr v2)
else
some (.inl ((v2 / 7), (v3 + (-1))))
def fX11_layerOf (h : wSt) (x0 : Int32) (x1 : Int32) : Option (Int32) :=
(fX11_deepOf h x0).bind (fun yr21 =>
(wit (fun v : (Int32 × Int32) => fX11_layerOf_l9 h x1 v.1 v.2) 3000 (x0, (yr21 - 1))).bind (fun ye22 =>
some ((ye22 - ye22 / 7 * 7) - 1)))
def fX11_layer (h : wSt) (x0 : Int32) (x1 : Int32) (x2 : Int32) : Option (Int32 × wSt) :=
wlet (wuI h 188 0 0) (fun yh21 =>
(fX11_isLine yh21 x0 x1).bind (fun yr22 =>
if yr22 = true then
if x2 < 0 then
some ((-1 : Int32), yh21)
else
if wib ((7 + (6 * x0)) + x1) 25 then
(fX11_deepOf yh21 (yh21.1 225 ((7 + (6 * x0)) + x1).toNatClampNeg)).bind (fun yr24 =>
if x2 < yr24 then
(fX11_layerOf yh21 (yh21.1 225 ((7 + (6 * x0)) + x1).toNatClampNeg) x2).bind (fun yr25 =>
some (yr25, yh21))
else
some ((-1 : Int32), yh21))
else none
else
some ((-1 : Int32), yh21)))
def fX11_read (h : wSt) (x0 : Int32) (x1 : Int32) : Option (Int32 × wSt) :=
wlet (wuI h 188 0 0) (fun yh21 =>
(fX11_isLine yh21 x0 x1).bind (fun yr22 =>
if yr22 = true then
(fX11_dampOf yh21 (yh21.1 225 0)).bind (fun yr23 =>
(fX11_readBy yh21 x0 x1 yr23).bind (fun yr24 =>
some (yr24.1, yr24.2)))
else
some ((-1 : Int32), yh21)))
def fX11_keeps_b49 (h : wSt) : Option (wSt) :=
(fX11_copies h 225 25 (0 : Int32) 229 400 (25 * (h.1 188 54))).bind (fun yr21 =>
wlet (wuI yr21 188 54 ((yr21.1 188 54) + 1)) (fun yh22 =>
some yh22))
def fX11_keeps_l11 (h : wSt) (v1 : Int32) : Option ((Int32 × wSt) ⊕ ((wSt))) :=
if 375 ≤ v1 then
some (.inr h)
else
if wib (v1 + 25) 400 then
if wib v1 400 then
wlet (wuI h 229 v1.toNatClampNeg (h.1 229 (v1 + 25).toNatClampNeg)) (fun yh25 =>
some (.inl ((v1 + 1), yh25)))
else none
else none
def fX11_keeps (h : wSt) : Option (wSt) :=
if (h.1 188 54) = 16 then
(wit (fun v : (Int32 × wSt) => fX11_keeps_l11 v.2 v.1) 3000 ((0 : Int32), h)).bind (fun ye26 =>
wlet (wuI ye26 188 54 ((ye26.1 188 54) - 1)) (fun yh28 =>
fX11_keeps_b49 yh28))
else
fX11_keeps_b49 h
def fX11_write (h : wSt) (x0 : Int32) (x1 : Int32) (x2 : Int32) : Option (Bool × wSt) :=
wlet (wuI h 188 0 0) (fun yh21 =>
(fX11_isText yh21 x0).bind (fun yr22 =>
if yr22 = true then
(fX11_isLine yh21 x1 x2).bind (fun yr23 =>
if yr23 = true then
(fX11_canWrite yh21 x0 x1 x2).bind (fun yr24 =>
if yr24 = true then
(fX11_keeps yh21 ).bind (fun yr25 =>
(fX11_writes yr25 x0 x1 x2).bind (fun yr26 =>
some (true, yr26)))
else
some (false, yh21))
else
some (false, yh21))
else
some (false, yh21)))
def fX11_scrapesNow (h : wSt) (x0 : Int32) (x1 : Int32) : Option (Int32 × wSt) :=
(fX11_isSkin h x0).bind (fun yr21 =>
if yr21 = true then
(fX11_scrapedBy h x0 x1).bind (fun yr22 =>
if yr22 = 0 then
some ((-1 : Int32), h)
else
(fX11_keeps h ).bind (fun yr23 =>
(fX11_scrapes yr23 x0 x1).bind (fun yr24 =>
if wib (1 + x0) 25 then
some ((yr24.1 225 (1 + x0).toNatClampNeg), yr24)
else none)))
else
some ((-1 : Int32), h))
def fX11_scrape (h : wSt) (x0 : Int32) : Option (Int32 × wSt) :=
wlet (wuI h 188 0 0) (fun yh21 =>
(fX11_scrapesNow yh21 x0 (63 : Int32)).bind (fun yr22 =>
some (yr22.1, yr22.2)))
def fX11_third (h : wSt) (x0 : Int32) : Option (Int32 × wSt) :=
wlet (wuI h 188 0 0) (fun yh21 =>
(fX11_scrapesNow yh21 x0 (9 : Int32)).bind (fun yr22 =>
some (yr22.1, yr22.2)))
def fX11_week (h : wSt) : Option (Int32 × wSt) :=
wlet (wuI h 188 0 0) (fun yh21 =>
(fX11_keeps yh21 ).bind (fun yr22 =>
wlet (wuI yr22 225 0 ((yr22.1 225 0) + 1)) (fun yh23 =>
some ((yh23.1 225 0), yh23))))
def fX11_undo (h : wSt) : Option (Bool × wSt) :=
wlet (wuI h 188 0 0) (fun yh21 =>
if (yh21.1 188 54) = 0 then
some (false, yh21)
else
wlet (wuI yh21 188 54 ((yh21.1 188 54) - 1)) (fun yh22 =>
(fX11_copies yh22 229 400 (25 * (yh22.1 188 54)) 225 25 (0 : Int32)).bind (fun yr23 =>
some (true, yr23))))
def fX11_goes_b98 (h : wSt) (v2 : Int32) (w0 : Int32) : Option (Bool × wSt) :=
(fX11_scrapedBy h v2 w0).bind (fun yr22 =>
if yr22 = 0 then
some (false, h)
else
(fX11_scrapes h v2 w0).bind (fun yr23 =>
some (true, yr23)))
def fX11_goes (h : wSt) (x0 : Int32) : Option (Bool × wSt) :=
if wib x0 240 then
if (h.1 216 x0.toNatClampNeg) = 3 then
wlet (wuI h 225 0 ((h.1 225 0) + 1)) (fun yh26 =>
some (true, yh26))
else
if (h.1 216 x0.toNatClampNeg) = 0 then
(fX11_canWrite h (h.1 217 x0.toNatClampNeg) (h.1 218 x0.toNatClampNeg) (h.1 219 x0.toNatClampNeg)).bind (fun yr24 =>
if yr24 = true then
(fX11_writes h (h.1 217 x0.toNatClampNeg) (h.1 218 x0.toNatClampNeg) (h.1 219 x0.toNatClampNeg)).bind (fun yr25 =>
some (true, yr25))
else
some (false, h))
else
if (h.1 216 x0.toNatClampNeg) = 1 then
fX11_goes_b98 h (h.1 218 x0.toNatClampNeg) (63 : Int32)
else
fX11_goes_b98 h (h.1 218 x0.toNatClampNeg) (9 : Int32)
else none
def fX11_gones_b33_4 (h : wSt) (v2 : Int32) (w0 : Int32) (w1 : Int32) : Option ((Int32 × Int32) ⊕ ((Int32))) :=
some (.inl ((w0 ||| w1), (v2 + 1)))
def fX11_gones_l4 (h : wSt) (v1 : Int32) (v2 : Int32) : Option ((Int32 × Int32) ⊕ ((Int32))) :=
if (h.1 190 0) ≤ v2 then
some (.inr v1)
else
if wib (1 + v2) 25 then
if (h.1 225 (1 + v2).toNatClampNeg) = 0 then
fX11_gones_b33_4 h v2 v1 (1 <<< (v2 &&& 31))
else
fX11_gones_b33_4 h v2 v1 (0 : Int32)
else none
def fX11_gones (h : wSt) : Option (Int32) :=
(wit (fun v : (Int32 × Int32) => fX11_gones_l4 h v.1 v.2) 3000 ((0 : Int32), (0 : Int32))).bind (fun ye22 =>
some ye22)
def fX11_judged_b90_41 (h : wSt) (v1 : Int32) (v2 : Int32) (v3 : Int32) (v4 : Int32) : Option ((Int32 × Int32 × Int32 × wSt) ⊕ ((Int32 × Int32 × wSt))) :=
some (.inl (v2, v3, (v4 + 1), h))
def fX11_judged_b74_41 (h : wSt) (v1 : Int32) (v2 : Int32) (v3 : Int32) (v4 : Int32) (v5 : Int32) : Option ((Int32 × Int32 × Int32 × wSt) ⊕ ((Int32 × Int32 × wSt))) :=
(fX11_gones h ).bind (fun yr27 =>
if yr27 = v5 then
fX11_judged_b90_41 h v1 v2 v3 v4
else
if 0 ≤ v3 then
fX11_judged_b90_41 h v1 v2 v3 v4
else
fX11_judged_b90_41 h v1 v2 v4 v4)
def fX11_judged_l41 (h : wSt) (v1 : Int32) (v2 : Int32) (v3 : Int32) (v4 : Int32) : Option ((Int32 × Int32 × Int32 × wSt) ⊕ ((Int32 × Int32 × wSt))) :=
if (h.1 215 0) ≤ v4 then
some (.inr (v2, v3, h))
else
(fX11_gones h ).bind (fun yr25 =>
(fX11_goes h v4).bind (fun yr26 =>
if yr26.1 = true then
fX11_judged_b74_41 yr26.2 v1 v2 v3 v4 yr25
else
if 0 ≤ v2 then
fX11_judged_b74_41 yr26.2 v1 v2 v3 v4 yr25
else
fX11_judged_b74_41 yr26.2 v1 v4 v3 v4 yr25))
def fX11_judged (h : wSt) (x0 : Int32) : Option (Int32 × wSt) :=
wlet (wuI h 188 0 0) (fun yh21 =>
(fX11_within yh21 x0 (0 : Int32) (2 : Int32)).bind (fun yr22 =>
if yr22 = true then
(fX11_copies yh21 225 25 (0 : Int32) 226 25 (0 : Int32)).bind (fun yr23 =>
(fX11_fresh0 yr23 ).bind (fun yr24 =>
(wit (fun v : (Int32 × Int32 × Int32 × wSt) => fX11_judged_l41 v.2.2.2 x0 v.1 v.2.1 v.2.2.1) 3000 ((-1 : Int32), (-1 : Int32), (0 : Int32), yr24)).bind (fun ye28 =>
(fX11_wholeNow ye28.2.2 ).bind (fun yr32 =>
(fX11_bits yr32.2 yr32.1).bind (fun yr33 =>
(fX11_copies yr32.2 226 25 (0 : Int32) 225 25 (0 : Int32)).bind (fun yr34 =>
if x0 = 0 then
some (ye28.1, yr34)
else
if x0 = 1 then
some (ye28.2.1, yr34)
else
some (yr33, yr34)))))))
else
some ((-2 : Int32), yh21)))
def fX11_later (h : wSt) (x0 : Int32) (x1 : Int32) (x2 : Int32) : Option (Int32 × wSt) :=
wlet (wuI h 188 0 0) (fun yh21 =>
(fX11_isLine yh21 x0 x1).bind (fun yr22 =>
if yr22 = true then
(fX11_within yh21 x2 (0 : Int32) (40 : Int32)).bind (fun yr23 =>
if yr23 = true then
(fX11_dampOf yh21 ((yh21.1 225 0) + x2)).bind (fun yr24 =>
(fX11_readBy yh21 x0 x1 yr24).bind (fun yr25 =>
some (yr25.1, yr25.2)))
else
some ((-1 : Int32), yh21))
else
some ((-1 : Int32), yh21)))
def fX11_when_l17 (h : wSt) (v1 : Int32) (v2 : Int32) : Option ((Int32 × wSt) ⊕ ((wSt) ⊕ (Int32 × wSt))) :=
if 40 < v2 then
some (.inr (.inl h))
else
(fX11_dampOf h ((h.1 225 0) + v2)).bind (fun yr23 =>
(fX11_wholeBy h yr23).bind (fun yr24 =>
if ((yr24.1 >>> (v1 &&& 31)) &&& 1) = 1 then
some (.inr (.inr (v2, yr24.2)))
else
some (.inl ((v2 + 1), yr24.2))))
def fX11_when (h : wSt) (x0 : Int32) : Option (Int32 × wSt) :=
wlet (wuI h 188 0 0) (fun yh21 =>
(fX11_isText yh21 x0).bind (fun yr22 =>
if yr22 = true then
(wit (fun v : (Int32 × wSt) => fX11_when_l17 v.2 x0 v.1) 3000 ((0 : Int32), yh21)).bind (fun ye25 => match ye25 with
| .inl ye25v =>
some ((-1 : Int32), ye25v)
| .inr ye25r =>
some ye25r)
else
some ((-1 : Int32), yh21)))
def fX11_need_l17 (h : wSt) (v1 : Int32) (v2 : Int32) : Option ((Int32 × wSt) ⊕ ((wSt) ⊕ (Int32 × wSt))) :=
if 10 ≤ v2 then
some (.inr (.inl h))
else
(fX11_wholeBy h v2).bind (fun yr23 =>
if ((yr23.1 >>> (v1 &&& 31)) &&& 1) = 1 then
some (.inr (.inr (v2, yr23.2)))
else
some (.inl ((v2 + 1), yr23.2)))
def fX11_need (h : wSt) (x0 : Int32) : Option (Int32 × wSt) :=
wlet (wuI h 188 0 0) (fun yh21 =>
(fX11_isText yh21 x0).bind (fun yr22 =>
if yr22 = true then
(wit (fun v : (Int32 × wSt) => fX11_need_l17 v.2 x0 v.1) 3000 ((0 : Int32), yh21)).bind (fun ye24 => match ye24 with
| .inl ye24v =>
some ((-1 : Int32), ye24v)
| .inr ye24r =>
some ye24r)
else
some ((-1 : Int32), yh21)))
def fX11_psalter_l19 (h : wSt) (v1 : Int32) (v2 : Int32) (v3 : Int32) : Option ((Int32 × Int32 × wSt) ⊕ ((Int32 × wSt))) :=
if 10 ≤ v3 then
some (.inr (v2, h))
else
(fX11_wholeBy h v3).bind (fun yr23 =>
wlet (v2 + ((yr23.1 >>> (v1 &&& 31)) &&& 1)) (fun yx24 =>
some (.inl (yx24, (v3 + 1), yr23.2))))
def fX11_psalter (h : wSt) (x0 : Int32) : Option (Int32 × wSt) :=
wlet (wuI h 188 0 0) (fun yh21 =>
(fX11_isText yh21 x0).bind (fun yr22 =>
if yr22 = true then
(wit (fun v : (Int32 × Int32 × wSt) => fX11_psalter_l19 v.2.2 x0 v.1 v.2.1) 3000 ((0 : Int32), (0 : Int32), yh21)).bind (fun ye25 =>
some (ye25.1, ye25.2))
else
some ((-1 : Int32), yh21)))
def fX11_lost_l52 (h : wSt) (v2 : Int32) (v3 : Int32) (v4 : Int32) (v1 : Int32) (v5 : Int32) : Option ((Int32 × Int32) ⊕ ((Int32))) :=
if v5 ≤ 0 then
some (.inr v1)
else
wlet (v1 ||| (1 <<< (((v5 - v5 / 7 * 7) - 1) &&& 31))) (fun yx25 =>
some (.inl (yx25, (v5 / 7))))
def fX11_lost_b114_82 (h : wSt) (v1 : Int32) (v3 : Int32) (v4 : Int32) (v5 : Int32) (w0 : Int32) (w1 : Int32) : Option ((Int32 × Int32 × wSt) ⊕ ((Int32 × wSt))) :=
some (.inl ((w0 ||| w1), (v5 + 1), h))
def fX11_lost_l82 (h : wSt) (v1 : Int32) (v3 : Int32) (v4 : Int32) (v2 : Int32) (v5 : Int32) : Option ((Int32 × Int32 × wSt) ⊕ ((Int32 × wSt))) :=
if 10 ≤ v5 then
some (.inr (v2, h))
else
(fX11_readBy h v3 v4 v5).bind (fun yr28 =>
if 0 ≤ yr28.1 then
fX11_lost_b114_82 yr28.2 v1 v3 v4 v5 v2 (1 <<< (yr28.1 &&& 31))
else
fX11_lost_b114_82 yr28.2 v1 v3 v4 v5 v2 (0 : Int32))
def fX11_lost_l24 (h : wSt) (v3 : Int32) (v1 : Int32) (v2 : Int32) (v4 : Int32) : Option ((Int32 × Int32 × Int32 × wSt) ⊕ ((Int32 × Int32 × wSt))) :=
if wib v3 6 then
if (h.1 193 v3.toNatClampNeg) ≤ v4 then
some (.inr (v1, v2, h))
else
if wib ((7 + (6 * v3)) + v4) 25 then
wlet (h.1 225 ((7 + (6 * v3)) + v4).toNatClampNeg) (fun yx24 =>
(wit (fun v : (Int32 × Int32) => fX11_lost_l52 h v2 v3 v4 v.1 v.2) 3000 (v1, yx24)).bind (fun ye26 =>
(wit (fun v : (Int32 × Int32 × wSt) => fX11_lost_l82 v.2.2 ye26 v3 v4 v.1 v.2.1) 3000 (v2, (0 : Int32), h)).bind (fun ye29 =>
some (.inl (ye26, ye29.1, (v4 + 1), ye29.2)))))
else none
else none
def fX11_lost_l11 (h : wSt) (v1 : Int32) (v2 : Int32) (v3 : Int32) : Option ((Int32 × Int32 × Int32 × wSt) ⊕ ((Int32 × Int32 × wSt))) :=
if (h.1 190 0) ≤ v3 then
some (.inr (v1, v2, h))
else
(wit (fun v : (Int32 × Int32 × Int32 × wSt) => fX11_lost_l24 v.2.2.2 v3 v.1 v.2.1 v.2.2.1) 3000 (v1, v2, (0 : Int32), h)).bind (fun ye32 =>
some (.inl (ye32.1, ye32.2.1, (v3 + 1), ye32.2.2)))
def fX11_lost (h : wSt) : Option (Int32 × wSt) :=
wlet (wuI h 188 0 0) (fun yh21 =>
(wit (fun v : (Int32 × Int32 × Int32 × wSt) => fX11_lost_l11 v.2.2.2 v.1 v.2.1 v.2.2.1) 3000 ((0 : Int32), (0 : Int32), (0 : Int32), yh21)).bind (fun ye36 =>
some ((ye36.1 &&& (ye36.2.1 ^^^ (-1))), ye36.2.2)))
def fX11_place (h : wSt) (x0 : Int32) (x1 : Int32) : Option (Int32 × wSt) :=
wlet (wuI h 188 0 0) (fun yh21 =>
(fX11_isText yh21 x0).bind (fun yr22 =>
if yr22 = true then
(fX11_isSkin yh21 x1).bind (fun yr23 =>
if yr23 = true then
(fX11_placeOf yh21 x0 x1).bind (fun yr24 =>
some (yr24, yh21))
else
some ((-1 : Int32), yh21))
else
some ((-1 : Int32), yh21)))
def fX11_costBy_b61 (h : wSt) (v4 : Int32) (w0 : Int32) : Option (Int32 × wSt) :=
(fX11_copies h 227 25 (0 : Int32) 225 25 (0 : Int32)).bind (fun yr26 =>
if w0 = 0 then
some ((-1 : Int32), yr26)
else
some (v4, yr26))
def fX11_costBy (h : wSt) (x0 : Int32) (x1 : Int32) (x2 : Int32) : Option (Int32 × wSt) :=
(fX11_scrapedBy h x1 x2).bind (fun yr21 =>
if yr21 = 0 then
some ((-1 : Int32), h)
else
if wib (1 + x1) 25 then
if yr21 < (h.1 225 (1 + x1).toNatClampNeg) then
(fX11_copies h 225 25 (0 : Int32) 227 25 (0 : Int32)).bind (fun yr23 =>
(fX11_scrapes yr23 x1 x2).bind (fun yr24 =>
(fX11_placeOf yr24 x0 x1).bind (fun yr25 =>
if yr25 < 0 then
fX11_costBy_b61 yr24 yr21 (0 : Int32)
else
fX11_costBy_b61 yr24 yr21 (1 : Int32))))
else
some ((-1 : Int32), h)
else none)
def fX11_cost (h : wSt) (x0 : Int32) (x1 : Int32) : Option (Int32 × wSt) :=
wlet (wuI h 188 0 0) (fun yh21 =>
(fX11_isText yh21 x0).bind (fun yr22 =>
if yr22 = true then
(fX11_isSkin yh21 x1).bind (fun yr23 =>
if yr23 = true then
(fX11_placeOf yh21 x0 x1).bind (fun yr24 =>
if yr24 < 0 then
(fX11_costBy yh21 x0 x1 (9 : Int32)).bind (fun yr25 =>
(fX11_costBy yr25.2 x0 x1 (63 : Int32)).bind (fun yr26 =>
if 0 ≤ yr25.1 then
if 0 ≤ yr26.1 then
some ((wmn yr25.1 yr26.1), yr26.2)
else
some (yr25.1, yr26.2)
else
some (yr26.1, yr26.2)))
else
some ((0 : Int32), yh21))
else
some ((-1 : Int32), yh21))
else
some ((-1 : Int32), yh21)))
def fX11_unwrites_l3 (h : wSt) (v1 : Int32) (v2 : Int32) (v3 : Int32) (v4 : Int32) : Option ((Int32 × wSt) ⊕ ((wSt))) :=
if wib v1 12 then
if (v3 + (h.1 198 v1.toNatClampNeg)) ≤ v4 then
some (.inr h)
else
if wib ((7 + (6 * v2)) + v4) 25 then
wlet (wuI h 225 ((7 + (6 * v2)) + v4).toNatClampNeg ((h.1 225 ((7 + (6 * v2)) + v4).toNatClampNeg) / 7)) (fun yh23 =>
if wib (4 + v2) 25 then
wlet (wuI yh23 225 (4 + v2).toNatClampNeg ((yh23.1 225 (4 + v2).toNatClampNeg) &&& ((1 <<< (v4 &&& 31)) ^^^ (-1)))) (fun yh25 =>
some (.inl ((v4 + 1), yh25)))
else none)
else none
else none
def fX11_unwrites (h : wSt) (x0 : Int32) (x1 : Int32) (x2 : Int32) : Option (wSt) :=
(wit (fun v : (Int32 × wSt) => fX11_unwrites_l3 v.2 x0 x1 x2 v.1) 3000 (x2, h)).bind (fun ye26 =>
some ye26)
section WX
variable {p : Program} {l : Launch} {e : Env} {s : State} {m : MethodId} {args : Array Value} {below : List Frame} {meth : Method} {c : Code} {D : va_G} {dA : Nat → ClassId} {b0 : Nat} {ad : Nat → Nat} {F : Option Value → wSt → Prop}
set_option maxRecDepth 4000 in
theorem pX11_layers_b0 (X : wCx p s m args meth c RX11 cX11_layers 3 D dA b0 ad) (hr : meth.sig.returnType = (some .int)) {h : wSt} {x0 : Int32} {x1 : Int32} {K : Int32 × wSt → Prop} (hT : ∀ (x : Int32) (h2 : wSt), K (x, h2) → F (some (.int x)) h2) (hf : wok (fX11_layers h x0 x1) K) : wM p l e (wR 3) s m args below meth c 0 0 (wE below args s D dA b0 ad S0 F) 3 D dA b0 ad S0 0 [some (.ref 188), some (.int x0), some (.int x1)] [] h := by
  unfold fX11_layers at hf
  refine w_aload_n X dX11_layers_0 rfl rfl rfl ?_
  refine w_iconst X dX11_layers_1 rfl ci_0 ?_
  refine w_putI X dX11_layers_2 rfl fp_X11_144 S0_188 rfl ?_
  refine w_nmh (fun yh21 eyh21 => ?_)
  have hf := wok_l hf eyh21
  refine w_aload_n X dX11_layers_5 rfl rfl rfl ?_
  refine w_iload_n X dX11_layers_6 rfl rfl rfl ?_
  refine w_iload_n X dX11_layers_7 rfl rfl rfl ?_
  obtain ⟨yr22, eyr22, hf⟩ := wok_b hf
  refine w_callV X dX11_layers_8 rfl vl_X11_396 (kX11_isLine l  eyr22) S0_188 (As := [.int x0, .int x1]) (st := []) rfl rfl (Nat.le_of_ble_eq_true rfl) ⟨Nat.le_of_ble_eq_true rfl, Nat.le_of_ble_eq_true rfl⟩ ⟨Nat.zero_le _, Nat.zero_le _⟩ (fun r h2 hF => ?_)
  obtain ⟨_, rfl, rfl, rfl⟩ := hF
  show wM p l e (wR 3) s m args below meth c 0 0 (wE below args s D dA b0 ad S0 F) 3 D dA b0 ad S0 11 [some (.ref 188), some (.int x0), some (.int x1)] [.int (wb yr22)] yh21
  refine w_if_eq X dX11_layers_11 rfl (t := 34) rfl (fun hc => ?_) (fun hc => ?_)
  · have hf := wok_f hf (wb_0 hc)
    refine w_iconst X dX11_layers_34 rfl ci_m1 ?_
    exact w_iret X dX11_layers_35 hr (hT _ _ (wok_s hf))
  · have hf := wok_t hf (wb_n0 hc)
    refine w_aload_n X dX11_layers_14 rfl rfl rfl ?_
    refine w_getR X dX11_layers_15 rfl fl_X11_120 S0_188 rfl ?_
    refine w_bipush X dX11_layers_18 rfl cb_7 ?_
    refine w_bipush X dX11_layers_20 rfl cb_6 ?_
    refine w_iload_n X dX11_layers_22 rfl rfl rfl ?_
    refine w_imul X dX11_layers_23 rfl ?_
    refine w_iadd X dX11_layers_24 rfl ?_
    refine w_iload_n X dX11_layers_25 rfl rfl rfl ?_
    refine w_iadd X dX11_layers_26 rfl ?_
    obtain ⟨yhg23, hf⟩ := wok_g hf
    refine w_iald X dX11_layers_27 rfl (j := ((7 + (6 * x0)) + x1).toNatClampNeg) rfl S0_225 yhg23 ?_
    obtain ⟨yr24, eyr24, hf⟩ := wok_b hf
    refine w_callS X dX11_layers_28 rfl sl_X11_399 (kX11_deepOf l  eyr24) (As := [.int (yh21.1 225 ((7 + (6 * x0)) + x1).toNatClampNeg)]) (st := []) rfl rfl (Nat.le_of_ble_eq_true rfl) ⟨Nat.le_of_ble_eq_true rfl, Nat.le_of_ble_eq_true rfl⟩ ⟨Nat.zero_le _, Nat.zero_le _⟩ (fun r h2 hF => ?_)
    obtain ⟨_, rfl, rfl, rfl⟩ := hF
    show wM p l e (wR 3) s m args below meth c 0 0 (wE below args s D dA b0 ad S0 F) 3 D dA b0 ad S0 31 [some (.ref 188), some (.int x0), some (.int x1)] [.int yr24] yh21
    refine w_goto X dX11_layers_31 (t := 35) rfl ?_
    exact w_iret X dX11_layers_35 hr (hT _ _ (wok_s hf))
set_option maxRecDepth 4000 in
theorem kX11_layers (l : Launch) {h : wSt} {x0 : Int32} {x1 : Int32} {res : Int32 × wSt} (hf : fX11_layers h x0 x1 = some res) : wC l yX11_layers cX11_layers 3 (some .int) 3 S0 [.ref 188, .int x0, .int x1] h (wFI (fun a b => res.1 = a ∧ res.2 = b)) := by
  refine w_meth2 0 (by decide) (Nat.le_of_ble_eq_true rfl) (ls := [some (.ref 188), some (.int x0), some (.int x1)]) rfl ?_
  intro p e s m args below meth c D dA b0 ad X hr
  exact pX11_layers_b0 X hr  (K := fun z => res = z) (fun x h2 hz => ⟨x, rfl, by rw [hz], by rw [hz]⟩) ⟨res, hf, rfl⟩
set_option maxRecDepth 4000 in
theorem pX11_layerOf_l9b (X : wCx p s m args meth c RX11 cX11_layerOf 4 D dA b0 ad) (hr : meth.sig.returnType = (some .int)) {h : wSt} {v1 : Int32} {v2 : Int32} {v3 : Int32} {K : (Int32 × Int32) ⊕ ((Int32)) → Prop} (hN : ∀ (n2 : Int32) (n3 : Int32), K (.inl (n2, n3)) → wM p l e (wR 2) s m args below meth c 0 0 (wE below args s D dA b0 ad S0 F) 4 D dA b0 ad S0 9 [none, some (.int v1), some (.int n2), some (.int n3)] [] h) (hX0 : ∀ (n2 : Int32), K (.inr n2) → wM p l e (wR 2) s m args below meth c 0 0 (wE below args s D dA b0 ad S0 F) 4 D dA b0 ad S0 25 [none, none, some (.int n2), none] [] h) (hf : wok (fX11_layerOf_l9 h v1 v2 v3) K) : wM p l e (wR 2) s m args below meth c 0 0 (wE below args s D dA b0 ad S0 F) 4 D dA b0 ad S0 9 [none, some (.int v1), some (.int v2), some (.int v3)] [] h := by
  unfold fX11_layerOf_l9 at hf
  refine w_iload_n X dX11_layerOf_9 rfl rfl rfl ?_
  refine w_iload_n X dX11_layerOf_10 rfl rfl rfl ?_
  refine w_icmp_le X dX11_layerOf_11 rfl (t := 25) rfl (fun hc => ?_) (fun hc => ?_)
  · have hf := wok_t hf hc
    refine w_fg (ls2 := [none, none, some (.int v2), none]) ⟨rfl, trivial⟩ ?_
    exact hX0 _ (wok_s hf)
  · have hf := wok_f hf hc
    refine w_iload_n X dX11_layerOf_14 rfl rfl rfl ?_
    refine w_bipush X dX11_layerOf_15 rfl cb_7 ?_
    refine w_idiv X dX11_layerOf_17 rfl (by decide) ?_
    refine w_istore_n X dX11_layerOf_18 rfl rfl rfl (Nat.le_of_ble_eq_true rfl) (ls' := [none, some (.int v1), some (.int (v2 / 7)), some (.int v3)]) rfl ?_
    refine w_iinc X dX11_layerOf_19 rfl (v := (v3 + (-1))) rfl rfl (Nat.le_of_ble_eq_true rfl) (cinc_m1 _) (ls' := [none, some (.int v1), some (.int (v2 / 7)), some (.int (v3 + (-1)))]) rfl ?_
    refine w_goto X dX11_layerOf_22 (t := 9) rfl ?_
    exact hN _ _ (wok_s hf)
set_option maxRecDepth 4000 in
theorem pX11_layerOf_l9 (X : wCx p s m args meth c RX11 cX11_layerOf 4 D dA b0 ad) (hr : meth.sig.returnType = (some .int)) {h : wSt} {v1 : Int32} {KE : (Int32) → Prop} (hX0 : ∀ (n2 : Int32), KE (n2) → wM p l e (wR 2) s m args below meth c 0 0 (wE below args s D dA b0 ad S0 F) 4 D dA b0 ad S0 25 [none, none, some (.int n2), none] [] h) : ∀ (n : Nat) (v2 : Int32) (v3 : Int32), wok (wit (fun v : (Int32 × Int32) => fX11_layerOf_l9 h v1 v.1 v.2) n (v2, v3)) KE → wM p l e (wR 2) s m args below meth c 0 0 (wE below args s D dA b0 ad S0 F) 4 D dA b0 ad S0 9 [none, some (.int v1), some (.int v2), some (.int v3)] [] h := by
  have key := wit_M (b := (fun v : (Int32 × Int32) => fX11_layerOf_l9 h v1 v.1 v.2)) (KE := KE) (G := fun v => wM p l e (wR 2) s m args below meth c 0 0 (wE below args s D dA b0 ad S0 F) 4 D dA b0 ad S0 9 [none, some (.int v1), some (.int v.1), some (.int v.2)] [] h) (fun v K hN hE hf => pX11_layerOf_l9b X hr  (fun n2 n3 hz => hN (n2, n3) hz) (fun z0 hz => hX0 z0 (hE _ hz)) hf)
  exact fun n v2 v3 hf => key n (v2, v3) hf
set_option maxRecDepth 4000 in
theorem pX11_layerOf_b0 (X : wCx p s m args meth c RX11 cX11_layerOf 4 D dA b0 ad) (hr : meth.sig.returnType = (some .int)) {h : wSt} {x0 : Int32} {x1 : Int32} {K : Int32 → Prop} (hT : ∀ (x : Int32), K x → F (some (.int x)) h) (hf : wok (fX11_layerOf h x0 x1) K) : wM p l e (wR 2) s m args below meth c 0 0 (wE below args s D dA b0 ad S0 F) 4 D dA b0 ad S0 0 [some (.int x0), some (.int x1), none, none] [] h := by
  unfold fX11_layerOf at hf
  refine w_iload_n X dX11_layerOf_0 rfl rfl rfl ?_
  refine w_istore_n X dX11_layerOf_1 rfl rfl rfl (Nat.le_of_ble_eq_true rfl) (ls' := [some (.int x0), some (.int x1), some (.int x0), none]) rfl ?_
  refine w_iload_n X dX11_layerOf_2 rfl rfl rfl ?_
  obtain ⟨yr21, eyr21, hf⟩ := wok_b hf
  refine w_callS X dX11_layerOf_3 rfl sl_X11_399 (kX11_deepOf l  eyr21) (As := [.int x0]) (st := []) rfl rfl (Nat.le_of_ble_eq_true rfl) ⟨Nat.le_of_ble_eq_true rfl, Nat.le_of_ble_eq_true rfl⟩ ⟨Nat.zero_le _, Nat.zero_le _⟩ (fun r h2 hF => ?_)
  obtain ⟨_, rfl, rfl, rfl⟩ := hF
  show wM p l e (wR 2) s m args below meth c 0 0 (wE below args s D dA b0 ad S0 F) 4 D dA b0 ad S0 6 [some (.int x0), some (.int x1), some (.int x0), none] [.int yr21] h
  refine w_iconst X dX11_layerOf_6 rfl ci_1 ?_
  refine w_isub X dX11_layerOf_7 rfl ?_
  refine w_istore_n X dX11_layerOf_8 rfl rfl rfl (Nat.le_of_ble_eq_true rfl) (ls' := [some (.int x0), some (.int x1), some (.int x0), some (.int (yr21 - 1))]) rfl ?_
  refine w_fg (ls2 := [none, some (.int x1), some (.int x0), some (.int (yr21 - 1))]) ⟨rfl, rfl, rfl, trivial⟩ ?_
  obtain ⟨ye22, hye22, hf⟩ := wok_b hf
  refine pX11_layerOf_l9 X hr  (KE := fun z => ye22 = z) ?_ 3000 _ _ ⟨ye22, hye22, rfl⟩
  · intro yz23 hz
    subst hz
    refine w_iload_n X dX11_layerOf_25 rfl rfl rfl ?_
    refine w_bipush X dX11_layerOf_26 rfl cb_7 ?_
    refine w_irem X dX11_layerOf_28 rfl (by decide) ?_
    refine w_iconst X dX11_layerOf_29 rfl ci_1 ?_
    refine w_isub X dX11_layerOf_30 rfl ?_
    exact w_iret X dX11_layerOf_31 hr (hT _ (wok_s hf))
set_option maxRecDepth 4000 in
theorem kX11_layerOf (l : Launch) {h : wSt} {x0 : Int32} {x1 : Int32} {res : Int32} (hf : fX11_layerOf h x0 x1 = some res) : wC l yX11_layerOf cX11_layerOf 4 (some .int) 2 S0 [.int x0, .int x1] h (wFI (fun a b => res = a ∧ h = b)) := by
  refine w_meth2 2 (by decide) (Nat.le_of_ble_eq_true rfl) (ls := [some (.int x0), some (.int x1), none, none]) rfl ?_
  intro p e s m args below meth c D dA b0 ad X hr
  exact pX11_layerOf_b0 X hr  (K := fun z => res = z) (fun x hz => ⟨x, rfl, hz, rfl⟩) ⟨res, hf, rfl⟩
set_option maxRecDepth 4000 in
theorem pX11_layer_b0 (X : wCx p s m args meth c RX11 cX11_layer 4 D dA b0 ad) (hr : meth.sig.returnType = (some .int)) {h : wSt} {x0 : Int32} {x1 : Int32} {x2 : Int32} {K : Int32 × wSt → Prop} (hT : ∀ (x : Int32) (h2 : wSt), K (x, h2) → F (some (.int x)) h2) (hf : wok (fX11_layer h x0 x1 x2) K) : wM p l e (wR 3) s m args below meth c 0 0 (wE below args s D dA b0 ad S0 F) 4 D dA b0 ad S0 0 [some (.ref 188), some (.int x0), some (.int x1), some (.int x2)] [] h := by
  unfold fX11_layer at hf
  refine w_aload_n X dX11_layer_0 rfl rfl rfl ?_
  refine w_iconst X dX11_layer_1 rfl ci_0 ?_
  refine w_putI X dX11_layer_2 rfl fp_X11_144 S0_188 rfl ?_
  refine w_nmh (fun yh21 eyh21 => ?_)
  have hf := wok_l hf eyh21
  refine w_aload_n X dX11_layer_5 rfl rfl rfl ?_
  refine w_iload_n X dX11_layer_6 rfl rfl rfl ?_
  refine w_iload_n X dX11_layer_7 rfl rfl rfl ?_
  obtain ⟨yr22, eyr22, hf⟩ := wok_b hf
  refine w_callV X dX11_layer_8 rfl vl_X11_396 (kX11_isLine l  eyr22) S0_188 (As := [.int x0, .int x1]) (st := []) rfl rfl (Nat.le_of_ble_eq_true rfl) ⟨Nat.le_of_ble_eq_true rfl, Nat.le_of_ble_eq_true rfl⟩ ⟨Nat.zero_le _, Nat.zero_le _⟩ (fun r h2 hF => ?_)
  obtain ⟨_, rfl, rfl, rfl⟩ := hF
  show wM p l e (wR 3) s m args below meth c 0 0 (wE below args s D dA b0 ad S0 F) 4 D dA b0 ad S0 11 [some (.ref 188), some (.int x0), some (.int x1), some (.int x2)] [.int (wb yr22)] yh21
  refine w_if_eq X dX11_layer_11 rfl (t := 39) rfl (fun hc => ?_) (fun hc => ?_)
  · have hf := wok_f hf (wb_0 hc)
    refine w_iconst X dX11_layer_39 rfl ci_m1 ?_
    exact w_iret X dX11_layer_40 hr (hT _ _ (wok_s hf))
  · have hf := wok_t hf (wb_n0 hc)
    refine w_iload_n X dX11_layer_14 rfl rfl rfl ?_
    refine w_if_lt X dX11_layer_15 rfl (t := 39) rfl (fun hc => ?_) (fun hc => ?_)
    · have hf := wok_t hf hc
      refine w_iconst X dX11_layer_39 rfl ci_m1 ?_
      exact w_iret X dX11_layer_40 hr (hT _ _ (wok_s hf))
    · have hf := wok_f hf hc
      refine w_iload_n X dX11_layer_18 rfl rfl rfl ?_
      refine w_aload_n X dX11_layer_19 rfl rfl rfl ?_
      refine w_getR X dX11_layer_20 rfl fl_X11_120 S0_188 rfl ?_
      refine w_bipush X dX11_layer_23 rfl cb_7 ?_
      refine w_bipush X dX11_layer_25 rfl cb_6 ?_
      refine w_iload_n X dX11_layer_27 rfl rfl rfl ?_
      refine w_imul X dX11_layer_28 rfl ?_
      refine w_iadd X dX11_layer_29 rfl ?_
      refine w_iload_n X dX11_layer_30 rfl rfl rfl ?_
      refine w_iadd X dX11_layer_31 rfl ?_
      obtain ⟨yhg23, hf⟩ := wok_g hf
      refine w_iald X dX11_layer_32 rfl (j := ((7 + (6 * x0)) + x1).toNatClampNeg) rfl S0_225 yhg23 ?_
      obtain ⟨yr24, eyr24, hf⟩ := wok_b hf
      refine w_callS X dX11_layer_33 rfl sl_X11_399 (kX11_deepOf l  eyr24) (As := [.int (yh21.1 225 ((7 + (6 * x0)) + x1).toNatClampNeg)]) (st := [.int x2]) rfl rfl (Nat.le_of_ble_eq_true rfl) ⟨Nat.le_of_ble_eq_true rfl, Nat.le_of_ble_eq_true rfl⟩ ⟨Nat.zero_le _, Nat.zero_le _⟩ (fun r h2 hF => ?_)
      obtain ⟨_, rfl, rfl, rfl⟩ := hF
      show wM p l e (wR 3) s m args below meth c 0 0 (wE below args s D dA b0 ad S0 F) 4 D dA b0 ad S0 36 [some (.ref 188), some (.int x0), some (.int x1), some (.int x2)] [.int yr24, .int x2] yh21
      refine w_icmp_lt X dX11_layer_36 rfl (t := 41) rfl (fun hc => ?_) (fun hc => ?_)
      · have hf := wok_t hf hc
        refine w_aload_n X dX11_layer_41 rfl rfl rfl ?_
        refine w_getR X dX11_layer_42 rfl fl_X11_120 S0_188 rfl ?_
        refine w_bipush X dX11_layer_45 rfl cb_7 ?_
        refine w_bipush X dX11_layer_47 rfl cb_6 ?_
        refine w_iload_n X dX11_layer_49 rfl rfl rfl ?_
        refine w_imul X dX11_layer_50 rfl ?_
        refine w_iadd X dX11_layer_51 rfl ?_
        refine w_iload_n X dX11_layer_52 rfl rfl rfl ?_
        refine w_iadd X dX11_layer_53 rfl ?_
        refine w_iald X dX11_layer_54 rfl (j := ((7 + (6 * x0)) + x1).toNatClampNeg) rfl S0_225 yhg23 ?_
        refine w_iload_n X dX11_layer_55 rfl rfl rfl ?_
        obtain ⟨yr25, eyr25, hf⟩ := wok_b hf
        refine w_callS X dX11_layer_56 rfl sl_X11_402 (kX11_layerOf l  eyr25) (As := [.int (yh21.1 225 ((7 + (6 * x0)) + x1).toNatClampNeg), .int x2]) (st := []) rfl rfl (Nat.le_of_ble_eq_true rfl) ⟨Nat.le_of_ble_eq_true rfl, Nat.le_of_ble_eq_true rfl⟩ ⟨Nat.zero_le _, Nat.zero_le _⟩ (fun r h2 hF => ?_)
        obtain ⟨_, rfl, rfl, rfl⟩ := hF
        show wM p l e (wR 3) s m args below meth c 0 0 (wE below args s D dA b0 ad S0 F) 4 D dA b0 ad S0 59 [some (.ref 188), some (.int x0), some (.int x1), some (.int x2)] [.int yr25] yh21
        exact w_iret X dX11_layer_59 hr (hT _ _ (wok_s hf))
      · have hf := wok_f hf hc
        refine w_iconst X dX11_layer_39 rfl ci_m1 ?_
        exact w_iret X dX11_layer_40 hr (hT _ _ (wok_s hf))
set_option maxRecDepth 4000 in
theorem kX11_layer (l : Launch) {h : wSt} {x0 : Int32} {x1 : Int32} {x2 : Int32} {res : Int32 × wSt} (hf : fX11_layer h x0 x1 x2 = some res) : wC l yX11_layer cX11_layer 4 (some .int) 3 S0 [.ref 188, .int x0, .int x1, .int x2] h (wFI (fun a b => res.1 = a ∧ res.2 = b)) := by
  refine w_meth2 0 (by decide) (Nat.le_of_ble_eq_true rfl) (ls := [some (.ref 188), some (.int x0), some (.int x1), some (.int x2)]) rfl ?_
  intro p e s m args below meth c D dA b0 ad X hr
  exact pX11_layer_b0 X hr  (K := fun z => res = z) (fun x h2 hz => ⟨x, rfl, by rw [hz], by rw [hz]⟩) ⟨res, hf, rfl⟩
set_option maxRecDepth 4000 in
theorem pX11_read_b0 (X : wCx p s m args meth c RX11 cX11_read 3 D dA b0 ad) (hr : meth.sig.returnType = (some .int)) {h : wSt} {x0 : Int32} {x1 : Int32} {K : Int32 × wSt → Prop} (hT : ∀ (x : Int32) (h2 : wSt), K (x, h2) → F (some (.int x)) h2) (hf : wok (fX11_read h x0 x1) K) : wM p l e (wR 6) s m args below meth c 0 0 (wE below args s D dA b0 ad S0 F) 3 D dA b0 ad S0 0 [some (.ref 188), some (.int x0), some (.int x1)] [] h := by
  unfold fX11_read at hf
  refine w_aload_n X dX11_read_0 rfl rfl rfl ?_
  refine w_iconst X dX11_read_1 rfl ci_0 ?_
  refine w_putI X dX11_read_2 rfl fp_X11_144 S0_188 rfl ?_
  refine w_nmh (fun yh21 eyh21 => ?_)
  have hf := wok_l hf eyh21
  refine w_aload_n X dX11_read_5 rfl rfl rfl ?_
  refine w_iload_n X dX11_read_6 rfl rfl rfl ?_
  refine w_iload_n X dX11_read_7 rfl rfl rfl ?_
  obtain ⟨yr22, eyr22, hf⟩ := wok_b hf
  refine w_callV X dX11_read_8 rfl vl_X11_396 (kX11_isLine l  eyr22) S0_188 (As := [.int x0, .int x1]) (st := []) rfl rfl (Nat.le_of_ble_eq_true rfl) ⟨Nat.le_of_ble_eq_true rfl, Nat.le_of_ble_eq_true rfl⟩ ⟨Nat.zero_le _, Nat.zero_le _⟩ (fun r h2 hF => ?_)
  obtain ⟨_, rfl, rfl, rfl⟩ := hF
  show wM p l e (wR 6) s m args below meth c 0 0 (wE below args s D dA b0 ad S0 F) 3 D dA b0 ad S0 11 [some (.ref 188), some (.int x0), some (.int x1)] [.int (wb yr22)] yh21
  refine w_if_eq X dX11_read_11 rfl (t := 33) rfl (fun hc => ?_) (fun hc => ?_)
  · have hf := wok_f hf (wb_0 hc)
    refine w_iconst X dX11_read_33 rfl ci_m1 ?_
    exact w_iret X dX11_read_34 hr (hT _ _ (wok_s hf))
  · have hf := wok_t hf (wb_n0 hc)
    refine w_aload_n X dX11_read_14 rfl rfl rfl ?_
    refine w_iload_n X dX11_read_15 rfl rfl rfl ?_
    refine w_iload_n X dX11_read_16 rfl rfl rfl ?_
    refine w_aload_n X dX11_read_17 rfl rfl rfl ?_
    refine w_aload_n X dX11_read_18 rfl rfl rfl ?_
    refine w_getR X dX11_read_19 rfl fl_X11_120 S0_188 rfl ?_
    refine w_iconst X dX11_read_22 rfl ci_0 ?_
    refine w_iald X dX11_read_23 rfl (j := 0) cn_0 S0_225 (show wib 0 25 by decide) ?_
    obtain ⟨yr23, eyr23, hf⟩ := wok_b hf
    refine w_callV X dX11_read_24 rfl vl_X11_367 (kX11_dampOf l  eyr23) S0_188 (As := [.int (yh21.1 225 0)]) (st := [.int x1, .int x0, .ref 188]) rfl rfl (Nat.le_of_ble_eq_true rfl) ⟨Nat.le_of_ble_eq_true rfl, Nat.le_of_ble_eq_true rfl⟩ ⟨Nat.zero_le _, Nat.zero_le _⟩ (fun r h2 hF => ?_)
    obtain ⟨_, rfl, rfl, rfl⟩ := hF
    show wM p l e (wR 6) s m args below meth c 0 0 (wE below args s D dA b0 ad S0 F) 3 D dA b0 ad S0 27 [some (.ref 188), some (.int x0), some (.int x1)] [.int yr23, .int x1, .int x0, .ref 188] yh21
    obtain ⟨yr24, eyr24, hf⟩ := wok_b hf
    refine w_callV X dX11_read_27 rfl vl_X11_363 (kX11_readBy l  eyr24) S0_188 (As := [.int x0, .int x1, .int yr23]) (st := []) rfl rfl (Nat.le_of_ble_eq_true rfl) ⟨Nat.le_of_ble_eq_true rfl, Nat.le_of_ble_eq_true rfl⟩ ⟨Nat.zero_le _, Nat.zero_le _⟩ (fun r h2 hF => ?_)
    obtain ⟨_, rfl, rfl, rfl⟩ := hF
    show wM p l e (wR 6) s m args below meth c 0 0 (wE below args s D dA b0 ad S0 F) 3 D dA b0 ad S0 30 [some (.ref 188), some (.int x0), some (.int x1)] [.int yr24.1] yr24.2
    refine w_goto X dX11_read_30 (t := 34) rfl ?_
    exact w_iret X dX11_read_34 hr (hT _ _ (wok_s hf))
set_option maxRecDepth 4000 in
theorem kX11_read (l : Launch) {h : wSt} {x0 : Int32} {x1 : Int32} {res : Int32 × wSt} (hf : fX11_read h x0 x1 = some res) : wC l yX11_read cX11_read 3 (some .int) 6 S0 [.ref 188, .int x0, .int x1] h (wFI (fun a b => res.1 = a ∧ res.2 = b)) := by
  refine w_meth2 0 (by decide) (Nat.le_of_ble_eq_true rfl) (ls := [some (.ref 188), some (.int x0), some (.int x1)]) rfl ?_
  intro p e s m args below meth c D dA b0 ad X hr
  exact pX11_read_b0 X hr  (K := fun z => res = z) (fun x h2 hz => ⟨x, rfl, by rw [hz], by rw [hz]⟩) ⟨res, hf, rfl⟩
set_option maxRecDepth 4000 in
theorem pX11_keeps_b49 (X : wCx p s m args meth c RX11 cX11_keeps 2 D dA b0 ad) (hr : meth.sig.returnType = none) {h : wSt} {K : wSt → Prop} (hT : ∀ (h2 : wSt), K h2 → F none h2)  (hf : wok (fX11_keeps_b49 h ) K) : wM p l e (wR 2) s m args below meth c 0 0 (wE below args s D dA b0 ad S0 F) 2 D dA b0 ad S0 49 [some (.ref 188), none] [] h := by
  unfold fX11_keeps_b49 at hf
  refine w_aload_n X dX11_keeps_49 rfl rfl rfl ?_
  refine w_getR X dX11_keeps_50 rfl fl_X11_120 S0_188 rfl ?_
  refine w_iconst X dX11_keeps_53 rfl ci_0 ?_
  refine w_aload_n X dX11_keeps_54 rfl rfl rfl ?_
  refine w_getR X dX11_keeps_55 rfl fl_X11_132 S0_188 rfl ?_
  refine w_bipush X dX11_keeps_58 rfl cb_25 ?_
  refine w_aload_n X dX11_keeps_60 rfl rfl rfl ?_
  refine w_getI X dX11_keeps_61 rfl fl_X11_343 S0_188 rfl ?_
  refine w_imul X dX11_keeps_64 rfl ?_
  obtain ⟨yr21, eyr21, hf⟩ := wok_b hf
  refine w_callS X dX11_keeps_65 rfl sl_X11_405 (kX11_copies l S0_225 S0_229 eyr21) (As := [.ref 225, .int 0, .ref 229, .int (25 * (h.1 188 54))]) (st := []) rfl rfl (Nat.le_of_ble_eq_true rfl) ⟨Nat.le_of_ble_eq_true rfl, Nat.le_of_ble_eq_true rfl⟩ ⟨Nat.zero_le _, Nat.zero_le _⟩ (fun r h2 hF => ?_)
  obtain ⟨rfl, rfl⟩ := hF
  show wM p l e (wR 2) s m args below meth c 0 0 (wE below args s D dA b0 ad S0 F) 2 D dA b0 ad S0 68 [some (.ref 188), none] [] yr21
  refine w_aload_n X dX11_keeps_68 rfl rfl rfl ?_
  refine w_dup X dX11_keeps_69 rfl rfl ?_
  refine w_getI X dX11_keeps_70 rfl fl_X11_343 S0_188 rfl ?_
  refine w_iconst X dX11_keeps_73 rfl ci_1 ?_
  refine w_iadd X dX11_keeps_74 rfl ?_
  refine w_putI X dX11_keeps_75 rfl fp_X11_343 S0_188 rfl ?_
  refine w_nmh (fun yh22 eyh22 => ?_)
  have hf := wok_l hf eyh22
  exact w_vret X dX11_keeps_78 hr (hT _ (wok_s hf))
set_option maxRecDepth 4000 in
theorem pX11_keeps_l11b (X : wCx p s m args meth c RX11 cX11_keeps 2 D dA b0 ad) (hr : meth.sig.returnType = none) {h : wSt} {v1 : Int32} {K : (Int32 × wSt) ⊕ ((wSt)) → Prop} (hN : ∀ (n1 : Int32) (nh : wSt), K (.inl (n1, nh)) → wM p l e (wR 2) s m args below meth c 0 0 (wE below args s D dA b0 ad S0 F) 2 D dA b0 ad S0 11 [some (.ref 188), some (.int n1)] [] nh) (hX0 : ∀ (nh : wSt), K (.inr nh) → wM p l e (wR 2) s m args below meth c 0 0 (wE below args s D dA b0 ad S0 F) 2 D dA b0 ad S0 39 [some (.ref 188), none] [] nh) (hf : wok (fX11_keeps_l11 h v1) K) : wM p l e (wR 2) s m args below meth c 0 0 (wE below args s D dA b0 ad S0 F) 2 D dA b0 ad S0 11 [some (.ref 188), some (.int v1)] [] h := by
  unfold fX11_keeps_l11 at hf
  refine w_iload_n X dX11_keeps_11 rfl rfl rfl ?_
  refine w_sipush X dX11_keeps_12 rfl cs_375 ?_
  refine w_icmp_ge X dX11_keeps_15 rfl (t := 39) rfl (fun hc => ?_) (fun hc => ?_)
  · have hf := wok_t hf hc
    refine w_fg (ls2 := [some (.ref 188), none]) ⟨rfl, trivial⟩ ?_
    exact hX0 _ (wok_s hf)
  · have hf := wok_f hf hc
    refine w_aload_n X dX11_keeps_18 rfl rfl rfl ?_
    refine w_getR X dX11_keeps_19 rfl fl_X11_132 S0_188 rfl ?_
    refine w_iload_n X dX11_keeps_22 rfl rfl rfl ?_
    refine w_aload_n X dX11_keeps_23 rfl rfl rfl ?_
    refine w_getR X dX11_keeps_24 rfl fl_X11_132 S0_188 rfl ?_
    refine w_iload_n X dX11_keeps_27 rfl rfl rfl ?_
    refine w_bipush X dX11_keeps_28 rfl cb_25 ?_
    refine w_iadd X dX11_keeps_30 rfl ?_
    obtain ⟨yhg23, hf⟩ := wok_g hf
    refine w_iald X dX11_keeps_31 rfl (j := (v1 + 25).toNatClampNeg) rfl S0_229 yhg23 ?_
    obtain ⟨yhg24, hf⟩ := wok_g hf
    refine w_iast X dX11_keeps_32 rfl (j := v1.toNatClampNeg) rfl S0_229 yhg24 ?_
    refine w_nmh (fun yh25 eyh25 => ?_)
    have hf := wok_l hf eyh25
    refine w_iinc X dX11_keeps_33 rfl (v := (v1 + 1)) rfl rfl (Nat.le_of_ble_eq_true rfl) (cinc_1 _) (ls' := [some (.ref 188), some (.int (v1 + 1))]) rfl ?_
    refine w_goto X dX11_keeps_36 (t := 11) rfl ?_
    exact hN _ _ (wok_s hf)
set_option maxRecDepth 4000 in
theorem pX11_keeps_l11 (X : wCx p s m args meth c RX11 cX11_keeps 2 D dA b0 ad) (hr : meth.sig.returnType = none)  {KE : (wSt) → Prop} (hX0 : ∀ (nh : wSt), KE (nh) → wM p l e (wR 2) s m args below meth c 0 0 (wE below args s D dA b0 ad S0 F) 2 D dA b0 ad S0 39 [some (.ref 188), none] [] nh) : ∀ (n : Nat) (v1 : Int32) (h : wSt), wok (wit (fun v : (Int32 × wSt) => fX11_keeps_l11 v.2 v.1) n (v1, h)) KE → wM p l e (wR 2) s m args below meth c 0 0 (wE below args s D dA b0 ad S0 F) 2 D dA b0 ad S0 11 [some (.ref 188), some (.int v1)] [] h := by
  have key := wit_M (b := (fun v : (Int32 × wSt) => fX11_keeps_l11 v.2 v.1)) (KE := KE) (G := fun v => wM p l e (wR 2) s m args below meth c 0 0 (wE below args s D dA b0 ad S0 F) 2 D dA b0 ad S0 11 [some (.ref 188), some (.int v.1)] [] v.2) (fun v K hN hE hf => pX11_keeps_l11b X hr  (fun n1 nh hz => hN (n1, nh) hz) (fun z0 hz => hX0 z0 (hE _ hz)) hf)
  exact fun n v1 h hf => key n (v1, h) hf
set_option maxRecDepth 4000 in
theorem pX11_keeps_b0 (X : wCx p s m args meth c RX11 cX11_keeps 2 D dA b0 ad) (hr : meth.sig.returnType = none) {h : wSt} {K : wSt → Prop} (hT : ∀ (h2 : wSt), K h2 → F none h2) (hf : wok (fX11_keeps h ) K) : wM p l e (wR 2) s m args below meth c 0 0 (wE below args s D dA b0 ad S0 F) 2 D dA b0 ad S0 0 [some (.ref 188), none] [] h := by
  unfold fX11_keeps at hf
  refine w_aload_n X dX11_keeps_0 rfl rfl rfl ?_
  refine w_getI X dX11_keeps_1 rfl fl_X11_343 S0_188 rfl ?_
  refine w_bipush X dX11_keeps_4 rfl cb_16 ?_
  refine w_icmp_ne X dX11_keeps_6 rfl (t := 49) rfl (fun hc => ?_) (fun hc => ?_)
  · have hf := wok_f hf hc
    exact pX11_keeps_b49 X hr  hT hf
  · have hf := wok_t hf hc
    refine w_iconst X dX11_keeps_9 rfl ci_0 ?_
    refine w_istore_n X dX11_keeps_10 rfl rfl rfl (Nat.le_of_ble_eq_true rfl) (ls' := [some (.ref 188), some (.int 0)]) rfl ?_
    obtain ⟨ye26, hye26, hf⟩ := wok_b hf
    refine pX11_keeps_l11 X hr  (KE := fun z => ye26 = z) ?_ 3000 _ _ ⟨ye26, hye26, rfl⟩
    · intro yz27 hz
      subst hz
      refine w_aload_n X dX11_keeps_39 rfl rfl rfl ?_
      refine w_dup X dX11_keeps_40 rfl rfl ?_
      refine w_getI X dX11_keeps_41 rfl fl_X11_343 S0_188 rfl ?_
      refine w_iconst X dX11_keeps_44 rfl ci_1 ?_
      refine w_isub X dX11_keeps_45 rfl ?_
      refine w_putI X dX11_keeps_46 rfl fp_X11_343 S0_188 rfl ?_
      refine w_nmh (fun yh28 eyh28 => ?_)
      have hf := wok_l hf eyh28
      exact pX11_keeps_b49 X hr  hT hf
set_option maxRecDepth 4000 in
theorem kX11_keeps (l : Launch) {h : wSt} {res : wSt} (hf : fX11_keeps h  = some res) : wC l yX11_keeps cX11_keeps 2 none 2 S0 [.ref 188] h (wFV (fun b => res = b)) := by
  refine w_meth2 1 (by decide) (Nat.le_of_ble_eq_true rfl) (ls := [some (.ref 188), none]) rfl ?_
  intro p e s m args below meth c D dA b0 ad X hr
  exact pX11_keeps_b0 X hr  (K := fun z => res = z) (fun h2 hz => ⟨rfl, hz⟩) ⟨res, hf, rfl⟩
set_option maxRecDepth 4000 in
theorem pX11_write_b0 (X : wCx p s m args meth c RX11 cX11_write 4 D dA b0 ad) (hr : meth.sig.returnType = (some .boolean)) {h : wSt} {x0 : Int32} {x1 : Int32} {x2 : Int32} {K : Bool × wSt → Prop} (hT : ∀ (x : Bool) (h2 : wSt), K (x, h2) → F (some (.int (wb x))) h2) (hf : wok (fX11_write h x0 x1 x2) K) : wM p l e (wR 3) s m args below meth c 0 0 (wE below args s D dA b0 ad S0 F) 4 D dA b0 ad S0 0 [some (.ref 188), some (.int x0), some (.int x1), some (.int x2)] [] h := by
  unfold fX11_write at hf
  refine w_aload_n X dX11_write_0 rfl rfl rfl ?_
  refine w_iconst X dX11_write_1 rfl ci_0 ?_
  refine w_putI X dX11_write_2 rfl fp_X11_144 S0_188 rfl ?_
  refine w_nmh (fun yh21 eyh21 => ?_)
  have hf := wok_l hf eyh21
  refine w_aload_n X dX11_write_5 rfl rfl rfl ?_
  refine w_iload_n X dX11_write_6 rfl rfl rfl ?_
  obtain ⟨yr22, eyr22, hf⟩ := wok_b hf
  refine w_callV X dX11_write_7 rfl vl_X11_387 (kX11_isText l  eyr22) S0_188 (As := [.int x0]) (st := []) rfl rfl (Nat.le_of_ble_eq_true rfl) ⟨Nat.le_of_ble_eq_true rfl, Nat.le_of_ble_eq_true rfl⟩ ⟨Nat.zero_le _, Nat.zero_le _⟩ (fun r h2 hF => ?_)
  obtain ⟨_, rfl, rfl, rfl⟩ := hF
  show wM p l e (wR 3) s m args below meth c 0 0 (wE below args s D dA b0 ad S0 F) 4 D dA b0 ad S0 10 [some (.ref 188), some (.int x0), some (.int x1), some (.int x2)] [.int (wb yr22)] yh21
  refine w_if_eq X dX11_write_10 rfl (t := 32) rfl (fun hc => ?_) (fun hc => ?_)
  · have hf := wok_f hf (wb_0 hc)
    refine w_iconst X dX11_write_32 rfl ci_0 ?_
    exact w_zret X dX11_write_33 hr rfl (hT false _ (wok_s hf))
  · have hf := wok_t hf (wb_n0 hc)
    refine w_aload_n X dX11_write_13 rfl rfl rfl ?_
    refine w_iload_n X dX11_write_14 rfl rfl rfl ?_
    refine w_iload_n X dX11_write_15 rfl rfl rfl ?_
    obtain ⟨yr23, eyr23, hf⟩ := wok_b hf
    refine w_callV X dX11_write_16 rfl vl_X11_396 (kX11_isLine l  eyr23) S0_188 (As := [.int x1, .int x2]) (st := []) rfl rfl (Nat.le_of_ble_eq_true rfl) ⟨Nat.le_of_ble_eq_true rfl, Nat.le_of_ble_eq_true rfl⟩ ⟨Nat.zero_le _, Nat.zero_le _⟩ (fun r h2 hF => ?_)
    obtain ⟨_, rfl, rfl, rfl⟩ := hF
    show wM p l e (wR 3) s m args below meth c 0 0 (wE below args s D dA b0 ad S0 F) 4 D dA b0 ad S0 19 [some (.ref 188), some (.int x0), some (.int x1), some (.int x2)] [.int (wb yr23)] yh21
    refine w_if_eq X dX11_write_19 rfl (t := 32) rfl (fun hc => ?_) (fun hc => ?_)
    · have hf := wok_f hf (wb_0 hc)
      refine w_iconst X dX11_write_32 rfl ci_0 ?_
      exact w_zret X dX11_write_33 hr rfl (hT false _ (wok_s hf))
    · have hf := wok_t hf (wb_n0 hc)
      refine w_aload_n X dX11_write_22 rfl rfl rfl ?_
      refine w_iload_n X dX11_write_23 rfl rfl rfl ?_
      refine w_iload_n X dX11_write_24 rfl rfl rfl ?_
      refine w_iload_n X dX11_write_25 rfl rfl rfl ?_
      obtain ⟨yr24, eyr24, hf⟩ := wok_b hf
      refine w_callV X dX11_write_26 rfl vl_X11_378 (kX11_canWrite l  eyr24) S0_188 (As := [.int x0, .int x1, .int x2]) (st := []) rfl rfl (Nat.le_of_ble_eq_true rfl) ⟨Nat.le_of_ble_eq_true rfl, Nat.le_of_ble_eq_true rfl⟩ ⟨Nat.zero_le _, Nat.zero_le _⟩ (fun r h2 hF => ?_)
      obtain ⟨_, rfl, rfl, rfl⟩ := hF
      show wM p l e (wR 3) s m args below meth c 0 0 (wE below args s D dA b0 ad S0 F) 4 D dA b0 ad S0 29 [some (.ref 188), some (.int x0), some (.int x1), some (.int x2)] [.int (wb yr24)] yh21
      refine w_if_ne X dX11_write_29 rfl (t := 34) rfl (fun hc => ?_) (fun hc => ?_)
      · have hf := wok_t hf (wb_n0 hc)
        refine w_aload_n X dX11_write_34 rfl rfl rfl ?_
        obtain ⟨yr25, eyr25, hf⟩ := wok_b hf
        refine w_callV X dX11_write_35 rfl vl_X11_409 (kX11_keeps l  eyr25) S0_188 (As := []) (st := []) rfl rfl (Nat.le_of_ble_eq_true rfl) ⟨Nat.le_of_ble_eq_true rfl, Nat.le_of_ble_eq_true rfl⟩ ⟨Nat.zero_le _, Nat.zero_le _⟩ (fun r h2 hF => ?_)
        obtain ⟨rfl, rfl⟩ := hF
        show wM p l e (wR 3) s m args below meth c 0 0 (wE below args s D dA b0 ad S0 F) 4 D dA b0 ad S0 38 [some (.ref 188), some (.int x0), some (.int x1), some (.int x2)] [] yr25
        refine w_aload_n X dX11_write_38 rfl rfl rfl ?_
        refine w_iload_n X dX11_write_39 rfl rfl rfl ?_
        refine w_iload_n X dX11_write_40 rfl rfl rfl ?_
        refine w_iload_n X dX11_write_41 rfl rfl rfl ?_
        obtain ⟨yr26, eyr26, hf⟩ := wok_b hf
        refine w_callV X dX11_write_42 rfl vl_X11_412 (kX11_writes l  eyr26) S0_188 (As := [.int x0, .int x1, .int x2]) (st := []) rfl rfl (Nat.le_of_ble_eq_true rfl) ⟨Nat.le_of_ble_eq_true rfl, Nat.le_of_ble_eq_true rfl⟩ ⟨Nat.zero_le _, Nat.zero_le _⟩ (fun r h2 hF => ?_)
        obtain ⟨rfl, rfl⟩ := hF
        show wM p l e (wR 3) s m args below meth c 0 0 (wE below args s D dA b0 ad S0 F) 4 D dA b0 ad S0 45 [some (.ref 188), some (.int x0), some (.int x1), some (.int x2)] [] yr26
        refine w_iconst X dX11_write_45 rfl ci_1 ?_
        exact w_zret X dX11_write_46 hr rfl (hT true _ (wok_s hf))
      · have hf := wok_f hf (wb_0 hc)
        refine w_iconst X dX11_write_32 rfl ci_0 ?_
        exact w_zret X dX11_write_33 hr rfl (hT false _ (wok_s hf))
set_option maxRecDepth 4000 in
theorem kX11_write (l : Launch) {h : wSt} {x0 : Int32} {x1 : Int32} {x2 : Int32} {res : Bool × wSt} (hf : fX11_write h x0 x1 x2 = some res) : wC l yX11_write cX11_write 4 (some .boolean) 3 S0 [.ref 188, .int x0, .int x1, .int x2] h (wFZ (fun a b => res.1 = a ∧ res.2 = b)) := by
  refine w_meth2 0 (by decide) (Nat.le_of_ble_eq_true rfl) (ls := [some (.ref 188), some (.int x0), some (.int x1), some (.int x2)]) rfl ?_
  intro p e s m args below meth c D dA b0 ad X hr
  exact pX11_write_b0 X hr  (K := fun z => res = z) (fun x h2 hz => ⟨x, rfl, by rw [hz], by rw [hz]⟩) ⟨res, hf, rfl⟩
set_option maxRecDepth 4000 in
theorem pX11_scrapesNow_b0 (X : wCx p s m args meth c RX11 cX11_scrapesNow 3 D dA b0 ad) (hr : meth.sig.returnType = (some .int)) {h : wSt} {x0 : Int32} {x1 : Int32} {K : Int32 × wSt → Prop} (hT : ∀ (x : Int32) (h2 : wSt), K (x, h2) → F (some (.int x)) h2) (hf : wok (fX11_scrapesNow h x0 x1) K) : wM p l e (wR 3) s m args below meth c 0 0 (wE below args s D dA b0 ad S0 F) 3 D dA b0 ad S0 0 [some (.ref 188), some (.int x0), some (.int x1)] [] h := by
  unfold fX11_scrapesNow at hf
  refine w_aload_n X dX11_scrapesNow_0 rfl rfl rfl ?_
  refine w_iload_n X dX11_scrapesNow_1 rfl rfl rfl ?_
  obtain ⟨yr21, eyr21, hf⟩ := wok_b hf
  refine w_callV X dX11_scrapesNow_2 rfl vl_X11_353 (kX11_isSkin l  eyr21) S0_188 (As := [.int x0]) (st := []) rfl rfl (Nat.le_of_ble_eq_true rfl) ⟨Nat.le_of_ble_eq_true rfl, Nat.le_of_ble_eq_true rfl⟩ ⟨Nat.zero_le _, Nat.zero_le _⟩ (fun r h2 hF => ?_)
  obtain ⟨_, rfl, rfl, rfl⟩ := hF
  show wM p l e (wR 3) s m args below meth c 0 0 (wE below args s D dA b0 ad S0 F) 3 D dA b0 ad S0 5 [some (.ref 188), some (.int x0), some (.int x1)] [.int (wb yr21)] h
  refine w_if_eq X dX11_scrapesNow_5 rfl (t := 17) rfl (fun hc => ?_) (fun hc => ?_)
  · have hf := wok_f hf (wb_0 hc)
    refine w_iconst X dX11_scrapesNow_17 rfl ci_m1 ?_
    exact w_iret X dX11_scrapesNow_18 hr (hT _ _ (wok_s hf))
  · have hf := wok_t hf (wb_n0 hc)
    refine w_aload_n X dX11_scrapesNow_8 rfl rfl rfl ?_
    refine w_iload_n X dX11_scrapesNow_9 rfl rfl rfl ?_
    refine w_iload_n X dX11_scrapesNow_10 rfl rfl rfl ?_
    obtain ⟨yr22, eyr22, hf⟩ := wok_b hf
    refine w_callV X dX11_scrapesNow_11 rfl vl_X11_374 (kX11_scrapedBy l  eyr22) S0_188 (As := [.int x0, .int x1]) (st := []) rfl rfl (Nat.le_of_ble_eq_true rfl) ⟨Nat.le_of_ble_eq_true rfl, Nat.le_of_ble_eq_true rfl⟩ ⟨Nat.zero_le _, Nat.zero_le _⟩ (fun r h2 hF => ?_)
    obtain ⟨_, rfl, rfl, rfl⟩ := hF
    show wM p l e (wR 3) s m args below meth c 0 0 (wE below args s D dA b0 ad S0 F) 3 D dA b0 ad S0 14 [some (.ref 188), some (.int x0), some (.int x1)] [.int yr22] h
    refine w_if_ne X dX11_scrapesNow_14 rfl (t := 19) rfl (fun hc => ?_) (fun hc => ?_)
    · have hf := wok_f hf hc
      refine w_aload_n X dX11_scrapesNow_19 rfl rfl rfl ?_
      obtain ⟨yr23, eyr23, hf⟩ := wok_b hf
      refine w_callV X dX11_scrapesNow_20 rfl vl_X11_409 (kX11_keeps l  eyr23) S0_188 (As := []) (st := []) rfl rfl (Nat.le_of_ble_eq_true rfl) ⟨Nat.le_of_ble_eq_true rfl, Nat.le_of_ble_eq_true rfl⟩ ⟨Nat.zero_le _, Nat.zero_le _⟩ (fun r h2 hF => ?_)
      obtain ⟨rfl, rfl⟩ := hF
      show wM p l e (wR 3) s m args below meth c 0 0 (wE below args s D dA b0 ad S0 F) 3 D dA b0 ad S0 23 [some (.ref 188), some (.int x0), some (.int x1)] [] yr23
      refine w_aload_n X dX11_scrapesNow_23 rfl rfl rfl ?_
      refine w_iload_n X dX11_scrapesNow_24 rfl rfl rfl ?_
      refine w_iload_n X dX11_scrapesNow_25 rfl rfl rfl ?_
      obtain ⟨yr24, eyr24, hf⟩ := wok_b hf
      refine w_callV X dX11_scrapesNow_26 rfl vl_X11_416 (kX11_scrapes l  eyr24) S0_188 (As := [.int x0, .int x1]) (st := []) rfl rfl (Nat.le_of_ble_eq_true rfl) ⟨Nat.le_of_ble_eq_true rfl, Nat.le_of_ble_eq_true rfl⟩ ⟨Nat.zero_le _, Nat.zero_le _⟩ (fun r h2 hF => ?_)
      obtain ⟨rfl, rfl⟩ := hF
      show wM p l e (wR 3) s m args below meth c 0 0 (wE below args s D dA b0 ad S0 F) 3 D dA b0 ad S0 29 [some (.ref 188), some (.int x0), some (.int x1)] [] yr24
      refine w_aload_n X dX11_scrapesNow_29 rfl rfl rfl ?_
      refine w_getR X dX11_scrapesNow_30 rfl fl_X11_120 S0_188 rfl ?_
      refine w_iconst X dX11_scrapesNow_33 rfl ci_1 ?_
      refine w_iload_n X dX11_scrapesNow_34 rfl rfl rfl ?_
      refine w_iadd X dX11_scrapesNow_35 rfl ?_
      obtain ⟨yhg25, hf⟩ := wok_g hf
      refine w_iald X dX11_scrapesNow_36 rfl (j := (1 + x0).toNatClampNeg) rfl S0_225 yhg25 ?_
      exact w_iret X dX11_scrapesNow_37 hr (hT _ _ (wok_s hf))
    · have hf := wok_t hf hc
      refine w_iconst X dX11_scrapesNow_17 rfl ci_m1 ?_
      exact w_iret X dX11_scrapesNow_18 hr (hT _ _ (wok_s hf))
set_option maxRecDepth 4000 in
theorem kX11_scrapesNow (l : Launch) {h : wSt} {x0 : Int32} {x1 : Int32} {res : Int32 × wSt} (hf : fX11_scrapesNow h x0 x1 = some res) : wC l yX11_scrapesNow cX11_scrapesNow 3 (some .int) 3 S0 [.ref 188, .int x0, .int x1] h (wFI (fun a b => res.1 = a ∧ res.2 = b)) := by
  refine w_meth2 0 (by decide) (Nat.le_of_ble_eq_true rfl) (ls := [some (.ref 188), some (.int x0), some (.int x1)]) rfl ?_
  intro p e s m args below meth c D dA b0 ad X hr
  exact pX11_scrapesNow_b0 X hr  (K := fun z => res = z) (fun x h2 hz => ⟨x, rfl, by rw [hz], by rw [hz]⟩) ⟨res, hf, rfl⟩
set_option maxRecDepth 4000 in
theorem pX11_scrape_b0 (X : wCx p s m args meth c RX11 cX11_scrape 2 D dA b0 ad) (hr : meth.sig.returnType = (some .int)) {h : wSt} {x0 : Int32} {K : Int32 × wSt → Prop} (hT : ∀ (x : Int32) (h2 : wSt), K (x, h2) → F (some (.int x)) h2) (hf : wok (fX11_scrape h x0) K) : wM p l e (wR 4) s m args below meth c 0 0 (wE below args s D dA b0 ad S0 F) 2 D dA b0 ad S0 0 [some (.ref 188), some (.int x0)] [] h := by
  unfold fX11_scrape at hf
  refine w_aload_n X dX11_scrape_0 rfl rfl rfl ?_
  refine w_iconst X dX11_scrape_1 rfl ci_0 ?_
  refine w_putI X dX11_scrape_2 rfl fp_X11_144 S0_188 rfl ?_
  refine w_nmh (fun yh21 eyh21 => ?_)
  have hf := wok_l hf eyh21
  refine w_aload_n X dX11_scrape_5 rfl rfl rfl ?_
  refine w_iload_n X dX11_scrape_6 rfl rfl rfl ?_
  refine w_bipush X dX11_scrape_7 rfl cb_63 ?_
  obtain ⟨yr22, eyr22, hf⟩ := wok_b hf
  refine w_callV X dX11_scrape_9 rfl vl_X11_419 (kX11_scrapesNow l  eyr22) S0_188 (As := [.int x0, .int 63]) (st := []) rfl rfl (Nat.le_of_ble_eq_true rfl) ⟨Nat.le_of_ble_eq_true rfl, Nat.le_of_ble_eq_true rfl⟩ ⟨Nat.zero_le _, Nat.zero_le _⟩ (fun r h2 hF => ?_)
  obtain ⟨_, rfl, rfl, rfl⟩ := hF
  show wM p l e (wR 4) s m args below meth c 0 0 (wE below args s D dA b0 ad S0 F) 2 D dA b0 ad S0 12 [some (.ref 188), some (.int x0)] [.int yr22.1] yr22.2
  exact w_iret X dX11_scrape_12 hr (hT _ _ (wok_s hf))
set_option maxRecDepth 4000 in
theorem kX11_scrape (l : Launch) {h : wSt} {x0 : Int32} {res : Int32 × wSt} (hf : fX11_scrape h x0 = some res) : wC l yX11_scrape cX11_scrape 2 (some .int) 4 S0 [.ref 188, .int x0] h (wFI (fun a b => res.1 = a ∧ res.2 = b)) := by
  refine w_meth2 0 (by decide) (Nat.le_of_ble_eq_true rfl) (ls := [some (.ref 188), some (.int x0)]) rfl ?_
  intro p e s m args below meth c D dA b0 ad X hr
  exact pX11_scrape_b0 X hr  (K := fun z => res = z) (fun x h2 hz => ⟨x, rfl, by rw [hz], by rw [hz]⟩) ⟨res, hf, rfl⟩
set_option maxRecDepth 4000 in
theorem pX11_third_b0 (X : wCx p s m args meth c RX11 cX11_third 2 D dA b0 ad) (hr : meth.sig.returnType = (some .int)) {h : wSt} {x0 : Int32} {K : Int32 × wSt → Prop} (hT : ∀ (x : Int32) (h2 : wSt), K (x, h2) → F (some (.int x)) h2) (hf : wok (fX11_third h x0) K) : wM p l e (wR 4) s m args below meth c 0 0 (wE below args s D dA b0 ad S0 F) 2 D dA b0 ad S0 0 [some (.ref 188), some (.int x0)] [] h := by
  unfold fX11_third at hf
  refine w_aload_n X dX11_third_0 rfl rfl rfl ?_
  refine w_iconst X dX11_third_1 rfl ci_0 ?_
  refine w_putI X dX11_third_2 rfl fp_X11_144 S0_188 rfl ?_
  refine w_nmh (fun yh21 eyh21 => ?_)
  have hf := wok_l hf eyh21
  refine w_aload_n X dX11_third_5 rfl rfl rfl ?_
  refine w_iload_n X dX11_third_6 rfl rfl rfl ?_
  refine w_bipush X dX11_third_7 rfl cb_9 ?_
  obtain ⟨yr22, eyr22, hf⟩ := wok_b hf
  refine w_callV X dX11_third_9 rfl vl_X11_419 (kX11_scrapesNow l  eyr22) S0_188 (As := [.int x0, .int 9]) (st := []) rfl rfl (Nat.le_of_ble_eq_true rfl) ⟨Nat.le_of_ble_eq_true rfl, Nat.le_of_ble_eq_true rfl⟩ ⟨Nat.zero_le _, Nat.zero_le _⟩ (fun r h2 hF => ?_)
  obtain ⟨_, rfl, rfl, rfl⟩ := hF
  show wM p l e (wR 4) s m args below meth c 0 0 (wE below args s D dA b0 ad S0 F) 2 D dA b0 ad S0 12 [some (.ref 188), some (.int x0)] [.int yr22.1] yr22.2
  exact w_iret X dX11_third_12 hr (hT _ _ (wok_s hf))
set_option maxRecDepth 4000 in
theorem kX11_third (l : Launch) {h : wSt} {x0 : Int32} {res : Int32 × wSt} (hf : fX11_third h x0 = some res) : wC l yX11_third cX11_third 2 (some .int) 4 S0 [.ref 188, .int x0] h (wFI (fun a b => res.1 = a ∧ res.2 = b)) := by
  refine w_meth2 0 (by decide) (Nat.le_of_ble_eq_true rfl) (ls := [some (.ref 188), some (.int x0)]) rfl ?_
  intro p e s m args below meth c D dA b0 ad X hr
  exact pX11_third_b0 X hr  (K := fun z => res = z) (fun x h2 hz => ⟨x, rfl, by rw [hz], by rw [hz]⟩) ⟨res, hf, rfl⟩
set_option maxRecDepth 4000 in
theorem pX11_week_b0 (X : wCx p s m args meth c RX11 cX11_week 1 D dA b0 ad) (hr : meth.sig.returnType = (some .int)) {h : wSt} {K : Int32 × wSt → Prop} (hT : ∀ (x : Int32) (h2 : wSt), K (x, h2) → F (some (.int x)) h2) (hf : wok (fX11_week h ) K) : wM p l e (wR 3) s m args below meth c 0 0 (wE below args s D dA b0 ad S0 F) 1 D dA b0 ad S0 0 [some (.ref 188)] [] h := by
  unfold fX11_week at hf
  refine w_aload_n X dX11_week_0 rfl rfl rfl ?_
  refine w_iconst X dX11_week_1 rfl ci_0 ?_
  refine w_putI X dX11_week_2 rfl fp_X11_144 S0_188 rfl ?_
  refine w_nmh (fun yh21 eyh21 => ?_)
  have hf := wok_l hf eyh21
  refine w_aload_n X dX11_week_5 rfl rfl rfl ?_
  obtain ⟨yr22, eyr22, hf⟩ := wok_b hf
  refine w_callV X dX11_week_6 rfl vl_X11_409 (kX11_keeps l  eyr22) S0_188 (As := []) (st := []) rfl rfl (Nat.le_of_ble_eq_true rfl) ⟨Nat.le_of_ble_eq_true rfl, Nat.le_of_ble_eq_true rfl⟩ ⟨Nat.zero_le _, Nat.zero_le _⟩ (fun r h2 hF => ?_)
  obtain ⟨rfl, rfl⟩ := hF
  show wM p l e (wR 3) s m args below meth c 0 0 (wE below args s D dA b0 ad S0 F) 1 D dA b0 ad S0 9 [some (.ref 188)] [] yr22
  refine w_aload_n X dX11_week_9 rfl rfl rfl ?_
  refine w_getR X dX11_week_10 rfl fl_X11_120 S0_188 rfl ?_
  refine w_iconst X dX11_week_13 rfl ci_0 ?_
  refine w_dup2 X dX11_week_14 rfl rfl rfl ?_
  refine w_iald X dX11_week_15 rfl (j := 0) cn_0 S0_225 (show wib 0 25 by decide) ?_
  refine w_iconst X dX11_week_16 rfl ci_1 ?_
  refine w_iadd X dX11_week_17 rfl ?_
  refine w_iast X dX11_week_18 rfl (j := 0) cn_0 S0_225 (show wib 0 25 by decide) ?_
  refine w_nmh (fun yh23 eyh23 => ?_)
  have hf := wok_l hf eyh23
  refine w_aload_n X dX11_week_19 rfl rfl rfl ?_
  refine w_getR X dX11_week_20 rfl fl_X11_120 S0_188 rfl ?_
  refine w_iconst X dX11_week_23 rfl ci_0 ?_
  refine w_iald X dX11_week_24 rfl (j := 0) cn_0 S0_225 (show wib 0 25 by decide) ?_
  exact w_iret X dX11_week_25 hr (hT _ _ (wok_s hf))
set_option maxRecDepth 4000 in
theorem kX11_week (l : Launch) {h : wSt} {res : Int32 × wSt} (hf : fX11_week h  = some res) : wC l yX11_week cX11_week 1 (some .int) 3 S0 [.ref 188] h (wFI (fun a b => res.1 = a ∧ res.2 = b)) := by
  refine w_meth2 0 (by decide) (Nat.le_of_ble_eq_true rfl) (ls := [some (.ref 188)]) rfl ?_
  intro p e s m args below meth c D dA b0 ad X hr
  exact pX11_week_b0 X hr  (K := fun z => res = z) (fun x h2 hz => ⟨x, rfl, by rw [hz], by rw [hz]⟩) ⟨res, hf, rfl⟩
set_option maxRecDepth 4000 in
theorem pX11_undo_b0 (X : wCx p s m args meth c RX11 cX11_undo 1 D dA b0 ad) (hr : meth.sig.returnType = (some .boolean)) {h : wSt} {K : Bool × wSt → Prop} (hT : ∀ (x : Bool) (h2 : wSt), K (x, h2) → F (some (.int (wb x))) h2) (hf : wok (fX11_undo h ) K) : wM p l e (wR 2) s m args below meth c 0 0 (wE below args s D dA b0 ad S0 F) 1 D dA b0 ad S0 0 [some (.ref 188)] [] h := by
  unfold fX11_undo at hf
  refine w_aload_n X dX11_undo_0 rfl rfl rfl ?_
  refine w_iconst X dX11_undo_1 rfl ci_0 ?_
  refine w_putI X dX11_undo_2 rfl fp_X11_144 S0_188 rfl ?_
  refine w_nmh (fun yh21 eyh21 => ?_)
  have hf := wok_l hf eyh21
  refine w_aload_n X dX11_undo_5 rfl rfl rfl ?_
  refine w_getI X dX11_undo_6 rfl fl_X11_343 S0_188 rfl ?_
  refine w_if_ne X dX11_undo_9 rfl (t := 14) rfl (fun hc => ?_) (fun hc => ?_)
  · have hf := wok_f hf hc
    refine w_aload_n X dX11_undo_14 rfl rfl rfl ?_
    refine w_dup X dX11_undo_15 rfl rfl ?_
    refine w_getI X dX11_undo_16 rfl fl_X11_343 S0_188 rfl ?_
    refine w_iconst X dX11_undo_19 rfl ci_1 ?_
    refine w_isub X dX11_undo_20 rfl ?_
    refine w_putI X dX11_undo_21 rfl fp_X11_343 S0_188 rfl ?_
    refine w_nmh (fun yh22 eyh22 => ?_)
    have hf := wok_l hf eyh22
    refine w_aload_n X dX11_undo_24 rfl rfl rfl ?_
    refine w_getR X dX11_undo_25 rfl fl_X11_132 S0_188 rfl ?_
    refine w_bipush X dX11_undo_28 rfl cb_25 ?_
    refine w_aload_n X dX11_undo_30 rfl rfl rfl ?_
    refine w_getI X dX11_undo_31 rfl fl_X11_343 S0_188 rfl ?_
    refine w_imul X dX11_undo_34 rfl ?_
    refine w_aload_n X dX11_undo_35 rfl rfl rfl ?_
    refine w_getR X dX11_undo_36 rfl fl_X11_120 S0_188 rfl ?_
    refine w_iconst X dX11_undo_39 rfl ci_0 ?_
    obtain ⟨yr23, eyr23, hf⟩ := wok_b hf
    refine w_callS X dX11_undo_40 rfl sl_X11_405 (kX11_copies l S0_229 S0_225 eyr23) (As := [.ref 229, .int (25 * (yh22.1 188 54)), .ref 225, .int 0]) (st := []) rfl rfl (Nat.le_of_ble_eq_true rfl) ⟨Nat.le_of_ble_eq_true rfl, Nat.le_of_ble_eq_true rfl⟩ ⟨Nat.zero_le _, Nat.zero_le _⟩ (fun r h2 hF => ?_)
    obtain ⟨rfl, rfl⟩ := hF
    show wM p l e (wR 2) s m args below meth c 0 0 (wE below args s D dA b0 ad S0 F) 1 D dA b0 ad S0 43 [some (.ref 188)] [] yr23
    refine w_iconst X dX11_undo_43 rfl ci_1 ?_
    exact w_zret X dX11_undo_44 hr rfl (hT true _ (wok_s hf))
  · have hf := wok_t hf hc
    refine w_iconst X dX11_undo_12 rfl ci_0 ?_
    exact w_zret X dX11_undo_13 hr rfl (hT false _ (wok_s hf))
set_option maxRecDepth 4000 in
theorem kX11_undo (l : Launch) {h : wSt} {res : Bool × wSt} (hf : fX11_undo h  = some res) : wC l yX11_undo cX11_undo 1 (some .boolean) 2 S0 [.ref 188] h (wFZ (fun a b => res.1 = a ∧ res.2 = b)) := by
  refine w_meth2 0 (by decide) (Nat.le_of_ble_eq_true rfl) (ls := [some (.ref 188)]) rfl ?_
  intro p e s m args below meth c D dA b0 ad X hr
  exact pX11_undo_b0 X hr  (K := fun z => res = z) (fun x h2 hz => ⟨x, rfl, by rw [hz], by rw [hz]⟩) ⟨res, hf, rfl⟩
set_option maxRecDepth 4000 in
theorem pX11_goes_b98 (X : wCx p s m args meth c RX11 cX11_goes 4 D dA b0 ad) (hr : meth.sig.returnType = (some .boolean)) {h : wSt} {v2 : Int32} {w0 : Int32} {K : Bool × wSt → Prop} (hT : ∀ (x : Bool) (h2 : wSt), K (x, h2) → F (some (.int (wb x))) h2)  (hf : wok (fX11_goes_b98 h v2 w0) K) : wM p l e (wR 3) s m args below meth c 0 0 (wE below args s D dA b0 ad S0 F) 4 D dA b0 ad S0 98 [some (.ref 188), none, some (.int v2), none] [.int w0] h := by
  unfold fX11_goes_b98 at hf
  refine w_istore_n X dX11_goes_98 rfl rfl rfl (Nat.le_of_ble_eq_true rfl) (ls' := [some (.ref 188), none, some (.int v2), some (.int w0)]) rfl ?_
  refine w_aload_n X dX11_goes_99 rfl rfl rfl ?_
  refine w_iload_n X dX11_goes_100 rfl rfl rfl ?_
  refine w_iload_n X dX11_goes_101 rfl rfl rfl ?_
  obtain ⟨yr22, eyr22, hf⟩ := wok_b hf
  refine w_callV X dX11_goes_102 rfl vl_X11_374 (kX11_scrapedBy l  eyr22) S0_188 (As := [.int v2, .int w0]) (st := []) rfl rfl (Nat.le_of_ble_eq_true rfl) ⟨Nat.le_of_ble_eq_true rfl, Nat.le_of_ble_eq_true rfl⟩ ⟨Nat.zero_le _, Nat.zero_le _⟩ (fun r h2 hF => ?_)
  obtain ⟨_, rfl, rfl, rfl⟩ := hF
  show wM p l e (wR 3) s m args below meth c 0 0 (wE below args s D dA b0 ad S0 F) 4 D dA b0 ad S0 105 [some (.ref 188), none, some (.int v2), some (.int w0)] [.int yr22] h
  refine w_if_ne X dX11_goes_105 rfl (t := 110) rfl (fun hc => ?_) (fun hc => ?_)
  · have hf := wok_f hf hc
    refine w_aload_n X dX11_goes_110 rfl rfl rfl ?_
    refine w_iload_n X dX11_goes_111 rfl rfl rfl ?_
    refine w_iload_n X dX11_goes_112 rfl rfl rfl ?_
    obtain ⟨yr23, eyr23, hf⟩ := wok_b hf
    refine w_callV X dX11_goes_113 rfl vl_X11_416 (kX11_scrapes l  eyr23) S0_188 (As := [.int v2, .int w0]) (st := []) rfl rfl (Nat.le_of_ble_eq_true rfl) ⟨Nat.le_of_ble_eq_true rfl, Nat.le_of_ble_eq_true rfl⟩ ⟨Nat.zero_le _, Nat.zero_le _⟩ (fun r h2 hF => ?_)
    obtain ⟨rfl, rfl⟩ := hF
    show wM p l e (wR 3) s m args below meth c 0 0 (wE below args s D dA b0 ad S0 F) 4 D dA b0 ad S0 116 [some (.ref 188), none, some (.int v2), some (.int w0)] [] yr23
    refine w_iconst X dX11_goes_116 rfl ci_1 ?_
    exact w_zret X dX11_goes_117 hr rfl (hT true _ (wok_s hf))
  · have hf := wok_t hf hc
    refine w_iconst X dX11_goes_108 rfl ci_0 ?_
    exact w_zret X dX11_goes_109 hr rfl (hT false _ (wok_s hf))
set_option maxRecDepth 4000 in
theorem pX11_goes_b0 (X : wCx p s m args meth c RX11 cX11_goes 4 D dA b0 ad) (hr : meth.sig.returnType = (some .boolean)) {h : wSt} {x0 : Int32} {K : Bool × wSt → Prop} (hT : ∀ (x : Bool) (h2 : wSt), K (x, h2) → F (some (.int (wb x))) h2) (hf : wok (fX11_goes h x0) K) : wM p l e (wR 3) s m args below meth c 0 0 (wE below args s D dA b0 ad S0 F) 4 D dA b0 ad S0 0 [some (.ref 188), some (.int x0), none, none] [] h := by
  unfold fX11_goes at hf
  refine w_aload_n X dX11_goes_0 rfl rfl rfl ?_
  refine w_getR X dX11_goes_1 rfl fl_X11_99 S0_188 rfl ?_
  refine w_iload_n X dX11_goes_4 rfl rfl rfl ?_
  obtain ⟨yhg21, hf⟩ := wok_g hf
  refine w_iald X dX11_goes_5 rfl (j := x0.toNatClampNeg) rfl S0_218 yhg21 ?_
  refine w_istore_n X dX11_goes_6 rfl rfl rfl (Nat.le_of_ble_eq_true rfl) (ls' := [some (.ref 188), some (.int x0), some (.int (h.1 218 x0.toNatClampNeg)), none]) rfl ?_
  refine w_aload_n X dX11_goes_7 rfl rfl rfl ?_
  refine w_getR X dX11_goes_8 rfl fl_X11_93 S0_188 rfl ?_
  refine w_iload_n X dX11_goes_11 rfl rfl rfl ?_
  refine w_iald X dX11_goes_12 rfl (j := x0.toNatClampNeg) rfl S0_216 yhg21 ?_
  refine w_iconst X dX11_goes_13 rfl ci_3 ?_
  refine w_icmp_ne X dX11_goes_14 rfl (t := 30) rfl (fun hc => ?_) (fun hc => ?_)
  · have hf := wok_f hf hc
    refine w_aload_n X dX11_goes_30 rfl rfl rfl ?_
    refine w_getR X dX11_goes_31 rfl fl_X11_93 S0_188 rfl ?_
    refine w_iload_n X dX11_goes_34 rfl rfl rfl ?_
    refine w_iald X dX11_goes_35 rfl (j := x0.toNatClampNeg) rfl S0_216 yhg21 ?_
    refine w_if_ne X dX11_goes_36 rfl (t := 81) rfl (fun hc => ?_) (fun hc => ?_)
    · have hf := wok_f hf hc
      refine w_aload_n X dX11_goes_81 rfl rfl rfl ?_
      refine w_getR X dX11_goes_82 rfl fl_X11_93 S0_188 rfl ?_
      refine w_iload_n X dX11_goes_85 rfl rfl rfl ?_
      refine w_iald X dX11_goes_86 rfl (j := x0.toNatClampNeg) rfl S0_216 yhg21 ?_
      refine w_iconst X dX11_goes_87 rfl ci_1 ?_
      refine w_icmp_ne X dX11_goes_88 rfl (t := 96) rfl (fun hc => ?_) (fun hc => ?_)
      · have hf := wok_f hf hc
        refine w_bipush X dX11_goes_96 rfl cb_9 ?_
        refine w_fg (ls2 := [some (.ref 188), none, some (.int (h.1 218 x0.toNatClampNeg)), none]) ⟨rfl, rfl, trivial⟩ ?_
        exact pX11_goes_b98 X hr  hT hf
      · have hf := wok_t hf hc
        refine w_bipush X dX11_goes_91 rfl cb_63 ?_
        refine w_goto X dX11_goes_93 (t := 98) rfl ?_
        refine w_fg (ls2 := [some (.ref 188), none, some (.int (h.1 218 x0.toNatClampNeg)), none]) ⟨rfl, rfl, trivial⟩ ?_
        exact pX11_goes_b98 X hr  hT hf
    · have hf := wok_t hf hc
      refine w_aload_n X dX11_goes_39 rfl rfl rfl ?_
      refine w_aload_n X dX11_goes_40 rfl rfl rfl ?_
      refine w_getR X dX11_goes_41 rfl fl_X11_96 S0_188 rfl ?_
      refine w_iload_n X dX11_goes_44 rfl rfl rfl ?_
      refine w_iald X dX11_goes_45 rfl (j := x0.toNatClampNeg) rfl S0_217 yhg21 ?_
      refine w_iload_n X dX11_goes_46 rfl rfl rfl ?_
      refine w_aload_n X dX11_goes_47 rfl rfl rfl ?_
      refine w_getR X dX11_goes_48 rfl fl_X11_102 S0_188 rfl ?_
      refine w_iload_n X dX11_goes_51 rfl rfl rfl ?_
      refine w_iald X dX11_goes_52 rfl (j := x0.toNatClampNeg) rfl S0_219 yhg21 ?_
      obtain ⟨yr24, eyr24, hf⟩ := wok_b hf
      refine w_callV X dX11_goes_53 rfl vl_X11_378 (kX11_canWrite l  eyr24) S0_188 (As := [.int (h.1 217 x0.toNatClampNeg), .int (h.1 218 x0.toNatClampNeg), .int (h.1 219 x0.toNatClampNeg)]) (st := []) rfl rfl (Nat.le_of_ble_eq_true rfl) ⟨Nat.le_of_ble_eq_true rfl, Nat.le_of_ble_eq_true rfl⟩ ⟨Nat.zero_le _, Nat.zero_le _⟩ (fun r h2 hF => ?_)
      obtain ⟨_, rfl, rfl, rfl⟩ := hF
      show wM p l e (wR 3) s m args below meth c 0 0 (wE below args s D dA b0 ad S0 F) 4 D dA b0 ad S0 56 [some (.ref 188), some (.int x0), some (.int (h.1 218 x0.toNatClampNeg)), none] [.int (wb yr24)] h
      refine w_if_ne X dX11_goes_56 rfl (t := 61) rfl (fun hc => ?_) (fun hc => ?_)
      · have hf := wok_t hf (wb_n0 hc)
        refine w_aload_n X dX11_goes_61 rfl rfl rfl ?_
        refine w_aload_n X dX11_goes_62 rfl rfl rfl ?_
        refine w_getR X dX11_goes_63 rfl fl_X11_96 S0_188 rfl ?_
        refine w_iload_n X dX11_goes_66 rfl rfl rfl ?_
        refine w_iald X dX11_goes_67 rfl (j := x0.toNatClampNeg) rfl S0_217 yhg21 ?_
        refine w_iload_n X dX11_goes_68 rfl rfl rfl ?_
        refine w_aload_n X dX11_goes_69 rfl rfl rfl ?_
        refine w_getR X dX11_goes_70 rfl fl_X11_102 S0_188 rfl ?_
        refine w_iload_n X dX11_goes_73 rfl rfl rfl ?_
        refine w_iald X dX11_goes_74 rfl (j := x0.toNatClampNeg) rfl S0_219 yhg21 ?_
        obtain ⟨yr25, eyr25, hf⟩ := wok_b hf
        refine w_callV X dX11_goes_75 rfl vl_X11_412 (kX11_writes l  eyr25) S0_188 (As := [.int (h.1 217 x0.toNatClampNeg), .int (h.1 218 x0.toNatClampNeg), .int (h.1 219 x0.toNatClampNeg)]) (st := []) rfl rfl (Nat.le_of_ble_eq_true rfl) ⟨Nat.le_of_ble_eq_true rfl, Nat.le_of_ble_eq_true rfl⟩ ⟨Nat.zero_le _, Nat.zero_le _⟩ (fun r h2 hF => ?_)
        obtain ⟨rfl, rfl⟩ := hF
        show wM p l e (wR 3) s m args below meth c 0 0 (wE below args s D dA b0 ad S0 F) 4 D dA b0 ad S0 78 [some (.ref 188), some (.int x0), some (.int (h.1 218 x0.toNatClampNeg)), none] [] yr25
        refine w_goto X dX11_goes_78 (t := 116) rfl ?_
        refine w_iconst X dX11_goes_116 rfl ci_1 ?_
        exact w_zret X dX11_goes_117 hr rfl (hT true _ (wok_s hf))
      · have hf := wok_f hf (wb_0 hc)
        refine w_iconst X dX11_goes_59 rfl ci_0 ?_
        exact w_zret X dX11_goes_60 hr rfl (hT false _ (wok_s hf))
  · have hf := wok_t hf hc
    refine w_aload_n X dX11_goes_17 rfl rfl rfl ?_
    refine w_getR X dX11_goes_18 rfl fl_X11_120 S0_188 rfl ?_
    refine w_iconst X dX11_goes_21 rfl ci_0 ?_
    refine w_dup2 X dX11_goes_22 rfl rfl rfl ?_
    refine w_iald X dX11_goes_23 rfl (j := 0) cn_0 S0_225 (show wib 0 25 by decide) ?_
    refine w_iconst X dX11_goes_24 rfl ci_1 ?_
    refine w_iadd X dX11_goes_25 rfl ?_
    refine w_iast X dX11_goes_26 rfl (j := 0) cn_0 S0_225 (show wib 0 25 by decide) ?_
    refine w_nmh (fun yh26 eyh26 => ?_)
    have hf := wok_l hf eyh26
    refine w_goto X dX11_goes_27 (t := 116) rfl ?_
    refine w_iconst X dX11_goes_116 rfl ci_1 ?_
    exact w_zret X dX11_goes_117 hr rfl (hT true _ (wok_s hf))
set_option maxRecDepth 4000 in
theorem kX11_goes (l : Launch) {h : wSt} {x0 : Int32} {res : Bool × wSt} (hf : fX11_goes h x0 = some res) : wC l yX11_goes cX11_goes 4 (some .boolean) 3 S0 [.ref 188, .int x0] h (wFZ (fun a b => res.1 = a ∧ res.2 = b)) := by
  refine w_meth2 2 (by decide) (Nat.le_of_ble_eq_true rfl) (ls := [some (.ref 188), some (.int x0), none, none]) rfl ?_
  intro p e s m args below meth c D dA b0 ad X hr
  exact pX11_goes_b0 X hr  (K := fun z => res = z) (fun x h2 hz => ⟨x, rfl, by rw [hz], by rw [hz]⟩) ⟨res, hf, rfl⟩
set_option maxRecDepth 4000 in
theorem pX11_gones_b33_4 (X : wCx p s m args meth c RX11 cX11_gones 3 D dA b0 ad) (hr : meth.sig.returnType = (some .int)) {h : wSt} {v2 : Int32} {w0 : Int32} {w1 : Int32} {K : (Int32 × Int32) ⊕ ((Int32)) → Prop} (hN : ∀ (n1 : Int32) (n2 : Int32), K (.inl (n1, n2)) → wM p l e (wR 1) s m args below meth c 0 0 (wE below args s D dA b0 ad S0 F) 3 D dA b0 ad S0 4 [some (.ref 188), some (.int n1), some (.int n2)] [] h) (hX0 : ∀ (n1 : Int32), K (.inr n1) → wM p l e (wR 1) s m args below meth c 0 0 (wE below args s D dA b0 ad S0 F) 3 D dA b0 ad S0 41 [none, some (.int n1), none] [] h) (hf : wok (fX11_gones_b33_4 h v2 w0 w1) K) : wM p l e (wR 1) s m args below meth c 0 0 (wE below args s D dA b0 ad S0 F) 3 D dA b0 ad S0 33 [some (.ref 188), none, some (.int v2)] [.int w1, .int w0] h := by
  unfold fX11_gones_b33_4 at hf
  refine w_ior X dX11_gones_33 rfl ?_
  refine w_istore_n X dX11_gones_34 rfl rfl rfl (Nat.le_of_ble_eq_true rfl) (ls' := [some (.ref 188), some (.int (w0 ||| w1)), some (.int v2)]) rfl ?_
  refine w_iinc X dX11_gones_35 rfl (v := (v2 + 1)) rfl rfl (Nat.le_of_ble_eq_true rfl) (cinc_1 _) (ls' := [some (.ref 188), some (.int (w0 ||| w1)), some (.int (v2 + 1))]) rfl ?_
  refine w_goto X dX11_gones_38 (t := 4) rfl ?_
  exact hN _ _ (wok_s hf)
set_option maxRecDepth 4000 in
theorem pX11_gones_l4b (X : wCx p s m args meth c RX11 cX11_gones 3 D dA b0 ad) (hr : meth.sig.returnType = (some .int)) {h : wSt} {v1 : Int32} {v2 : Int32} {K : (Int32 × Int32) ⊕ ((Int32)) → Prop} (hN : ∀ (n1 : Int32) (n2 : Int32), K (.inl (n1, n2)) → wM p l e (wR 1) s m args below meth c 0 0 (wE below args s D dA b0 ad S0 F) 3 D dA b0 ad S0 4 [some (.ref 188), some (.int n1), some (.int n2)] [] h) (hX0 : ∀ (n1 : Int32), K (.inr n1) → wM p l e (wR 1) s m args below meth c 0 0 (wE below args s D dA b0 ad S0 F) 3 D dA b0 ad S0 41 [none, some (.int n1), none] [] h) (hf : wok (fX11_gones_l4 h v1 v2) K) : wM p l e (wR 1) s m args below meth c 0 0 (wE below args s D dA b0 ad S0 F) 3 D dA b0 ad S0 4 [some (.ref 188), some (.int v1), some (.int v2)] [] h := by
  unfold fX11_gones_l4 at hf
  refine w_iload_n X dX11_gones_4 rfl rfl rfl ?_
  refine w_aload_n X dX11_gones_5 rfl rfl rfl ?_
  refine w_getR X dX11_gones_6 rfl fl_X11_13 S0_188 rfl ?_
  refine w_iconst X dX11_gones_9 rfl ci_0 ?_
  refine w_iald X dX11_gones_10 rfl (j := 0) cn_0 S0_190 (show wib 0 6 by decide) ?_
  refine w_icmp_ge X dX11_gones_11 rfl (t := 41) rfl (fun hc => ?_) (fun hc => ?_)
  · have hf := wok_t hf hc
    refine w_fg (ls2 := [none, some (.int v1), none]) ⟨rfl, trivial⟩ ?_
    exact hX0 _ (wok_s hf)
  · have hf := wok_f hf hc
    refine w_iload_n X dX11_gones_14 rfl rfl rfl ?_
    refine w_aload_n X dX11_gones_15 rfl rfl rfl ?_
    refine w_getR X dX11_gones_16 rfl fl_X11_120 S0_188 rfl ?_
    refine w_iconst X dX11_gones_19 rfl ci_1 ?_
    refine w_iload_n X dX11_gones_20 rfl rfl rfl ?_
    refine w_iadd X dX11_gones_21 rfl ?_
    obtain ⟨yhg21, hf⟩ := wok_g hf
    refine w_iald X dX11_gones_22 rfl (j := (1 + v2).toNatClampNeg) rfl S0_225 yhg21 ?_
    refine w_if_ne X dX11_gones_23 rfl (t := 32) rfl (fun hc => ?_) (fun hc => ?_)
    · have hf := wok_f hf hc
      refine w_iconst X dX11_gones_32 rfl ci_0 ?_
      refine w_fg (ls2 := [some (.ref 188), none, some (.int v2)]) ⟨rfl, rfl, trivial⟩ ?_
      exact pX11_gones_b33_4 X hr  hN hX0 hf
    · have hf := wok_t hf hc
      refine w_iconst X dX11_gones_26 rfl ci_1 ?_
      refine w_iload_n X dX11_gones_27 rfl rfl rfl ?_
      refine w_ishl X dX11_gones_28 rfl ?_
      refine w_goto X dX11_gones_29 (t := 33) rfl ?_
      refine w_fg (ls2 := [some (.ref 188), none, some (.int v2)]) ⟨rfl, rfl, trivial⟩ ?_
      exact pX11_gones_b33_4 X hr  hN hX0 hf
set_option maxRecDepth 4000 in
theorem pX11_gones_l4 (X : wCx p s m args meth c RX11 cX11_gones 3 D dA b0 ad) (hr : meth.sig.returnType = (some .int)) {h : wSt} {KE : (Int32) → Prop} (hX0 : ∀ (n1 : Int32), KE (n1) → wM p l e (wR 1) s m args below meth c 0 0 (wE below args s D dA b0 ad S0 F) 3 D dA b0 ad S0 41 [none, some (.int n1), none] [] h) : ∀ (n : Nat) (v1 : Int32) (v2 : Int32), wok (wit (fun v : (Int32 × Int32) => fX11_gones_l4 h v.1 v.2) n (v1, v2)) KE → wM p l e (wR 1) s m args below meth c 0 0 (wE below args s D dA b0 ad S0 F) 3 D dA b0 ad S0 4 [some (.ref 188), some (.int v1), some (.int v2)] [] h := by
  have key := wit_M (b := (fun v : (Int32 × Int32) => fX11_gones_l4 h v.1 v.2)) (KE := KE) (G := fun v => wM p l e (wR 1) s m args below meth c 0 0 (wE below args s D dA b0 ad S0 F) 3 D dA b0 ad S0 4 [some (.ref 188), some (.int v.1), some (.int v.2)] [] h) (fun v K hN hE hf => pX11_gones_l4b X hr  (fun n1 n2 hz => hN (n1, n2) hz) (fun z0 hz => hX0 z0 (hE _ hz)) hf)
  exact fun n v1 v2 hf => key n (v1, v2) hf
set_option maxRecDepth 4000 in
theorem pX11_gones_b0 (X : wCx p s m args meth c RX11 cX11_gones 3 D dA b0 ad) (hr : meth.sig.returnType = (some .int)) {h : wSt} {K : Int32 → Prop} (hT : ∀ (x : Int32), K x → F (some (.int x)) h) (hf : wok (fX11_gones h ) K) : wM p l e (wR 1) s m args below meth c 0 0 (wE below args s D dA b0 ad S0 F) 3 D dA b0 ad S0 0 [some (.ref 188), none, none] [] h := by
  unfold fX11_gones at hf
  refine w_iconst X dX11_gones_0 rfl ci_0 ?_
  refine w_istore_n X dX11_gones_1 rfl rfl rfl (Nat.le_of_ble_eq_true rfl) (ls' := [some (.ref 188), some (.int 0), none]) rfl ?_
  refine w_iconst X dX11_gones_2 rfl ci_0 ?_
  refine w_istore_n X dX11_gones_3 rfl rfl rfl (Nat.le_of_ble_eq_true rfl) (ls' := [some (.ref 188), some (.int 0), some (.int 0)]) rfl ?_
  obtain ⟨ye22, hye22, hf⟩ := wok_b hf
  refine pX11_gones_l4 X hr  (KE := fun z => ye22 = z) ?_ 3000 _ _ ⟨ye22, hye22, rfl⟩
  · intro yz23 hz
    subst hz
    refine w_iload_n X dX11_gones_41 rfl rfl rfl ?_
    exact w_iret X dX11_gones_42 hr (hT _ (wok_s hf))
set_option maxRecDepth 4000 in
theorem kX11_gones (l : Launch) {h : wSt} {res : Int32} (hf : fX11_gones h  = some res) : wC l yX11_gones cX11_gones 3 (some .int) 1 S0 [.ref 188] h (wFI (fun a b => res = a ∧ h = b)) := by
  refine w_meth2 2 (by decide) (Nat.le_of_ble_eq_true rfl) (ls := [some (.ref 188), none, none]) rfl ?_
  intro p e s m args below meth c D dA b0 ad X hr
  exact pX11_gones_b0 X hr  (K := fun z => res = z) (fun x hz => ⟨x, rfl, hz, rfl⟩) ⟨res, hf, rfl⟩
set_option maxRecDepth 4000 in
theorem pX11_judged_b90_41 (X : wCx p s m args meth c RX11 cX11_judged 6 D dA b0 ad) (hr : meth.sig.returnType = (some .int)) {h : wSt} {v1 : Int32} {v2 : Int32} {v3 : Int32} {v4 : Int32} {K : (Int32 × Int32 × Int32 × wSt) ⊕ ((Int32 × Int32 × wSt)) → Prop} (hN : ∀ (n2 : Int32) (n3 : Int32) (n4 : Int32) (nh : wSt), K (.inl (n2, n3, n4, nh)) → wM p l e (wR 8) s m args below meth c 0 0 (wE below args s D dA b0 ad S0 F) 6 D dA b0 ad S0 41 [some (.ref 188), some (.int v1), some (.int n2), some (.int n3), some (.int n4), none] [] nh) (hX0 : ∀ (n2 : Int32) (n3 : Int32) (nh : wSt), K (.inr (n2, n3, nh)) → wM p l e (wR 8) s m args below meth c 0 0 (wE below args s D dA b0 ad S0 F) 6 D dA b0 ad S0 96 [some (.ref 188), some (.int v1), some (.int n2), some (.int n3), none, none] [] nh) (hf : wok (fX11_judged_b90_41 h v1 v2 v3 v4) K) : wM p l e (wR 8) s m args below meth c 0 0 (wE below args s D dA b0 ad S0 F) 6 D dA b0 ad S0 90 [some (.ref 188), some (.int v1), some (.int v2), some (.int v3), some (.int v4), none] [] h := by
  unfold fX11_judged_b90_41 at hf
  refine w_iinc X dX11_judged_90 rfl (v := (v4 + 1)) rfl rfl (Nat.le_of_ble_eq_true rfl) (cinc_1 _) (ls' := [some (.ref 188), some (.int v1), some (.int v2), some (.int v3), some (.int (v4 + 1)), none]) rfl ?_
  refine w_goto X dX11_judged_93 (t := 41) rfl ?_
  exact hN _ _ _ _ (wok_s hf)
set_option maxRecDepth 4000 in
theorem pX11_judged_b74_41 (X : wCx p s m args meth c RX11 cX11_judged 6 D dA b0 ad) (hr : meth.sig.returnType = (some .int)) {h : wSt} {v1 : Int32} {v2 : Int32} {v3 : Int32} {v4 : Int32} {v5 : Int32} {K : (Int32 × Int32 × Int32 × wSt) ⊕ ((Int32 × Int32 × wSt)) → Prop} (hN : ∀ (n2 : Int32) (n3 : Int32) (n4 : Int32) (nh : wSt), K (.inl (n2, n3, n4, nh)) → wM p l e (wR 8) s m args below meth c 0 0 (wE below args s D dA b0 ad S0 F) 6 D dA b0 ad S0 41 [some (.ref 188), some (.int v1), some (.int n2), some (.int n3), some (.int n4), none] [] nh) (hX0 : ∀ (n2 : Int32) (n3 : Int32) (nh : wSt), K (.inr (n2, n3, nh)) → wM p l e (wR 8) s m args below meth c 0 0 (wE below args s D dA b0 ad S0 F) 6 D dA b0 ad S0 96 [some (.ref 188), some (.int v1), some (.int n2), some (.int n3), none, none] [] nh) (hf : wok (fX11_judged_b74_41 h v1 v2 v3 v4 v5) K) : wM p l e (wR 8) s m args below meth c 0 0 (wE below args s D dA b0 ad S0 F) 6 D dA b0 ad S0 74 [some (.ref 188), some (.int v1), some (.int v2), some (.int v3), some (.int v4), some (.int v5)] [] h := by
  unfold fX11_judged_b74_41 at hf
  refine w_aload_n X dX11_judged_74 rfl rfl rfl ?_
  obtain ⟨yr27, eyr27, hf⟩ := wok_b hf
  refine w_callV X dX11_judged_75 rfl vl_X11_422 (kX11_gones l  eyr27) S0_188 (As := []) (st := []) rfl rfl (Nat.le_of_ble_eq_true rfl) ⟨Nat.le_of_ble_eq_true rfl, Nat.le_of_ble_eq_true rfl⟩ ⟨Nat.zero_le _, Nat.zero_le _⟩ (fun r h2 hF => ?_)
  obtain ⟨_, rfl, rfl, rfl⟩ := hF
  show wM p l e (wR 8) s m args below meth c 0 0 (wE below args s D dA b0 ad S0 F) 6 D dA b0 ad S0 78 [some (.ref 188), some (.int v1), some (.int v2), some (.int v3), some (.int v4), some (.int v5)] [.int yr27] h
  refine w_iload X dX11_judged_78 rfl rfl ?_
  refine w_icmp_eq X dX11_judged_80 rfl (t := 90) rfl (fun hc => ?_) (fun hc => ?_)
  · have hf := wok_t hf hc
    refine w_fg (ls2 := [some (.ref 188), some (.int v1), some (.int v2), some (.int v3), some (.int v4), none]) ⟨rfl, rfl, rfl, rfl, rfl, trivial⟩ ?_
    exact pX11_judged_b90_41 X hr  hN hX0 hf
  · have hf := wok_f hf hc
    refine w_iload_n X dX11_judged_83 rfl rfl rfl ?_
    refine w_if_ge X dX11_judged_84 rfl (t := 90) rfl (fun hc => ?_) (fun hc => ?_)
    · have hf := wok_t hf hc
      refine w_fg (ls2 := [some (.ref 188), some (.int v1), some (.int v2), some (.int v3), some (.int v4), none]) ⟨rfl, rfl, rfl, rfl, rfl, trivial⟩ ?_
      exact pX11_judged_b90_41 X hr  hN hX0 hf
    · have hf := wok_f hf hc
      refine w_iload X dX11_judged_87 rfl rfl ?_
      refine w_istore_n X dX11_judged_89 rfl rfl rfl (Nat.le_of_ble_eq_true rfl) (ls' := [some (.ref 188), some (.int v1), some (.int v2), some (.int v4), some (.int v4), some (.int v5)]) rfl ?_
      refine w_fg (ls2 := [some (.ref 188), some (.int v1), some (.int v2), some (.int v4), some (.int v4), none]) ⟨rfl, rfl, rfl, rfl, rfl, trivial⟩ ?_
      exact pX11_judged_b90_41 X hr  hN hX0 hf
set_option maxRecDepth 4000 in
theorem pX11_judged_l41b (X : wCx p s m args meth c RX11 cX11_judged 6 D dA b0 ad) (hr : meth.sig.returnType = (some .int)) {h : wSt} {v1 : Int32} {v2 : Int32} {v3 : Int32} {v4 : Int32} {K : (Int32 × Int32 × Int32 × wSt) ⊕ ((Int32 × Int32 × wSt)) → Prop} (hN : ∀ (n2 : Int32) (n3 : Int32) (n4 : Int32) (nh : wSt), K (.inl (n2, n3, n4, nh)) → wM p l e (wR 8) s m args below meth c 0 0 (wE below args s D dA b0 ad S0 F) 6 D dA b0 ad S0 41 [some (.ref 188), some (.int v1), some (.int n2), some (.int n3), some (.int n4), none] [] nh) (hX0 : ∀ (n2 : Int32) (n3 : Int32) (nh : wSt), K (.inr (n2, n3, nh)) → wM p l e (wR 8) s m args below meth c 0 0 (wE below args s D dA b0 ad S0 F) 6 D dA b0 ad S0 96 [some (.ref 188), some (.int v1), some (.int n2), some (.int n3), none, none] [] nh) (hf : wok (fX11_judged_l41 h v1 v2 v3 v4) K) : wM p l e (wR 8) s m args below meth c 0 0 (wE below args s D dA b0 ad S0 F) 6 D dA b0 ad S0 41 [some (.ref 188), some (.int v1), some (.int v2), some (.int v3), some (.int v4), none] [] h := by
  unfold fX11_judged_l41 at hf
  refine w_iload X dX11_judged_41 rfl rfl ?_
  refine w_aload_n X dX11_judged_43 rfl rfl rfl ?_
  refine w_getR X dX11_judged_44 rfl fl_X11_90 S0_188 rfl ?_
  refine w_iconst X dX11_judged_47 rfl ci_0 ?_
  refine w_iald X dX11_judged_48 rfl (j := 0) cn_0 S0_215 (show wib 0 6 by decide) ?_
  refine w_icmp_ge X dX11_judged_49 rfl (t := 96) rfl (fun hc => ?_) (fun hc => ?_)
  · have hf := wok_t hf hc
    refine w_fg (ls2 := [some (.ref 188), some (.int v1), some (.int v2), some (.int v3), none, none]) ⟨rfl, rfl, rfl, rfl, trivial⟩ ?_
    exact hX0 _ _ _ (wok_s hf)
  · have hf := wok_f hf hc
    refine w_aload_n X dX11_judged_52 rfl rfl rfl ?_
    obtain ⟨yr25, eyr25, hf⟩ := wok_b hf
    refine w_callV X dX11_judged_53 rfl vl_X11_422 (kX11_gones l  eyr25) S0_188 (As := []) (st := []) rfl rfl (Nat.le_of_ble_eq_true rfl) ⟨Nat.le_of_ble_eq_true rfl, Nat.le_of_ble_eq_true rfl⟩ ⟨Nat.zero_le _, Nat.zero_le _⟩ (fun r h2 hF => ?_)
    obtain ⟨_, rfl, rfl, rfl⟩ := hF
    show wM p l e (wR 8) s m args below meth c 0 0 (wE below args s D dA b0 ad S0 F) 6 D dA b0 ad S0 56 [some (.ref 188), some (.int v1), some (.int v2), some (.int v3), some (.int v4), none] [.int yr25] h
    refine w_istore X dX11_judged_56 rfl rfl (Nat.le_of_ble_eq_true rfl) (ls' := [some (.ref 188), some (.int v1), some (.int v2), some (.int v3), some (.int v4), some (.int yr25)]) rfl ?_
    refine w_aload_n X dX11_judged_58 rfl rfl rfl ?_
    refine w_iload X dX11_judged_59 rfl rfl ?_
    obtain ⟨yr26, eyr26, hf⟩ := wok_b hf
    refine w_callV X dX11_judged_61 rfl vl_X11_425 (kX11_goes l  eyr26) S0_188 (As := [.int v4]) (st := []) rfl rfl (Nat.le_of_ble_eq_true rfl) ⟨Nat.le_of_ble_eq_true rfl, Nat.le_of_ble_eq_true rfl⟩ ⟨Nat.zero_le _, Nat.zero_le _⟩ (fun r h2 hF => ?_)
    obtain ⟨_, rfl, rfl, rfl⟩ := hF
    show wM p l e (wR 8) s m args below meth c 0 0 (wE below args s D dA b0 ad S0 F) 6 D dA b0 ad S0 64 [some (.ref 188), some (.int v1), some (.int v2), some (.int v3), some (.int v4), some (.int yr25)] [.int (wb yr26.1)] yr26.2
    refine w_if_ne X dX11_judged_64 rfl (t := 74) rfl (fun hc => ?_) (fun hc => ?_)
    · have hf := wok_t hf (wb_n0 hc)
      exact pX11_judged_b74_41 X hr  hN hX0 hf
    · have hf := wok_f hf (wb_0 hc)
      refine w_iload_n X dX11_judged_67 rfl rfl rfl ?_
      refine w_if_ge X dX11_judged_68 rfl (t := 74) rfl (fun hc => ?_) (fun hc => ?_)
      · have hf := wok_t hf hc
        exact pX11_judged_b74_41 X hr  hN hX0 hf
      · have hf := wok_f hf hc
        refine w_iload X dX11_judged_71 rfl rfl ?_
        refine w_istore_n X dX11_judged_73 rfl rfl rfl (Nat.le_of_ble_eq_true rfl) (ls' := [some (.ref 188), some (.int v1), some (.int v4), some (.int v3), some (.int v4), some (.int yr25)]) rfl ?_
        exact pX11_judged_b74_41 X hr  hN hX0 hf
set_option maxRecDepth 4000 in
theorem pX11_judged_l41 (X : wCx p s m args meth c RX11 cX11_judged 6 D dA b0 ad) (hr : meth.sig.returnType = (some .int))  {v1 : Int32} {KE : (Int32 × Int32 × wSt) → Prop} (hX0 : ∀ (n2 : Int32) (n3 : Int32) (nh : wSt), KE ((n2, n3, nh)) → wM p l e (wR 8) s m args below meth c 0 0 (wE below args s D dA b0 ad S0 F) 6 D dA b0 ad S0 96 [some (.ref 188), some (.int v1), some (.int n2), some (.int n3), none, none] [] nh) : ∀ (n : Nat) (v2 : Int32) (v3 : Int32) (v4 : Int32) (h : wSt), wok (wit (fun v : (Int32 × Int32 × Int32 × wSt) => fX11_judged_l41 v.2.2.2 v1 v.1 v.2.1 v.2.2.1) n (v2, v3, v4, h)) KE → wM p l e (wR 8) s m args below meth c 0 0 (wE below args s D dA b0 ad S0 F) 6 D dA b0 ad S0 41 [some (.ref 188), some (.int v1), some (.int v2), some (.int v3), some (.int v4), none] [] h := by
  have key := wit_M (b := (fun v : (Int32 × Int32 × Int32 × wSt) => fX11_judged_l41 v.2.2.2 v1 v.1 v.2.1 v.2.2.1)) (KE := KE) (G := fun v => wM p l e (wR 8) s m args below meth c 0 0 (wE below args s D dA b0 ad S0 F) 6 D dA b0 ad S0 41 [some (.ref 188), some (.int v1), some (.int v.1), some (.int v.2.1), some (.int v.2.2.1), none] [] v.2.2.2) (fun v K hN hE hf => pX11_judged_l41b X hr  (fun n2 n3 n4 nh hz => hN (n2, n3, n4, nh) hz) (fun z0 z1 z2 hz => hX0 z0 z1 z2 (hE _ hz)) hf)
  exact fun n v2 v3 v4 h hf => key n (v2, v3, v4, h) hf
set_option maxRecDepth 4000 in
theorem pX11_judged_b0 (X : wCx p s m args meth c RX11 cX11_judged 6 D dA b0 ad) (hr : meth.sig.returnType = (some .int)) {h : wSt} {x0 : Int32} {K : Int32 × wSt → Prop} (hT : ∀ (x : Int32) (h2 : wSt), K (x, h2) → F (some (.int x)) h2) (hf : wok (fX11_judged h x0) K) : wM p l e (wR 8) s m args below meth c 0 0 (wE below args s D dA b0 ad S0 F) 6 D dA b0 ad S0 0 [some (.ref 188), some (.int x0), none, none, none, none] [] h := by
  unfold fX11_judged at hf
  refine w_aload_n X dX11_judged_0 rfl rfl rfl ?_
  refine w_iconst X dX11_judged_1 rfl ci_0 ?_
  refine w_putI X dX11_judged_2 rfl fp_X11_144 S0_188 rfl ?_
  refine w_nmh (fun yh21 eyh21 => ?_)
  have hf := wok_l hf eyh21
  refine w_iload_n X dX11_judged_5 rfl rfl rfl ?_
  refine w_iconst X dX11_judged_6 rfl ci_0 ?_
  refine w_iconst X dX11_judged_7 rfl ci_2 ?_
  obtain ⟨yr22, eyr22, hf⟩ := wok_b hf
  refine w_callS X dX11_judged_8 rfl sl_X11_265 (kX11_within l  eyr22) (As := [.int x0, .int 0, .int 2]) (st := []) rfl rfl (Nat.le_of_ble_eq_true rfl) ⟨Nat.le_of_ble_eq_true rfl, Nat.le_of_ble_eq_true rfl⟩ ⟨Nat.zero_le _, Nat.zero_le _⟩ (fun r h2 hF => ?_)
  obtain ⟨_, rfl, rfl, rfl⟩ := hF
  show wM p l e (wR 8) s m args below meth c 0 0 (wE below args s D dA b0 ad S0 F) 6 D dA b0 ad S0 11 [some (.ref 188), some (.int x0), none, none, none, none] [.int (wb yr22)] yh21
  refine w_if_ne X dX11_judged_11 rfl (t := 17) rfl (fun hc => ?_) (fun hc => ?_)
  · have hf := wok_t hf (wb_n0 hc)
    refine w_aload_n X dX11_judged_17 rfl rfl rfl ?_
    refine w_getR X dX11_judged_18 rfl fl_X11_120 S0_188 rfl ?_
    refine w_iconst X dX11_judged_21 rfl ci_0 ?_
    refine w_aload_n X dX11_judged_22 rfl rfl rfl ?_
    refine w_getR X dX11_judged_23 rfl fl_X11_123 S0_188 rfl ?_
    refine w_iconst X dX11_judged_26 rfl ci_0 ?_
    obtain ⟨yr23, eyr23, hf⟩ := wok_b hf
    refine w_callS X dX11_judged_27 rfl sl_X11_405 (kX11_copies l S0_225 S0_226 eyr23) (As := [.ref 225, .int 0, .ref 226, .int 0]) (st := []) rfl rfl (Nat.le_of_ble_eq_true rfl) ⟨Nat.le_of_ble_eq_true rfl, Nat.le_of_ble_eq_true rfl⟩ ⟨Nat.zero_le _, Nat.zero_le _⟩ (fun r h2 hF => ?_)
    obtain ⟨rfl, rfl⟩ := hF
    show wM p l e (wR 8) s m args below meth c 0 0 (wE below args s D dA b0 ad S0 F) 6 D dA b0 ad S0 30 [some (.ref 188), some (.int x0), none, none, none, none] [] yr23
    refine w_aload_n X dX11_judged_30 rfl rfl rfl ?_
    obtain ⟨yr24, eyr24, hf⟩ := wok_b hf
    refine w_callV X dX11_judged_31 rfl vl_X11_340 (kX11_fresh0 l  eyr24) S0_188 (As := []) (st := []) rfl rfl (Nat.le_of_ble_eq_true rfl) ⟨Nat.le_of_ble_eq_true rfl, Nat.le_of_ble_eq_true rfl⟩ ⟨Nat.zero_le _, Nat.zero_le _⟩ (fun r h2 hF => ?_)
    obtain ⟨rfl, rfl⟩ := hF
    show wM p l e (wR 8) s m args below meth c 0 0 (wE below args s D dA b0 ad S0 F) 6 D dA b0 ad S0 34 [some (.ref 188), some (.int x0), none, none, none, none] [] yr24
    refine w_iconst X dX11_judged_34 rfl ci_m1 ?_
    refine w_istore_n X dX11_judged_35 rfl rfl rfl (Nat.le_of_ble_eq_true rfl) (ls' := [some (.ref 188), some (.int x0), some (.int (-1)), none, none, none]) rfl ?_
    refine w_iconst X dX11_judged_36 rfl ci_m1 ?_
    refine w_istore_n X dX11_judged_37 rfl rfl rfl (Nat.le_of_ble_eq_true rfl) (ls' := [some (.ref 188), some (.int x0), some (.int (-1)), some (.int (-1)), none, none]) rfl ?_
    refine w_iconst X dX11_judged_38 rfl ci_0 ?_
    refine w_istore X dX11_judged_39 rfl rfl (Nat.le_of_ble_eq_true rfl) (ls' := [some (.ref 188), some (.int x0), some (.int (-1)), some (.int (-1)), some (.int 0), none]) rfl ?_
    obtain ⟨ye28, hye28, hf⟩ := wok_b hf
    refine pX11_judged_l41 X hr  (KE := fun z => ye28 = z) ?_ 3000 _ _ _ _ ⟨ye28, hye28, rfl⟩
    · intro yz29 yz30 yz31 hz
      subst hz
      refine w_aload_n X dX11_judged_96 rfl rfl rfl ?_
      obtain ⟨yr32, eyr32, hf⟩ := wok_b hf
      refine w_callV X dX11_judged_97 rfl vl_X11_390 (kX11_wholeNow l  eyr32) S0_188 (As := []) (st := []) rfl rfl (Nat.le_of_ble_eq_true rfl) ⟨Nat.le_of_ble_eq_true rfl, Nat.le_of_ble_eq_true rfl⟩ ⟨Nat.zero_le _, Nat.zero_le _⟩ (fun r h2 hF => ?_)
      obtain ⟨_, rfl, rfl, rfl⟩ := hF
      show wM p l e (wR 8) s m args below meth c 0 0 (wE below args s D dA b0 ad S0 F) 6 D dA b0 ad S0 100 [some (.ref 188), some (.int x0), some (.int yz29), some (.int yz30), none, none] [.int yr32.1] yr32.2
      obtain ⟨yr33, eyr33, hf⟩ := wok_b hf
      refine w_callS X dX11_judged_100 rfl sl_X11_384 (kX11_bits l  eyr33) (As := [.int yr32.1]) (st := []) rfl rfl (Nat.le_of_ble_eq_true rfl) ⟨Nat.le_of_ble_eq_true rfl, Nat.le_of_ble_eq_true rfl⟩ ⟨Nat.zero_le _, Nat.zero_le _⟩ (fun r h2 hF => ?_)
      obtain ⟨_, rfl, rfl, rfl⟩ := hF
      show wM p l e (wR 8) s m args below meth c 0 0 (wE below args s D dA b0 ad S0 F) 6 D dA b0 ad S0 103 [some (.ref 188), some (.int x0), some (.int yz29), some (.int yz30), none, none] [.int yr33] yr32.2
      refine w_istore X dX11_judged_103 rfl rfl (Nat.le_of_ble_eq_true rfl) (ls' := [some (.ref 188), some (.int x0), some (.int yz29), some (.int yz30), some (.int yr33), none]) rfl ?_
      refine w_aload_n X dX11_judged_105 rfl rfl rfl ?_
      refine w_getR X dX11_judged_106 rfl fl_X11_123 S0_188 rfl ?_
      refine w_iconst X dX11_judged_109 rfl ci_0 ?_
      refine w_aload_n X dX11_judged_110 rfl rfl rfl ?_
      refine w_getR X dX11_judged_111 rfl fl_X11_120 S0_188 rfl ?_
      refine w_iconst X dX11_judged_114 rfl ci_0 ?_
      obtain ⟨yr34, eyr34, hf⟩ := wok_b hf
      refine w_callS X dX11_judged_115 rfl sl_X11_405 (kX11_copies l S0_226 S0_225 eyr34) (As := [.ref 226, .int 0, .ref 225, .int 0]) (st := []) rfl rfl (Nat.le_of_ble_eq_true rfl) ⟨Nat.le_of_ble_eq_true rfl, Nat.le_of_ble_eq_true rfl⟩ ⟨Nat.zero_le _, Nat.zero_le _⟩ (fun r h2 hF => ?_)
      obtain ⟨rfl, rfl⟩ := hF
      show wM p l e (wR 8) s m args below meth c 0 0 (wE below args s D dA b0 ad S0 F) 6 D dA b0 ad S0 118 [some (.ref 188), some (.int x0), some (.int yz29), some (.int yz30), some (.int yr33), none] [] yr34
      refine w_iload_n X dX11_judged_118 rfl rfl rfl ?_
      refine w_if_ne X dX11_judged_119 rfl (t := 126) rfl (fun hc => ?_) (fun hc => ?_)
      · have hf := wok_f hf hc
        refine w_iload_n X dX11_judged_126 rfl rfl rfl ?_
        refine w_iconst X dX11_judged_127 rfl ci_1 ?_
        refine w_icmp_ne X dX11_judged_128 rfl (t := 135) rfl (fun hc => ?_) (fun hc => ?_)
        · have hf := wok_f hf hc
          refine w_iload X dX11_judged_135 rfl rfl ?_
          exact w_iret X dX11_judged_137 hr (hT _ _ (wok_s hf))
        · have hf := wok_t hf hc
          refine w_iload_n X dX11_judged_131 rfl rfl rfl ?_
          refine w_goto X dX11_judged_132 (t := 137) rfl ?_
          exact w_iret X dX11_judged_137 hr (hT _ _ (wok_s hf))
      · have hf := wok_t hf hc
        refine w_iload_n X dX11_judged_122 rfl rfl rfl ?_
        refine w_goto X dX11_judged_123 (t := 137) rfl ?_
        exact w_iret X dX11_judged_137 hr (hT _ _ (wok_s hf))
  · have hf := wok_f hf (wb_0 hc)
    refine w_bipush X dX11_judged_14 rfl cb_m2 ?_
    exact w_iret X dX11_judged_16 hr (hT _ _ (wok_s hf))
set_option maxRecDepth 4000 in
theorem kX11_judged (l : Launch) {h : wSt} {x0 : Int32} {res : Int32 × wSt} (hf : fX11_judged h x0 = some res) : wC l yX11_judged cX11_judged 6 (some .int) 8 S0 [.ref 188, .int x0] h (wFI (fun a b => res.1 = a ∧ res.2 = b)) := by
  refine w_meth2 4 (by decide) (Nat.le_of_ble_eq_true rfl) (ls := [some (.ref 188), some (.int x0), none, none, none, none]) rfl ?_
  intro p e s m args below meth c D dA b0 ad X hr
  exact pX11_judged_b0 X hr  (K := fun z => res = z) (fun x h2 hz => ⟨x, rfl, by rw [hz], by rw [hz]⟩) ⟨res, hf, rfl⟩
set_option maxRecDepth 4000 in
theorem pX11_later_b0 (X : wCx p s m args meth c RX11 cX11_later 4 D dA b0 ad) (hr : meth.sig.returnType = (some .int)) {h : wSt} {x0 : Int32} {x1 : Int32} {x2 : Int32} {K : Int32 × wSt → Prop} (hT : ∀ (x : Int32) (h2 : wSt), K (x, h2) → F (some (.int x)) h2) (hf : wok (fX11_later h x0 x1 x2) K) : wM p l e (wR 6) s m args below meth c 0 0 (wE below args s D dA b0 ad S0 F) 4 D dA b0 ad S0 0 [some (.ref 188), some (.int x0), some (.int x1), some (.int x2)] [] h := by
  unfold fX11_later at hf
  refine w_aload_n X dX11_later_0 rfl rfl rfl ?_
  refine w_iconst X dX11_later_1 rfl ci_0 ?_
  refine w_putI X dX11_later_2 rfl fp_X11_144 S0_188 rfl ?_
  refine w_nmh (fun yh21 eyh21 => ?_)
  have hf := wok_l hf eyh21
  refine w_aload_n X dX11_later_5 rfl rfl rfl ?_
  refine w_iload_n X dX11_later_6 rfl rfl rfl ?_
  refine w_iload_n X dX11_later_7 rfl rfl rfl ?_
  obtain ⟨yr22, eyr22, hf⟩ := wok_b hf
  refine w_callV X dX11_later_8 rfl vl_X11_396 (kX11_isLine l  eyr22) S0_188 (As := [.int x0, .int x1]) (st := []) rfl rfl (Nat.le_of_ble_eq_true rfl) ⟨Nat.le_of_ble_eq_true rfl, Nat.le_of_ble_eq_true rfl⟩ ⟨Nat.zero_le _, Nat.zero_le _⟩ (fun r h2 hF => ?_)
  obtain ⟨_, rfl, rfl, rfl⟩ := hF
  show wM p l e (wR 6) s m args below meth c 0 0 (wE below args s D dA b0 ad S0 F) 4 D dA b0 ad S0 11 [some (.ref 188), some (.int x0), some (.int x1), some (.int x2)] [.int (wb yr22)] yh21
  refine w_if_eq X dX11_later_11 rfl (t := 45) rfl (fun hc => ?_) (fun hc => ?_)
  · have hf := wok_f hf (wb_0 hc)
    refine w_iconst X dX11_later_45 rfl ci_m1 ?_
    exact w_iret X dX11_later_46 hr (hT _ _ (wok_s hf))
  · have hf := wok_t hf (wb_n0 hc)
    refine w_iload_n X dX11_later_14 rfl rfl rfl ?_
    refine w_iconst X dX11_later_15 rfl ci_0 ?_
    refine w_bipush X dX11_later_16 rfl cb_40 ?_
    obtain ⟨yr23, eyr23, hf⟩ := wok_b hf
    refine w_callS X dX11_later_18 rfl sl_X11_265 (kX11_within l  eyr23) (As := [.int x2, .int 0, .int 40]) (st := []) rfl rfl (Nat.le_of_ble_eq_true rfl) ⟨Nat.le_of_ble_eq_true rfl, Nat.le_of_ble_eq_true rfl⟩ ⟨Nat.zero_le _, Nat.zero_le _⟩ (fun r h2 hF => ?_)
    obtain ⟨_, rfl, rfl, rfl⟩ := hF
    show wM p l e (wR 6) s m args below meth c 0 0 (wE below args s D dA b0 ad S0 F) 4 D dA b0 ad S0 21 [some (.ref 188), some (.int x0), some (.int x1), some (.int x2)] [.int (wb yr23)] yh21
    refine w_if_eq X dX11_later_21 rfl (t := 45) rfl (fun hc => ?_) (fun hc => ?_)
    · have hf := wok_f hf (wb_0 hc)
      refine w_iconst X dX11_later_45 rfl ci_m1 ?_
      exact w_iret X dX11_later_46 hr (hT _ _ (wok_s hf))
    · have hf := wok_t hf (wb_n0 hc)
      refine w_aload_n X dX11_later_24 rfl rfl rfl ?_
      refine w_iload_n X dX11_later_25 rfl rfl rfl ?_
      refine w_iload_n X dX11_later_26 rfl rfl rfl ?_
      refine w_aload_n X dX11_later_27 rfl rfl rfl ?_
      refine w_aload_n X dX11_later_28 rfl rfl rfl ?_
      refine w_getR X dX11_later_29 rfl fl_X11_120 S0_188 rfl ?_
      refine w_iconst X dX11_later_32 rfl ci_0 ?_
      refine w_iald X dX11_later_33 rfl (j := 0) cn_0 S0_225 (show wib 0 25 by decide) ?_
      refine w_iload_n X dX11_later_34 rfl rfl rfl ?_
      refine w_iadd X dX11_later_35 rfl ?_
      obtain ⟨yr24, eyr24, hf⟩ := wok_b hf
      refine w_callV X dX11_later_36 rfl vl_X11_367 (kX11_dampOf l  eyr24) S0_188 (As := [.int ((yh21.1 225 0) + x2)]) (st := [.int x1, .int x0, .ref 188]) rfl rfl (Nat.le_of_ble_eq_true rfl) ⟨Nat.le_of_ble_eq_true rfl, Nat.le_of_ble_eq_true rfl⟩ ⟨Nat.zero_le _, Nat.zero_le _⟩ (fun r h2 hF => ?_)
      obtain ⟨_, rfl, rfl, rfl⟩ := hF
      show wM p l e (wR 6) s m args below meth c 0 0 (wE below args s D dA b0 ad S0 F) 4 D dA b0 ad S0 39 [some (.ref 188), some (.int x0), some (.int x1), some (.int x2)] [.int yr24, .int x1, .int x0, .ref 188] yh21
      obtain ⟨yr25, eyr25, hf⟩ := wok_b hf
      refine w_callV X dX11_later_39 rfl vl_X11_363 (kX11_readBy l  eyr25) S0_188 (As := [.int x0, .int x1, .int yr24]) (st := []) rfl rfl (Nat.le_of_ble_eq_true rfl) ⟨Nat.le_of_ble_eq_true rfl, Nat.le_of_ble_eq_true rfl⟩ ⟨Nat.zero_le _, Nat.zero_le _⟩ (fun r h2 hF => ?_)
      obtain ⟨_, rfl, rfl, rfl⟩ := hF
      show wM p l e (wR 6) s m args below meth c 0 0 (wE below args s D dA b0 ad S0 F) 4 D dA b0 ad S0 42 [some (.ref 188), some (.int x0), some (.int x1), some (.int x2)] [.int yr25.1] yr25.2
      refine w_goto X dX11_later_42 (t := 46) rfl ?_
      exact w_iret X dX11_later_46 hr (hT _ _ (wok_s hf))
set_option maxRecDepth 4000 in
theorem kX11_later (l : Launch) {h : wSt} {x0 : Int32} {x1 : Int32} {x2 : Int32} {res : Int32 × wSt} (hf : fX11_later h x0 x1 x2 = some res) : wC l yX11_later cX11_later 4 (some .int) 6 S0 [.ref 188, .int x0, .int x1, .int x2] h (wFI (fun a b => res.1 = a ∧ res.2 = b)) := by
  refine w_meth2 0 (by decide) (Nat.le_of_ble_eq_true rfl) (ls := [some (.ref 188), some (.int x0), some (.int x1), some (.int x2)]) rfl ?_
  intro p e s m args below meth c D dA b0 ad X hr
  exact pX11_later_b0 X hr  (K := fun z => res = z) (fun x h2 hz => ⟨x, rfl, by rw [hz], by rw [hz]⟩) ⟨res, hf, rfl⟩
set_option maxRecDepth 4000 in
theorem pX11_when_l17b (X : wCx p s m args meth c RX11 cX11_when 3 D dA b0 ad) (hr : meth.sig.returnType = (some .int)) {h : wSt} {v1 : Int32} {v2 : Int32} {K : (Int32 × wSt) ⊕ ((wSt) ⊕ (Int32 × wSt)) → Prop} (hN : ∀ (n2 : Int32) (nh : wSt), K (.inl (n2, nh)) → wM p l e (wR 7) s m args below meth c 0 0 (wE below args s D dA b0 ad S0 F) 3 D dA b0 ad S0 17 [some (.ref 188), some (.int v1), some (.int n2)] [] nh) (hX0 : ∀ (nh : wSt), K (.inr (.inl nh)) → wM p l e (wR 7) s m args below meth c 0 0 (wE below args s D dA b0 ad S0 F) 3 D dA b0 ad S0 55 [none, none, none] [] nh) (hT : ∀ (x : Int32) (h2 : wSt), K (.inr (.inr (x, h2))) → F (some (.int x)) h2) (hf : wok (fX11_when_l17 h v1 v2) K) : wM p l e (wR 7) s m args below meth c 0 0 (wE below args s D dA b0 ad S0 F) 3 D dA b0 ad S0 17 [some (.ref 188), some (.int v1), some (.int v2)] [] h := by
  unfold fX11_when_l17 at hf
  refine w_iload_n X dX11_when_17 rfl rfl rfl ?_
  refine w_bipush X dX11_when_18 rfl cb_40 ?_
  refine w_icmp_gt X dX11_when_20 rfl (t := 55) rfl (fun hc => ?_) (fun hc => ?_)
  · have hf := wok_t hf hc
    refine w_fg (ls2 := [none, none, none]) trivial ?_
    exact hX0 _ (wok_s hf)
  · have hf := wok_f hf hc
    refine w_aload_n X dX11_when_23 rfl rfl rfl ?_
    refine w_aload_n X dX11_when_24 rfl rfl rfl ?_
    refine w_aload_n X dX11_when_25 rfl rfl rfl ?_
    refine w_getR X dX11_when_26 rfl fl_X11_120 S0_188 rfl ?_
    refine w_iconst X dX11_when_29 rfl ci_0 ?_
    refine w_iald X dX11_when_30 rfl (j := 0) cn_0 S0_225 (show wib 0 25 by decide) ?_
    refine w_iload_n X dX11_when_31 rfl rfl rfl ?_
    refine w_iadd X dX11_when_32 rfl ?_
    obtain ⟨yr23, eyr23, hf⟩ := wok_b hf
    refine w_callV X dX11_when_33 rfl vl_X11_367 (kX11_dampOf l  eyr23) S0_188 (As := [.int ((h.1 225 0) + v2)]) (st := [.ref 188]) rfl rfl (Nat.le_of_ble_eq_true rfl) ⟨Nat.le_of_ble_eq_true rfl, Nat.le_of_ble_eq_true rfl⟩ ⟨Nat.zero_le _, Nat.zero_le _⟩ (fun r h2 hF => ?_)
    obtain ⟨_, rfl, rfl, rfl⟩ := hF
    show wM p l e (wR 7) s m args below meth c 0 0 (wE below args s D dA b0 ad S0 F) 3 D dA b0 ad S0 36 [some (.ref 188), some (.int v1), some (.int v2)] [.int yr23, .ref 188] h
    obtain ⟨yr24, eyr24, hf⟩ := wok_b hf
    refine w_callV X dX11_when_36 rfl vl_X11_370 (kX11_wholeBy l  eyr24) S0_188 (As := [.int yr23]) (st := []) rfl rfl (Nat.le_of_ble_eq_true rfl) ⟨Nat.le_of_ble_eq_true rfl, Nat.le_of_ble_eq_true rfl⟩ ⟨Nat.zero_le _, Nat.zero_le _⟩ (fun r h2 hF => ?_)
    obtain ⟨_, rfl, rfl, rfl⟩ := hF
    show wM p l e (wR 7) s m args below meth c 0 0 (wE below args s D dA b0 ad S0 F) 3 D dA b0 ad S0 39 [some (.ref 188), some (.int v1), some (.int v2)] [.int yr24.1] yr24.2
    refine w_iload_n X dX11_when_39 rfl rfl rfl ?_
    refine w_ishr X dX11_when_40 rfl ?_
    refine w_iconst X dX11_when_41 rfl ci_1 ?_
    refine w_iand X dX11_when_42 rfl ?_
    refine w_iconst X dX11_when_43 rfl ci_1 ?_
    refine w_icmp_ne X dX11_when_44 rfl (t := 49) rfl (fun hc => ?_) (fun hc => ?_)
    · have hf := wok_f hf hc
      refine w_iinc X dX11_when_49 rfl (v := (v2 + 1)) rfl rfl (Nat.le_of_ble_eq_true rfl) (cinc_1 _) (ls' := [some (.ref 188), some (.int v1), some (.int (v2 + 1))]) rfl ?_
      refine w_goto X dX11_when_52 (t := 17) rfl ?_
      exact hN _ _ (wok_s hf)
    · have hf := wok_t hf hc
      refine w_iload_n X dX11_when_47 rfl rfl rfl ?_
      exact w_iret X dX11_when_48 hr (hT _ _ (wok_s hf))
set_option maxRecDepth 4000 in
theorem pX11_when_l17 (X : wCx p s m args meth c RX11 cX11_when 3 D dA b0 ad) (hr : meth.sig.returnType = (some .int))  {v1 : Int32} {KE : (wSt) ⊕ (Int32 × wSt) → Prop} (hX0 : ∀ (nh : wSt), KE ((.inl nh)) → wM p l e (wR 7) s m args below meth c 0 0 (wE below args s D dA b0 ad S0 F) 3 D dA b0 ad S0 55 [none, none, none] [] nh) (hT : ∀ (x : Int32) (h2 : wSt), KE ((.inr (x, h2))) → F (some (.int x)) h2) : ∀ (n : Nat) (v2 : Int32) (h : wSt), wok (wit (fun v : (Int32 × wSt) => fX11_when_l17 v.2 v1 v.1) n (v2, h)) KE → wM p l e (wR 7) s m args below meth c 0 0 (wE below args s D dA b0 ad S0 F) 3 D dA b0 ad S0 17 [some (.ref 188), some (.int v1), some (.int v2)] [] h := by
  have key := wit_M (b := (fun v : (Int32 × wSt) => fX11_when_l17 v.2 v1 v.1)) (KE := KE) (G := fun v => wM p l e (wR 7) s m args below meth c 0 0 (wE below args s D dA b0 ad S0 F) 3 D dA b0 ad S0 17 [some (.ref 188), some (.int v1), some (.int v.1)] [] v.2) (fun v K hN hE hf => pX11_when_l17b X hr  (fun n2 nh hz => hN (n2, nh) hz) (fun z0 hz => hX0 z0 (hE _ hz)) (fun z0 z1 hz => hT z0 z1 (hE _ hz)) hf)
  exact fun n v2 h hf => key n (v2, h) hf
set_option maxRecDepth 4000 in
theorem pX11_when_b0 (X : wCx p s m args meth c RX11 cX11_when 3 D dA b0 ad) (hr : meth.sig.returnType = (some .int)) {h : wSt} {x0 : Int32} {K : Int32 × wSt → Prop} (hT : ∀ (x : Int32) (h2 : wSt), K (x, h2) → F (some (.int x)) h2) (hf : wok (fX11_when h x0) K) : wM p l e (wR 7) s m args below meth c 0 0 (wE below args s D dA b0 ad S0 F) 3 D dA b0 ad S0 0 [some (.ref 188), some (.int x0), none] [] h := by
  unfold fX11_when at hf
  refine w_aload_n X dX11_when_0 rfl rfl rfl ?_
  refine w_iconst X dX11_when_1 rfl ci_0 ?_
  refine w_putI X dX11_when_2 rfl fp_X11_144 S0_188 rfl ?_
  refine w_nmh (fun yh21 eyh21 => ?_)
  have hf := wok_l hf eyh21
  refine w_aload_n X dX11_when_5 rfl rfl rfl ?_
  refine w_iload_n X dX11_when_6 rfl rfl rfl ?_
  obtain ⟨yr22, eyr22, hf⟩ := wok_b hf
  refine w_callV X dX11_when_7 rfl vl_X11_387 (kX11_isText l  eyr22) S0_188 (As := [.int x0]) (st := []) rfl rfl (Nat.le_of_ble_eq_true rfl) ⟨Nat.le_of_ble_eq_true rfl, Nat.le_of_ble_eq_true rfl⟩ ⟨Nat.zero_le _, Nat.zero_le _⟩ (fun r h2 hF => ?_)
  obtain ⟨_, rfl, rfl, rfl⟩ := hF
  show wM p l e (wR 7) s m args below meth c 0 0 (wE below args s D dA b0 ad S0 F) 3 D dA b0 ad S0 10 [some (.ref 188), some (.int x0), none] [.int (wb yr22)] yh21
  refine w_if_ne X dX11_when_10 rfl (t := 15) rfl (fun hc => ?_) (fun hc => ?_)
  · have hf := wok_t hf (wb_n0 hc)
    refine w_iconst X dX11_when_15 rfl ci_0 ?_
    refine w_istore_n X dX11_when_16 rfl rfl rfl (Nat.le_of_ble_eq_true rfl) (ls' := [some (.ref 188), some (.int x0), some (.int 0)]) rfl ?_
    obtain ⟨ye25, hye25, hf⟩ := wok_b hf
    refine pX11_when_l17 X hr  (KE := fun z => ye25 = z) ?_ ?_ 3000 _ _ ⟨ye25, hye25, rfl⟩
    · intro yz26 hz
      subst hz
      refine w_iconst X dX11_when_55 rfl ci_m1 ?_
      exact w_iret X dX11_when_56 hr (hT _ _ (wok_s hf))
    · intro z zh hz
      subst hz
      exact hT _ _ (wok_s hf)
  · have hf := wok_f hf (wb_0 hc)
    refine w_iconst X dX11_when_13 rfl ci_m1 ?_
    exact w_iret X dX11_when_14 hr (hT _ _ (wok_s hf))
set_option maxRecDepth 4000 in
theorem kX11_when (l : Launch) {h : wSt} {x0 : Int32} {res : Int32 × wSt} (hf : fX11_when h x0 = some res) : wC l yX11_when cX11_when 3 (some .int) 7 S0 [.ref 188, .int x0] h (wFI (fun a b => res.1 = a ∧ res.2 = b)) := by
  refine w_meth2 1 (by decide) (Nat.le_of_ble_eq_true rfl) (ls := [some (.ref 188), some (.int x0), none]) rfl ?_
  intro p e s m args below meth c D dA b0 ad X hr
  exact pX11_when_b0 X hr  (K := fun z => res = z) (fun x h2 hz => ⟨x, rfl, by rw [hz], by rw [hz]⟩) ⟨res, hf, rfl⟩
set_option maxRecDepth 4000 in
theorem pX11_need_l17b (X : wCx p s m args meth c RX11 cX11_need 3 D dA b0 ad) (hr : meth.sig.returnType = (some .int)) {h : wSt} {v1 : Int32} {v2 : Int32} {K : (Int32 × wSt) ⊕ ((wSt) ⊕ (Int32 × wSt)) → Prop} (hN : ∀ (n2 : Int32) (nh : wSt), K (.inl (n2, nh)) → wM p l e (wR 7) s m args below meth c 0 0 (wE below args s D dA b0 ad S0 F) 3 D dA b0 ad S0 17 [some (.ref 188), some (.int v1), some (.int n2)] [] nh) (hX0 : ∀ (nh : wSt), K (.inr (.inl nh)) → wM p l e (wR 7) s m args below meth c 0 0 (wE below args s D dA b0 ad S0 F) 3 D dA b0 ad S0 44 [none, none, none] [] nh) (hT : ∀ (x : Int32) (h2 : wSt), K (.inr (.inr (x, h2))) → F (some (.int x)) h2) (hf : wok (fX11_need_l17 h v1 v2) K) : wM p l e (wR 7) s m args below meth c 0 0 (wE below args s D dA b0 ad S0 F) 3 D dA b0 ad S0 17 [some (.ref 188), some (.int v1), some (.int v2)] [] h := by
  unfold fX11_need_l17 at hf
  refine w_iload_n X dX11_need_17 rfl rfl rfl ?_
  refine w_bipush X dX11_need_18 rfl cb_10 ?_
  refine w_icmp_ge X dX11_need_20 rfl (t := 44) rfl (fun hc => ?_) (fun hc => ?_)
  · have hf := wok_t hf hc
    refine w_fg (ls2 := [none, none, none]) trivial ?_
    exact hX0 _ (wok_s hf)
  · have hf := wok_f hf hc
    refine w_aload_n X dX11_need_23 rfl rfl rfl ?_
    refine w_iload_n X dX11_need_24 rfl rfl rfl ?_
    obtain ⟨yr23, eyr23, hf⟩ := wok_b hf
    refine w_callV X dX11_need_25 rfl vl_X11_370 (kX11_wholeBy l  eyr23) S0_188 (As := [.int v2]) (st := []) rfl rfl (Nat.le_of_ble_eq_true rfl) ⟨Nat.le_of_ble_eq_true rfl, Nat.le_of_ble_eq_true rfl⟩ ⟨Nat.zero_le _, Nat.zero_le _⟩ (fun r h2 hF => ?_)
    obtain ⟨_, rfl, rfl, rfl⟩ := hF
    show wM p l e (wR 7) s m args below meth c 0 0 (wE below args s D dA b0 ad S0 F) 3 D dA b0 ad S0 28 [some (.ref 188), some (.int v1), some (.int v2)] [.int yr23.1] yr23.2
    refine w_iload_n X dX11_need_28 rfl rfl rfl ?_
    refine w_ishr X dX11_need_29 rfl ?_
    refine w_iconst X dX11_need_30 rfl ci_1 ?_
    refine w_iand X dX11_need_31 rfl ?_
    refine w_iconst X dX11_need_32 rfl ci_1 ?_
    refine w_icmp_ne X dX11_need_33 rfl (t := 38) rfl (fun hc => ?_) (fun hc => ?_)
    · have hf := wok_f hf hc
      refine w_iinc X dX11_need_38 rfl (v := (v2 + 1)) rfl rfl (Nat.le_of_ble_eq_true rfl) (cinc_1 _) (ls' := [some (.ref 188), some (.int v1), some (.int (v2 + 1))]) rfl ?_
      refine w_goto X dX11_need_41 (t := 17) rfl ?_
      exact hN _ _ (wok_s hf)
    · have hf := wok_t hf hc
      refine w_iload_n X dX11_need_36 rfl rfl rfl ?_
      exact w_iret X dX11_need_37 hr (hT _ _ (wok_s hf))
set_option maxRecDepth 4000 in
theorem pX11_need_l17 (X : wCx p s m args meth c RX11 cX11_need 3 D dA b0 ad) (hr : meth.sig.returnType = (some .int))  {v1 : Int32} {KE : (wSt) ⊕ (Int32 × wSt) → Prop} (hX0 : ∀ (nh : wSt), KE ((.inl nh)) → wM p l e (wR 7) s m args below meth c 0 0 (wE below args s D dA b0 ad S0 F) 3 D dA b0 ad S0 44 [none, none, none] [] nh) (hT : ∀ (x : Int32) (h2 : wSt), KE ((.inr (x, h2))) → F (some (.int x)) h2) : ∀ (n : Nat) (v2 : Int32) (h : wSt), wok (wit (fun v : (Int32 × wSt) => fX11_need_l17 v.2 v1 v.1) n (v2, h)) KE → wM p l e (wR 7) s m args below meth c 0 0 (wE below args s D dA b0 ad S0 F) 3 D dA b0 ad S0 17 [some (.ref 188), some (.int v1), some (.int v2)] [] h := by
  have key := wit_M (b := (fun v : (Int32 × wSt) => fX11_need_l17 v.2 v1 v.1)) (KE := KE) (G := fun v => wM p l e (wR 7) s m args below meth c 0 0 (wE below args s D dA b0 ad S0 F) 3 D dA b0 ad S0 17 [some (.ref 188), some (.int v1), some (.int v.1)] [] v.2) (fun v K hN hE hf => pX11_need_l17b X hr  (fun n2 nh hz => hN (n2, nh) hz) (fun z0 hz => hX0 z0 (hE _ hz)) (fun z0 z1 hz => hT z0 z1 (hE _ hz)) hf)
  exact fun n v2 h hf => key n (v2, h) hf
set_option maxRecDepth 4000 in
theorem pX11_need_b0 (X : wCx p s m args meth c RX11 cX11_need 3 D dA b0 ad) (hr : meth.sig.returnType = (some .int)) {h : wSt} {x0 : Int32} {K : Int32 × wSt → Prop} (hT : ∀ (x : Int32) (h2 : wSt), K (x, h2) → F (some (.int x)) h2) (hf : wok (fX11_need h x0) K) : wM p l e (wR 7) s m args below meth c 0 0 (wE below args s D dA b0 ad S0 F) 3 D dA b0 ad S0 0 [some (.ref 188), some (.int x0), none] [] h := by
  unfold fX11_need at hf
  refine w_aload_n X dX11_need_0 rfl rfl rfl ?_
  refine w_iconst X dX11_need_1 rfl ci_0 ?_
  refine w_putI X dX11_need_2 rfl fp_X11_144 S0_188 rfl ?_
  refine w_nmh (fun yh21 eyh21 => ?_)
  have hf := wok_l hf eyh21
  refine w_aload_n X dX11_need_5 rfl rfl rfl ?_
  refine w_iload_n X dX11_need_6 rfl rfl rfl ?_
  obtain ⟨yr22, eyr22, hf⟩ := wok_b hf
  refine w_callV X dX11_need_7 rfl vl_X11_387 (kX11_isText l  eyr22) S0_188 (As := [.int x0]) (st := []) rfl rfl (Nat.le_of_ble_eq_true rfl) ⟨Nat.le_of_ble_eq_true rfl, Nat.le_of_ble_eq_true rfl⟩ ⟨Nat.zero_le _, Nat.zero_le _⟩ (fun r h2 hF => ?_)
  obtain ⟨_, rfl, rfl, rfl⟩ := hF
  show wM p l e (wR 7) s m args below meth c 0 0 (wE below args s D dA b0 ad S0 F) 3 D dA b0 ad S0 10 [some (.ref 188), some (.int x0), none] [.int (wb yr22)] yh21
  refine w_if_ne X dX11_need_10 rfl (t := 15) rfl (fun hc => ?_) (fun hc => ?_)
  · have hf := wok_t hf (wb_n0 hc)
    refine w_iconst X dX11_need_15 rfl ci_0 ?_
    refine w_istore_n X dX11_need_16 rfl rfl rfl (Nat.le_of_ble_eq_true rfl) (ls' := [some (.ref 188), some (.int x0), some (.int 0)]) rfl ?_
    obtain ⟨ye24, hye24, hf⟩ := wok_b hf
    refine pX11_need_l17 X hr  (KE := fun z => ye24 = z) ?_ ?_ 3000 _ _ ⟨ye24, hye24, rfl⟩
    · intro yz25 hz
      subst hz
      refine w_iconst X dX11_need_44 rfl ci_m1 ?_
      exact w_iret X dX11_need_45 hr (hT _ _ (wok_s hf))
    · intro z zh hz
      subst hz
      exact hT _ _ (wok_s hf)
  · have hf := wok_f hf (wb_0 hc)
    refine w_iconst X dX11_need_13 rfl ci_m1 ?_
    exact w_iret X dX11_need_14 hr (hT _ _ (wok_s hf))
set_option maxRecDepth 4000 in
theorem kX11_need (l : Launch) {h : wSt} {x0 : Int32} {res : Int32 × wSt} (hf : fX11_need h x0 = some res) : wC l yX11_need cX11_need 3 (some .int) 7 S0 [.ref 188, .int x0] h (wFI (fun a b => res.1 = a ∧ res.2 = b)) := by
  refine w_meth2 1 (by decide) (Nat.le_of_ble_eq_true rfl) (ls := [some (.ref 188), some (.int x0), none]) rfl ?_
  intro p e s m args below meth c D dA b0 ad X hr
  exact pX11_need_b0 X hr  (K := fun z => res = z) (fun x h2 hz => ⟨x, rfl, by rw [hz], by rw [hz]⟩) ⟨res, hf, rfl⟩
set_option maxRecDepth 4000 in
theorem pX11_psalter_l19b (X : wCx p s m args meth c RX11 cX11_psalter 4 D dA b0 ad) (hr : meth.sig.returnType = (some .int)) {h : wSt} {v1 : Int32} {v2 : Int32} {v3 : Int32} {K : (Int32 × Int32 × wSt) ⊕ ((Int32 × wSt)) → Prop} (hN : ∀ (n2 : Int32) (n3 : Int32) (nh : wSt), K (.inl (n2, n3, nh)) → wM p l e (wR 7) s m args below meth c 0 0 (wE below args s D dA b0 ad S0 F) 4 D dA b0 ad S0 19 [some (.ref 188), some (.int v1), some (.int n2), some (.int n3)] [] nh) (hX0 : ∀ (n2 : Int32) (nh : wSt), K (.inr (n2, nh)) → wM p l e (wR 7) s m args below meth c 0 0 (wE below args s D dA b0 ad S0 F) 4 D dA b0 ad S0 43 [none, none, some (.int n2), none] [] nh) (hf : wok (fX11_psalter_l19 h v1 v2 v3) K) : wM p l e (wR 7) s m args below meth c 0 0 (wE below args s D dA b0 ad S0 F) 4 D dA b0 ad S0 19 [some (.ref 188), some (.int v1), some (.int v2), some (.int v3)] [] h := by
  unfold fX11_psalter_l19 at hf
  refine w_iload_n X dX11_psalter_19 rfl rfl rfl ?_
  refine w_bipush X dX11_psalter_20 rfl cb_10 ?_
  refine w_icmp_ge X dX11_psalter_22 rfl (t := 43) rfl (fun hc => ?_) (fun hc => ?_)
  · have hf := wok_t hf hc
    refine w_fg (ls2 := [none, none, some (.int v2), none]) ⟨rfl, trivial⟩ ?_
    exact hX0 _ _ (wok_s hf)
  · have hf := wok_f hf hc
    refine w_iload_n X dX11_psalter_25 rfl rfl rfl ?_
    refine w_aload_n X dX11_psalter_26 rfl rfl rfl ?_
    refine w_iload_n X dX11_psalter_27 rfl rfl rfl ?_
    obtain ⟨yr23, eyr23, hf⟩ := wok_b hf
    refine w_callV X dX11_psalter_28 rfl vl_X11_370 (kX11_wholeBy l  eyr23) S0_188 (As := [.int v3]) (st := [.int v2]) rfl rfl (Nat.le_of_ble_eq_true rfl) ⟨Nat.le_of_ble_eq_true rfl, Nat.le_of_ble_eq_true rfl⟩ ⟨Nat.zero_le _, Nat.zero_le _⟩ (fun r h2 hF => ?_)
    obtain ⟨_, rfl, rfl, rfl⟩ := hF
    show wM p l e (wR 7) s m args below meth c 0 0 (wE below args s D dA b0 ad S0 F) 4 D dA b0 ad S0 31 [some (.ref 188), some (.int v1), some (.int v2), some (.int v3)] [.int yr23.1, .int v2] yr23.2
    refine w_iload_n X dX11_psalter_31 rfl rfl rfl ?_
    refine w_ishr X dX11_psalter_32 rfl ?_
    refine w_iconst X dX11_psalter_33 rfl ci_1 ?_
    refine w_iand X dX11_psalter_34 rfl ?_
    refine w_iadd X dX11_psalter_35 rfl ?_
    refine w_topi (fun yx24 eyx24 => ?_)
    have hf := wok_l hf eyx24
    refine w_istore_n X dX11_psalter_36 rfl rfl rfl (Nat.le_of_ble_eq_true rfl) (ls' := [some (.ref 188), some (.int v1), some (.int yx24), some (.int v3)]) rfl ?_
    refine w_iinc X dX11_psalter_37 rfl (v := (v3 + 1)) rfl rfl (Nat.le_of_ble_eq_true rfl) (cinc_1 _) (ls' := [some (.ref 188), some (.int v1), some (.int yx24), some (.int (v3 + 1))]) rfl ?_
    refine w_goto X dX11_psalter_40 (t := 19) rfl ?_
    exact hN _ _ _ (wok_s hf)
set_option maxRecDepth 4000 in
theorem pX11_psalter_l19 (X : wCx p s m args meth c RX11 cX11_psalter 4 D dA b0 ad) (hr : meth.sig.returnType = (some .int))  {v1 : Int32} {KE : (Int32 × wSt) → Prop} (hX0 : ∀ (n2 : Int32) (nh : wSt), KE ((n2, nh)) → wM p l e (wR 7) s m args below meth c 0 0 (wE below args s D dA b0 ad S0 F) 4 D dA b0 ad S0 43 [none, none, some (.int n2), none] [] nh) : ∀ (n : Nat) (v2 : Int32) (v3 : Int32) (h : wSt), wok (wit (fun v : (Int32 × Int32 × wSt) => fX11_psalter_l19 v.2.2 v1 v.1 v.2.1) n (v2, v3, h)) KE → wM p l e (wR 7) s m args below meth c 0 0 (wE below args s D dA b0 ad S0 F) 4 D dA b0 ad S0 19 [some (.ref 188), some (.int v1), some (.int v2), some (.int v3)] [] h := by
  have key := wit_M (b := (fun v : (Int32 × Int32 × wSt) => fX11_psalter_l19 v.2.2 v1 v.1 v.2.1)) (KE := KE) (G := fun v => wM p l e (wR 7) s m args below meth c 0 0 (wE below args s D dA b0 ad S0 F) 4 D dA b0 ad S0 19 [some (.ref 188), some (.int v1), some (.int v.1), some (.int v.2.1)] [] v.2.2) (fun v K hN hE hf => pX11_psalter_l19b X hr  (fun n2 n3 nh hz => hN (n2, n3, nh) hz) (fun z0 z1 hz => hX0 z0 z1 (hE _ hz)) hf)
  exact fun n v2 v3 h hf => key n (v2, v3, h) hf
set_option maxRecDepth 4000 in
theorem pX11_psalter_b0 (X : wCx p s m args meth c RX11 cX11_psalter 4 D dA b0 ad) (hr : meth.sig.returnType = (some .int)) {h : wSt} {x0 : Int32} {K : Int32 × wSt → Prop} (hT : ∀ (x : Int32) (h2 : wSt), K (x, h2) → F (some (.int x)) h2) (hf : wok (fX11_psalter h x0) K) : wM p l e (wR 7) s m args below meth c 0 0 (wE below args s D dA b0 ad S0 F) 4 D dA b0 ad S0 0 [some (.ref 188), some (.int x0), none, none] [] h := by
  unfold fX11_psalter at hf
  refine w_aload_n X dX11_psalter_0 rfl rfl rfl ?_
  refine w_iconst X dX11_psalter_1 rfl ci_0 ?_
  refine w_putI X dX11_psalter_2 rfl fp_X11_144 S0_188 rfl ?_
  refine w_nmh (fun yh21 eyh21 => ?_)
  have hf := wok_l hf eyh21
  refine w_aload_n X dX11_psalter_5 rfl rfl rfl ?_
  refine w_iload_n X dX11_psalter_6 rfl rfl rfl ?_
  obtain ⟨yr22, eyr22, hf⟩ := wok_b hf
  refine w_callV X dX11_psalter_7 rfl vl_X11_387 (kX11_isText l  eyr22) S0_188 (As := [.int x0]) (st := []) rfl rfl (Nat.le_of_ble_eq_true rfl) ⟨Nat.le_of_ble_eq_true rfl, Nat.le_of_ble_eq_true rfl⟩ ⟨Nat.zero_le _, Nat.zero_le _⟩ (fun r h2 hF => ?_)
  obtain ⟨_, rfl, rfl, rfl⟩ := hF
  show wM p l e (wR 7) s m args below meth c 0 0 (wE below args s D dA b0 ad S0 F) 4 D dA b0 ad S0 10 [some (.ref 188), some (.int x0), none, none] [.int (wb yr22)] yh21
  refine w_if_ne X dX11_psalter_10 rfl (t := 15) rfl (fun hc => ?_) (fun hc => ?_)
  · have hf := wok_t hf (wb_n0 hc)
    refine w_iconst X dX11_psalter_15 rfl ci_0 ?_
    refine w_istore_n X dX11_psalter_16 rfl rfl rfl (Nat.le_of_ble_eq_true rfl) (ls' := [some (.ref 188), some (.int x0), some (.int 0), none]) rfl ?_
    refine w_iconst X dX11_psalter_17 rfl ci_0 ?_
    refine w_istore_n X dX11_psalter_18 rfl rfl rfl (Nat.le_of_ble_eq_true rfl) (ls' := [some (.ref 188), some (.int x0), some (.int 0), some (.int 0)]) rfl ?_
    obtain ⟨ye25, hye25, hf⟩ := wok_b hf
    refine pX11_psalter_l19 X hr  (KE := fun z => ye25 = z) ?_ 3000 _ _ _ ⟨ye25, hye25, rfl⟩
    · intro yz26 yz27 hz
      subst hz
      refine w_iload_n X dX11_psalter_43 rfl rfl rfl ?_
      exact w_iret X dX11_psalter_44 hr (hT _ _ (wok_s hf))
  · have hf := wok_f hf (wb_0 hc)
    refine w_iconst X dX11_psalter_13 rfl ci_m1 ?_
    exact w_iret X dX11_psalter_14 hr (hT _ _ (wok_s hf))
set_option maxRecDepth 4000 in
theorem kX11_psalter (l : Launch) {h : wSt} {x0 : Int32} {res : Int32 × wSt} (hf : fX11_psalter h x0 = some res) : wC l yX11_psalter cX11_psalter 4 (some .int) 7 S0 [.ref 188, .int x0] h (wFI (fun a b => res.1 = a ∧ res.2 = b)) := by
  refine w_meth2 2 (by decide) (Nat.le_of_ble_eq_true rfl) (ls := [some (.ref 188), some (.int x0), none, none]) rfl ?_
  intro p e s m args below meth c D dA b0 ad X hr
  exact pX11_psalter_b0 X hr  (K := fun z => res = z) (fun x h2 hz => ⟨x, rfl, by rw [hz], by rw [hz]⟩) ⟨res, hf, rfl⟩
set_option maxRecDepth 4000 in
theorem pX11_lost_l52b (X : wCx p s m args meth c RX11 cX11_lost 7 D dA b0 ad) (hr : meth.sig.returnType = (some .int)) {h : wSt} {v2 : Int32} {v3 : Int32} {v4 : Int32} {v1 : Int32} {v5 : Int32} {K : (Int32 × Int32) ⊕ ((Int32)) → Prop} (hN : ∀ (n1 : Int32) (n5 : Int32), K (.inl (n1, n5)) → wM p l e (wR 6) s m args below meth c 0 0 (wE below args s D dA b0 ad S0 F) 7 D dA b0 ad S0 52 [some (.ref 188), some (.int n1), some (.int v2), some (.int v3), some (.int v4), some (.int n5), none] [] h) (hX0 : ∀ (n1 : Int32), K (.inr n1) → wM p l e (wR 6) s m args below meth c 0 0 (wE below args s D dA b0 ad S0 F) 7 D dA b0 ad S0 79 [some (.ref 188), some (.int n1), some (.int v2), some (.int v3), some (.int v4), none, none] [] h) (hf : wok (fX11_lost_l52 h v2 v3 v4 v1 v5) K) : wM p l e (wR 6) s m args below meth c 0 0 (wE below args s D dA b0 ad S0 F) 7 D dA b0 ad S0 52 [some (.ref 188), some (.int v1), some (.int v2), some (.int v3), some (.int v4), some (.int v5), none] [] h := by
  unfold fX11_lost_l52 at hf
  refine w_iload X dX11_lost_52 rfl rfl ?_
  refine w_if_le X dX11_lost_54 rfl (t := 79) rfl (fun hc => ?_) (fun hc => ?_)
  · have hf := wok_t hf hc
    refine w_fg (ls2 := [some (.ref 188), some (.int v1), some (.int v2), some (.int v3), some (.int v4), none, none]) ⟨rfl, rfl, rfl, rfl, rfl, trivial⟩ ?_
    exact hX0 _ (wok_s hf)
  · have hf := wok_f hf hc
    refine w_iload_n X dX11_lost_57 rfl rfl rfl ?_
    refine w_iconst X dX11_lost_58 rfl ci_1 ?_
    refine w_iload X dX11_lost_59 rfl rfl ?_
    refine w_bipush X dX11_lost_61 rfl cb_7 ?_
    refine w_irem X dX11_lost_63 rfl (by decide) ?_
    refine w_iconst X dX11_lost_64 rfl ci_1 ?_
    refine w_isub X dX11_lost_65 rfl ?_
    refine w_ishl X dX11_lost_66 rfl ?_
    refine w_ior X dX11_lost_67 rfl ?_
    refine w_topi (fun yx25 eyx25 => ?_)
    have hf := wok_l hf eyx25
    refine w_istore_n X dX11_lost_68 rfl rfl rfl (Nat.le_of_ble_eq_true rfl) (ls' := [some (.ref 188), some (.int yx25), some (.int v2), some (.int v3), some (.int v4), some (.int v5), none]) rfl ?_
    refine w_iload X dX11_lost_69 rfl rfl ?_
    refine w_bipush X dX11_lost_71 rfl cb_7 ?_
    refine w_idiv X dX11_lost_73 rfl (by decide) ?_
    refine w_istore X dX11_lost_74 rfl rfl (Nat.le_of_ble_eq_true rfl) (ls' := [some (.ref 188), some (.int yx25), some (.int v2), some (.int v3), some (.int v4), some (.int (v5 / 7)), none]) rfl ?_
    refine w_goto X dX11_lost_76 (t := 52) rfl ?_
    exact hN _ _ (wok_s hf)
set_option maxRecDepth 4000 in
theorem pX11_lost_l52 (X : wCx p s m args meth c RX11 cX11_lost 7 D dA b0 ad) (hr : meth.sig.returnType = (some .int)) {h : wSt} {v2 : Int32} {v3 : Int32} {v4 : Int32} {KE : (Int32) → Prop} (hX0 : ∀ (n1 : Int32), KE (n1) → wM p l e (wR 6) s m args below meth c 0 0 (wE below args s D dA b0 ad S0 F) 7 D dA b0 ad S0 79 [some (.ref 188), some (.int n1), some (.int v2), some (.int v3), some (.int v4), none, none] [] h) : ∀ (n : Nat) (v1 : Int32) (v5 : Int32), wok (wit (fun v : (Int32 × Int32) => fX11_lost_l52 h v2 v3 v4 v.1 v.2) n (v1, v5)) KE → wM p l e (wR 6) s m args below meth c 0 0 (wE below args s D dA b0 ad S0 F) 7 D dA b0 ad S0 52 [some (.ref 188), some (.int v1), some (.int v2), some (.int v3), some (.int v4), some (.int v5), none] [] h := by
  have key := wit_M (b := (fun v : (Int32 × Int32) => fX11_lost_l52 h v2 v3 v4 v.1 v.2)) (KE := KE) (G := fun v => wM p l e (wR 6) s m args below meth c 0 0 (wE below args s D dA b0 ad S0 F) 7 D dA b0 ad S0 52 [some (.ref 188), some (.int v.1), some (.int v2), some (.int v3), some (.int v4), some (.int v.2), none] [] h) (fun v K hN hE hf => pX11_lost_l52b X hr  (fun n1 n5 hz => hN (n1, n5) hz) (fun z0 hz => hX0 z0 (hE _ hz)) hf)
  exact fun n v1 v5 hf => key n (v1, v5) hf
set_option maxRecDepth 4000 in
theorem pX11_lost_b114_82 (X : wCx p s m args meth c RX11 cX11_lost 7 D dA b0 ad) (hr : meth.sig.returnType = (some .int)) {h : wSt} {v1 : Int32} {v3 : Int32} {v4 : Int32} {v5 : Int32} {w0 : Int32} {w1 : Int32} {K : (Int32 × Int32 × wSt) ⊕ ((Int32 × wSt)) → Prop} (hN : ∀ (n2 : Int32) (n5 : Int32) (nh : wSt), K (.inl (n2, n5, nh)) → wM p l e (wR 6) s m args below meth c 0 0 (wE below args s D dA b0 ad S0 F) 7 D dA b0 ad S0 82 [some (.ref 188), some (.int v1), some (.int n2), some (.int v3), some (.int v4), some (.int n5), none] [] nh) (hX0 : ∀ (n2 : Int32) (nh : wSt), K (.inr (n2, nh)) → wM p l e (wR 6) s m args below meth c 0 0 (wE below args s D dA b0 ad S0 F) 7 D dA b0 ad S0 122 [some (.ref 188), some (.int v1), some (.int n2), some (.int v3), some (.int v4), none, none] [] nh) (hf : wok (fX11_lost_b114_82 h v1 v3 v4 v5 w0 w1) K) : wM p l e (wR 6) s m args below meth c 0 0 (wE below args s D dA b0 ad S0 F) 7 D dA b0 ad S0 114 [some (.ref 188), some (.int v1), none, some (.int v3), some (.int v4), some (.int v5), none] [.int w1, .int w0] h := by
  unfold fX11_lost_b114_82 at hf
  refine w_ior X dX11_lost_114 rfl ?_
  refine w_istore_n X dX11_lost_115 rfl rfl rfl (Nat.le_of_ble_eq_true rfl) (ls' := [some (.ref 188), some (.int v1), some (.int (w0 ||| w1)), some (.int v3), some (.int v4), some (.int v5), none]) rfl ?_
  refine w_iinc X dX11_lost_116 rfl (v := (v5 + 1)) rfl rfl (Nat.le_of_ble_eq_true rfl) (cinc_1 _) (ls' := [some (.ref 188), some (.int v1), some (.int (w0 ||| w1)), some (.int v3), some (.int v4), some (.int (v5 + 1)), none]) rfl ?_
  refine w_goto X dX11_lost_119 (t := 82) rfl ?_
  exact hN _ _ _ (wok_s hf)
set_option maxRecDepth 4000 in
theorem pX11_lost_l82b (X : wCx p s m args meth c RX11 cX11_lost 7 D dA b0 ad) (hr : meth.sig.returnType = (some .int)) {h : wSt} {v1 : Int32} {v3 : Int32} {v4 : Int32} {v2 : Int32} {v5 : Int32} {K : (Int32 × Int32 × wSt) ⊕ ((Int32 × wSt)) → Prop} (hN : ∀ (n2 : Int32) (n5 : Int32) (nh : wSt), K (.inl (n2, n5, nh)) → wM p l e (wR 6) s m args below meth c 0 0 (wE below args s D dA b0 ad S0 F) 7 D dA b0 ad S0 82 [some (.ref 188), some (.int v1), some (.int n2), some (.int v3), some (.int v4), some (.int n5), none] [] nh) (hX0 : ∀ (n2 : Int32) (nh : wSt), K (.inr (n2, nh)) → wM p l e (wR 6) s m args below meth c 0 0 (wE below args s D dA b0 ad S0 F) 7 D dA b0 ad S0 122 [some (.ref 188), some (.int v1), some (.int n2), some (.int v3), some (.int v4), none, none] [] nh) (hf : wok (fX11_lost_l82 h v1 v3 v4 v2 v5) K) : wM p l e (wR 6) s m args below meth c 0 0 (wE below args s D dA b0 ad S0 F) 7 D dA b0 ad S0 82 [some (.ref 188), some (.int v1), some (.int v2), some (.int v3), some (.int v4), some (.int v5), none] [] h := by
  unfold fX11_lost_l82 at hf
  refine w_iload X dX11_lost_82 rfl rfl ?_
  refine w_bipush X dX11_lost_84 rfl cb_10 ?_
  refine w_icmp_ge X dX11_lost_86 rfl (t := 122) rfl (fun hc => ?_) (fun hc => ?_)
  · have hf := wok_t hf hc
    refine w_fg (ls2 := [some (.ref 188), some (.int v1), some (.int v2), some (.int v3), some (.int v4), none, none]) ⟨rfl, rfl, rfl, rfl, rfl, trivial⟩ ?_
    exact hX0 _ _ (wok_s hf)
  · have hf := wok_f hf hc
    refine w_aload_n X dX11_lost_89 rfl rfl rfl ?_
    refine w_iload_n X dX11_lost_90 rfl rfl rfl ?_
    refine w_iload X dX11_lost_91 rfl rfl ?_
    refine w_iload X dX11_lost_93 rfl rfl ?_
    obtain ⟨yr28, eyr28, hf⟩ := wok_b hf
    refine w_callV X dX11_lost_95 rfl vl_X11_363 (kX11_readBy l  eyr28) S0_188 (As := [.int v3, .int v4, .int v5]) (st := []) rfl rfl (Nat.le_of_ble_eq_true rfl) ⟨Nat.le_of_ble_eq_true rfl, Nat.le_of_ble_eq_true rfl⟩ ⟨Nat.zero_le _, Nat.zero_le _⟩ (fun r h2 hF => ?_)
    obtain ⟨_, rfl, rfl, rfl⟩ := hF
    show wM p l e (wR 6) s m args below meth c 0 0 (wE below args s D dA b0 ad S0 F) 7 D dA b0 ad S0 98 [some (.ref 188), some (.int v1), some (.int v2), some (.int v3), some (.int v4), some (.int v5), none] [.int yr28.1] yr28.2
    refine w_istore X dX11_lost_98 rfl rfl (Nat.le_of_ble_eq_true rfl) (ls' := [some (.ref 188), some (.int v1), some (.int v2), some (.int v3), some (.int v4), some (.int v5), some (.int yr28.1)]) rfl ?_
    refine w_iload_n X dX11_lost_100 rfl rfl rfl ?_
    refine w_iload X dX11_lost_101 rfl rfl ?_
    refine w_if_ge X dX11_lost_103 rfl (t := 110) rfl (fun hc => ?_) (fun hc => ?_)
    · have hf := wok_t hf hc
      refine w_iconst X dX11_lost_110 rfl ci_1 ?_
      refine w_iload X dX11_lost_111 rfl rfl ?_
      refine w_ishl X dX11_lost_113 rfl ?_
      refine w_fg (ls2 := [some (.ref 188), some (.int v1), none, some (.int v3), some (.int v4), some (.int v5), none]) ⟨rfl, rfl, rfl, rfl, rfl, trivial⟩ ?_
      exact pX11_lost_b114_82 X hr  hN hX0 hf
    · have hf := wok_f hf hc
      refine w_iconst X dX11_lost_106 rfl ci_0 ?_
      refine w_goto X dX11_lost_107 (t := 114) rfl ?_
      refine w_fg (ls2 := [some (.ref 188), some (.int v1), none, some (.int v3), some (.int v4), some (.int v5), none]) ⟨rfl, rfl, rfl, rfl, rfl, trivial⟩ ?_
      exact pX11_lost_b114_82 X hr  hN hX0 hf
set_option maxRecDepth 4000 in
theorem pX11_lost_l82 (X : wCx p s m args meth c RX11 cX11_lost 7 D dA b0 ad) (hr : meth.sig.returnType = (some .int))  {v1 : Int32} {v3 : Int32} {v4 : Int32} {KE : (Int32 × wSt) → Prop} (hX0 : ∀ (n2 : Int32) (nh : wSt), KE ((n2, nh)) → wM p l e (wR 6) s m args below meth c 0 0 (wE below args s D dA b0 ad S0 F) 7 D dA b0 ad S0 122 [some (.ref 188), some (.int v1), some (.int n2), some (.int v3), some (.int v4), none, none] [] nh) : ∀ (n : Nat) (v2 : Int32) (v5 : Int32) (h : wSt), wok (wit (fun v : (Int32 × Int32 × wSt) => fX11_lost_l82 v.2.2 v1 v3 v4 v.1 v.2.1) n (v2, v5, h)) KE → wM p l e (wR 6) s m args below meth c 0 0 (wE below args s D dA b0 ad S0 F) 7 D dA b0 ad S0 82 [some (.ref 188), some (.int v1), some (.int v2), some (.int v3), some (.int v4), some (.int v5), none] [] h := by
  have key := wit_M (b := (fun v : (Int32 × Int32 × wSt) => fX11_lost_l82 v.2.2 v1 v3 v4 v.1 v.2.1)) (KE := KE) (G := fun v => wM p l e (wR 6) s m args below meth c 0 0 (wE below args s D dA b0 ad S0 F) 7 D dA b0 ad S0 82 [some (.ref 188), some (.int v1), some (.int v.1), some (.int v3), some (.int v4), some (.int v.2.1), none] [] v.2.2) (fun v K hN hE hf => pX11_lost_l82b X hr  (fun n2 n5 nh hz => hN (n2, n5, nh) hz) (fun z0 z1 hz => hX0 z0 z1 (hE _ hz)) hf)
  exact fun n v2 v5 h hf => key n (v2, v5, h) hf
set_option maxRecDepth 4000 in
theorem pX11_lost_l24b (X : wCx p s m args meth c RX11 cX11_lost 7 D dA b0 ad) (hr : meth.sig.returnType = (some .int)) {h : wSt} {v3 : Int32} {v1 : Int32} {v2 : Int32} {v4 : Int32} {K : (Int32 × Int32 × Int32 × wSt) ⊕ ((Int32 × Int32 × wSt)) → Prop} (hN : ∀ (n1 : Int32) (n2 : Int32) (n4 : Int32) (nh : wSt), K (.inl (n1, n2, n4, nh)) → wM p l e (wR 6) s m args below meth c 0 0 (wE below args s D dA b0 ad S0 F) 7 D dA b0 ad S0 24 [some (.ref 188), some (.int n1), some (.int n2), some (.int v3), some (.int n4), none, none] [] nh) (hX0 : ∀ (n1 : Int32) (n2 : Int32) (nh : wSt), K (.inr (n1, n2, nh)) → wM p l e (wR 6) s m args below meth c 0 0 (wE below args s D dA b0 ad S0 F) 7 D dA b0 ad S0 128 [some (.ref 188), some (.int n1), some (.int n2), some (.int v3), none, none, none] [] nh) (hf : wok (fX11_lost_l24 h v3 v1 v2 v4) K) : wM p l e (wR 6) s m args below meth c 0 0 (wE below args s D dA b0 ad S0 F) 7 D dA b0 ad S0 24 [some (.ref 188), some (.int v1), some (.int v2), some (.int v3), some (.int v4), none, none] [] h := by
  unfold fX11_lost_l24 at hf
  refine w_iload X dX11_lost_24 rfl rfl ?_
  refine w_aload_n X dX11_lost_26 rfl rfl rfl ?_
  refine w_getR X dX11_lost_27 rfl fl_X11_23 S0_188 rfl ?_
  refine w_iload_n X dX11_lost_30 rfl rfl rfl ?_
  obtain ⟨yhg22, hf⟩ := wok_g hf
  refine w_iald X dX11_lost_31 rfl (j := v3.toNatClampNeg) rfl S0_193 yhg22 ?_
  refine w_icmp_ge X dX11_lost_32 rfl (t := 128) rfl (fun hc => ?_) (fun hc => ?_)
  · have hf := wok_t hf hc
    refine w_fg (ls2 := [some (.ref 188), some (.int v1), some (.int v2), some (.int v3), none, none, none]) ⟨rfl, rfl, rfl, rfl, trivial⟩ ?_
    exact hX0 _ _ _ (wok_s hf)
  · have hf := wok_f hf hc
    refine w_aload_n X dX11_lost_35 rfl rfl rfl ?_
    refine w_getR X dX11_lost_36 rfl fl_X11_120 S0_188 rfl ?_
    refine w_bipush X dX11_lost_39 rfl cb_7 ?_
    refine w_bipush X dX11_lost_41 rfl cb_6 ?_
    refine w_iload_n X dX11_lost_43 rfl rfl rfl ?_
    refine w_imul X dX11_lost_44 rfl ?_
    refine w_iadd X dX11_lost_45 rfl ?_
    refine w_iload X dX11_lost_46 rfl rfl ?_
    refine w_iadd X dX11_lost_48 rfl ?_
    obtain ⟨yhg23, hf⟩ := wok_g hf
    refine w_iald X dX11_lost_49 rfl (j := ((7 + (6 * v3)) + v4).toNatClampNeg) rfl S0_225 yhg23 ?_
    refine w_topi (fun yx24 eyx24 => ?_)
    have hf := wok_l hf eyx24
    refine w_istore X dX11_lost_50 rfl rfl (Nat.le_of_ble_eq_true rfl) (ls' := [some (.ref 188), some (.int v1), some (.int v2), some (.int v3), some (.int v4), some (.int yx24), none]) rfl ?_
    obtain ⟨ye26, hye26, hf⟩ := wok_b hf
    refine pX11_lost_l52 X hr  (KE := fun z => ye26 = z) ?_ 3000 _ _ ⟨ye26, hye26, rfl⟩
    · intro yz27 hz
      subst hz
      refine w_iconst X dX11_lost_79 rfl ci_0 ?_
      refine w_istore X dX11_lost_80 rfl rfl (Nat.le_of_ble_eq_true rfl) (ls' := [some (.ref 188), some (.int ye26), some (.int v2), some (.int v3), some (.int v4), some (.int 0), none]) rfl ?_
      obtain ⟨ye29, hye29, hf⟩ := wok_b hf
      refine pX11_lost_l82 X hr  (KE := fun z => ye29 = z) ?_ 3000 _ _ _ ⟨ye29, hye29, rfl⟩
      · intro yz30 yz31 hz
        subst hz
        refine w_iinc X dX11_lost_122 rfl (v := (v4 + 1)) rfl rfl (Nat.le_of_ble_eq_true rfl) (cinc_1 _) (ls' := [some (.ref 188), some (.int ye26), some (.int yz30), some (.int v3), some (.int (v4 + 1)), none, none]) rfl ?_
        refine w_goto X dX11_lost_125 (t := 24) rfl ?_
        exact hN _ _ _ _ (wok_s hf)
set_option maxRecDepth 4000 in
theorem pX11_lost_l24 (X : wCx p s m args meth c RX11 cX11_lost 7 D dA b0 ad) (hr : meth.sig.returnType = (some .int))  {v3 : Int32} {KE : (Int32 × Int32 × wSt) → Prop} (hX0 : ∀ (n1 : Int32) (n2 : Int32) (nh : wSt), KE ((n1, n2, nh)) → wM p l e (wR 6) s m args below meth c 0 0 (wE below args s D dA b0 ad S0 F) 7 D dA b0 ad S0 128 [some (.ref 188), some (.int n1), some (.int n2), some (.int v3), none, none, none] [] nh) : ∀ (n : Nat) (v1 : Int32) (v2 : Int32) (v4 : Int32) (h : wSt), wok (wit (fun v : (Int32 × Int32 × Int32 × wSt) => fX11_lost_l24 v.2.2.2 v3 v.1 v.2.1 v.2.2.1) n (v1, v2, v4, h)) KE → wM p l e (wR 6) s m args below meth c 0 0 (wE below args s D dA b0 ad S0 F) 7 D dA b0 ad S0 24 [some (.ref 188), some (.int v1), some (.int v2), some (.int v3), some (.int v4), none, none] [] h := by
  have key := wit_M (b := (fun v : (Int32 × Int32 × Int32 × wSt) => fX11_lost_l24 v.2.2.2 v3 v.1 v.2.1 v.2.2.1)) (KE := KE) (G := fun v => wM p l e (wR 6) s m args below meth c 0 0 (wE below args s D dA b0 ad S0 F) 7 D dA b0 ad S0 24 [some (.ref 188), some (.int v.1), some (.int v.2.1), some (.int v3), some (.int v.2.2.1), none, none] [] v.2.2.2) (fun v K hN hE hf => pX11_lost_l24b X hr  (fun n1 n2 n4 nh hz => hN (n1, n2, n4, nh) hz) (fun z0 z1 z2 hz => hX0 z0 z1 z2 (hE _ hz)) hf)
  exact fun n v1 v2 v4 h hf => key n (v1, v2, v4, h) hf
set_option maxRecDepth 4000 in
theorem pX11_lost_l11b (X : wCx p s m args meth c RX11 cX11_lost 7 D dA b0 ad) (hr : meth.sig.returnType = (some .int)) {h : wSt} {v1 : Int32} {v2 : Int32} {v3 : Int32} {K : (Int32 × Int32 × Int32 × wSt) ⊕ ((Int32 × Int32 × wSt)) → Prop} (hN : ∀ (n1 : Int32) (n2 : Int32) (n3 : Int32) (nh : wSt), K (.inl (n1, n2, n3, nh)) → wM p l e (wR 6) s m args below meth c 0 0 (wE below args s D dA b0 ad S0 F) 7 D dA b0 ad S0 11 [some (.ref 188), some (.int n1), some (.int n2), some (.int n3), none, none, none] [] nh) (hX0 : ∀ (n1 : Int32) (n2 : Int32) (nh : wSt), K (.inr (n1, n2, nh)) → wM p l e (wR 6) s m args below meth c 0 0 (wE below args s D dA b0 ad S0 F) 7 D dA b0 ad S0 134 [none, some (.int n1), some (.int n2), none, none, none, none] [] nh) (hf : wok (fX11_lost_l11 h v1 v2 v3) K) : wM p l e (wR 6) s m args below meth c 0 0 (wE below args s D dA b0 ad S0 F) 7 D dA b0 ad S0 11 [some (.ref 188), some (.int v1), some (.int v2), some (.int v3), none, none, none] [] h := by
  unfold fX11_lost_l11 at hf
  refine w_iload_n X dX11_lost_11 rfl rfl rfl ?_
  refine w_aload_n X dX11_lost_12 rfl rfl rfl ?_
  refine w_getR X dX11_lost_13 rfl fl_X11_13 S0_188 rfl ?_
  refine w_iconst X dX11_lost_16 rfl ci_0 ?_
  refine w_iald X dX11_lost_17 rfl (j := 0) cn_0 S0_190 (show wib 0 6 by decide) ?_
  refine w_icmp_ge X dX11_lost_18 rfl (t := 134) rfl (fun hc => ?_) (fun hc => ?_)
  · have hf := wok_t hf hc
    refine w_fg (ls2 := [none, some (.int v1), some (.int v2), none, none, none, none]) ⟨rfl, rfl, trivial⟩ ?_
    exact hX0 _ _ _ (wok_s hf)
  · have hf := wok_f hf hc
    refine w_iconst X dX11_lost_21 rfl ci_0 ?_
    refine w_istore X dX11_lost_22 rfl rfl (Nat.le_of_ble_eq_true rfl) (ls' := [some (.ref 188), some (.int v1), some (.int v2), some (.int v3), some (.int 0), none, none]) rfl ?_
    obtain ⟨ye32, hye32, hf⟩ := wok_b hf
    refine pX11_lost_l24 X hr  (KE := fun z => ye32 = z) ?_ 3000 _ _ _ _ ⟨ye32, hye32, rfl⟩
    · intro yz33 yz34 yz35 hz
      subst hz
      refine w_iinc X dX11_lost_128 rfl (v := (v3 + 1)) rfl rfl (Nat.le_of_ble_eq_true rfl) (cinc_1 _) (ls' := [some (.ref 188), some (.int yz33), some (.int yz34), some (.int (v3 + 1)), none, none, none]) rfl ?_
      refine w_goto X dX11_lost_131 (t := 11) rfl ?_
      exact hN _ _ _ _ (wok_s hf)
set_option maxRecDepth 4000 in
theorem pX11_lost_l11 (X : wCx p s m args meth c RX11 cX11_lost 7 D dA b0 ad) (hr : meth.sig.returnType = (some .int))  {KE : (Int32 × Int32 × wSt) → Prop} (hX0 : ∀ (n1 : Int32) (n2 : Int32) (nh : wSt), KE ((n1, n2, nh)) → wM p l e (wR 6) s m args below meth c 0 0 (wE below args s D dA b0 ad S0 F) 7 D dA b0 ad S0 134 [none, some (.int n1), some (.int n2), none, none, none, none] [] nh) : ∀ (n : Nat) (v1 : Int32) (v2 : Int32) (v3 : Int32) (h : wSt), wok (wit (fun v : (Int32 × Int32 × Int32 × wSt) => fX11_lost_l11 v.2.2.2 v.1 v.2.1 v.2.2.1) n (v1, v2, v3, h)) KE → wM p l e (wR 6) s m args below meth c 0 0 (wE below args s D dA b0 ad S0 F) 7 D dA b0 ad S0 11 [some (.ref 188), some (.int v1), some (.int v2), some (.int v3), none, none, none] [] h := by
  have key := wit_M (b := (fun v : (Int32 × Int32 × Int32 × wSt) => fX11_lost_l11 v.2.2.2 v.1 v.2.1 v.2.2.1)) (KE := KE) (G := fun v => wM p l e (wR 6) s m args below meth c 0 0 (wE below args s D dA b0 ad S0 F) 7 D dA b0 ad S0 11 [some (.ref 188), some (.int v.1), some (.int v.2.1), some (.int v.2.2.1), none, none, none] [] v.2.2.2) (fun v K hN hE hf => pX11_lost_l11b X hr  (fun n1 n2 n3 nh hz => hN (n1, n2, n3, nh) hz) (fun z0 z1 z2 hz => hX0 z0 z1 z2 (hE _ hz)) hf)
  exact fun n v1 v2 v3 h hf => key n (v1, v2, v3, h) hf
set_option maxRecDepth 4000 in
theorem pX11_lost_b0 (X : wCx p s m args meth c RX11 cX11_lost 7 D dA b0 ad) (hr : meth.sig.returnType = (some .int)) {h : wSt} {K : Int32 × wSt → Prop} (hT : ∀ (x : Int32) (h2 : wSt), K (x, h2) → F (some (.int x)) h2) (hf : wok (fX11_lost h ) K) : wM p l e (wR 6) s m args below meth c 0 0 (wE below args s D dA b0 ad S0 F) 7 D dA b0 ad S0 0 [some (.ref 188), none, none, none, none, none, none] [] h := by
  unfold fX11_lost at hf
  refine w_aload_n X dX11_lost_0 rfl rfl rfl ?_
  refine w_iconst X dX11_lost_1 rfl ci_0 ?_
  refine w_putI X dX11_lost_2 rfl fp_X11_144 S0_188 rfl ?_
  refine w_nmh (fun yh21 eyh21 => ?_)
  have hf := wok_l hf eyh21
  refine w_iconst X dX11_lost_5 rfl ci_0 ?_
  refine w_istore_n X dX11_lost_6 rfl rfl rfl (Nat.le_of_ble_eq_true rfl) (ls' := [some (.ref 188), some (.int 0), none, none, none, none, none]) rfl ?_
  refine w_iconst X dX11_lost_7 rfl ci_0 ?_
  refine w_istore_n X dX11_lost_8 rfl rfl rfl (Nat.le_of_ble_eq_true rfl) (ls' := [some (.ref 188), some (.int 0), some (.int 0), none, none, none, none]) rfl ?_
  refine w_iconst X dX11_lost_9 rfl ci_0 ?_
  refine w_istore_n X dX11_lost_10 rfl rfl rfl (Nat.le_of_ble_eq_true rfl) (ls' := [some (.ref 188), some (.int 0), some (.int 0), some (.int 0), none, none, none]) rfl ?_
  obtain ⟨ye36, hye36, hf⟩ := wok_b hf
  refine pX11_lost_l11 X hr  (KE := fun z => ye36 = z) ?_ 3000 _ _ _ _ ⟨ye36, hye36, rfl⟩
  · intro yz37 yz38 yz39 hz
    subst hz
    refine w_iload_n X dX11_lost_134 rfl rfl rfl ?_
    refine w_iload_n X dX11_lost_135 rfl rfl rfl ?_
    refine w_iconst X dX11_lost_136 rfl ci_m1 ?_
    refine w_ixor X dX11_lost_137 rfl ?_
    refine w_iand X dX11_lost_138 rfl ?_
    exact w_iret X dX11_lost_139 hr (hT _ _ (wok_s hf))
set_option maxRecDepth 4000 in
theorem kX11_lost (l : Launch) {h : wSt} {res : Int32 × wSt} (hf : fX11_lost h  = some res) : wC l yX11_lost cX11_lost 7 (some .int) 6 S0 [.ref 188] h (wFI (fun a b => res.1 = a ∧ res.2 = b)) := by
  refine w_meth2 6 (by decide) (Nat.le_of_ble_eq_true rfl) (ls := [some (.ref 188), none, none, none, none, none, none]) rfl ?_
  intro p e s m args below meth c D dA b0 ad X hr
  exact pX11_lost_b0 X hr  (K := fun z => res = z) (fun x h2 hz => ⟨x, rfl, by rw [hz], by rw [hz]⟩) ⟨res, hf, rfl⟩
set_option maxRecDepth 4000 in
theorem pX11_place_b0 (X : wCx p s m args meth c RX11 cX11_place 3 D dA b0 ad) (hr : meth.sig.returnType = (some .int)) {h : wSt} {x0 : Int32} {x1 : Int32} {K : Int32 × wSt → Prop} (hT : ∀ (x : Int32) (h2 : wSt), K (x, h2) → F (some (.int x)) h2) (hf : wok (fX11_place h x0 x1) K) : wM p l e (wR 3) s m args below meth c 0 0 (wE below args s D dA b0 ad S0 F) 3 D dA b0 ad S0 0 [some (.ref 188), some (.int x0), some (.int x1)] [] h := by
  unfold fX11_place at hf
  refine w_aload_n X dX11_place_0 rfl rfl rfl ?_
  refine w_iconst X dX11_place_1 rfl ci_0 ?_
  refine w_putI X dX11_place_2 rfl fp_X11_144 S0_188 rfl ?_
  refine w_nmh (fun yh21 eyh21 => ?_)
  have hf := wok_l hf eyh21
  refine w_aload_n X dX11_place_5 rfl rfl rfl ?_
  refine w_iload_n X dX11_place_6 rfl rfl rfl ?_
  obtain ⟨yr22, eyr22, hf⟩ := wok_b hf
  refine w_callV X dX11_place_7 rfl vl_X11_387 (kX11_isText l  eyr22) S0_188 (As := [.int x0]) (st := []) rfl rfl (Nat.le_of_ble_eq_true rfl) ⟨Nat.le_of_ble_eq_true rfl, Nat.le_of_ble_eq_true rfl⟩ ⟨Nat.zero_le _, Nat.zero_le _⟩ (fun r h2 hF => ?_)
  obtain ⟨_, rfl, rfl, rfl⟩ := hF
  show wM p l e (wR 3) s m args below meth c 0 0 (wE below args s D dA b0 ad S0 F) 3 D dA b0 ad S0 10 [some (.ref 188), some (.int x0), some (.int x1)] [.int (wb yr22)] yh21
  refine w_if_eq X dX11_place_10 rfl (t := 30) rfl (fun hc => ?_) (fun hc => ?_)
  · have hf := wok_f hf (wb_0 hc)
    refine w_iconst X dX11_place_30 rfl ci_m1 ?_
    exact w_iret X dX11_place_31 hr (hT _ _ (wok_s hf))
  · have hf := wok_t hf (wb_n0 hc)
    refine w_aload_n X dX11_place_13 rfl rfl rfl ?_
    refine w_iload_n X dX11_place_14 rfl rfl rfl ?_
    obtain ⟨yr23, eyr23, hf⟩ := wok_b hf
    refine w_callV X dX11_place_15 rfl vl_X11_353 (kX11_isSkin l  eyr23) S0_188 (As := [.int x1]) (st := []) rfl rfl (Nat.le_of_ble_eq_true rfl) ⟨Nat.le_of_ble_eq_true rfl, Nat.le_of_ble_eq_true rfl⟩ ⟨Nat.zero_le _, Nat.zero_le _⟩ (fun r h2 hF => ?_)
    obtain ⟨_, rfl, rfl, rfl⟩ := hF
    show wM p l e (wR 3) s m args below meth c 0 0 (wE below args s D dA b0 ad S0 F) 3 D dA b0 ad S0 18 [some (.ref 188), some (.int x0), some (.int x1)] [.int (wb yr23)] yh21
    refine w_if_eq X dX11_place_18 rfl (t := 30) rfl (fun hc => ?_) (fun hc => ?_)
    · have hf := wok_f hf (wb_0 hc)
      refine w_iconst X dX11_place_30 rfl ci_m1 ?_
      exact w_iret X dX11_place_31 hr (hT _ _ (wok_s hf))
    · have hf := wok_t hf (wb_n0 hc)
      refine w_aload_n X dX11_place_21 rfl rfl rfl ?_
      refine w_iload_n X dX11_place_22 rfl rfl rfl ?_
      refine w_iload_n X dX11_place_23 rfl rfl rfl ?_
      obtain ⟨yr24, eyr24, hf⟩ := wok_b hf
      refine w_callV X dX11_place_24 rfl vl_X11_428 (kX11_placeOf l  eyr24) S0_188 (As := [.int x0, .int x1]) (st := []) rfl rfl (Nat.le_of_ble_eq_true rfl) ⟨Nat.le_of_ble_eq_true rfl, Nat.le_of_ble_eq_true rfl⟩ ⟨Nat.zero_le _, Nat.zero_le _⟩ (fun r h2 hF => ?_)
      obtain ⟨_, rfl, rfl, rfl⟩ := hF
      show wM p l e (wR 3) s m args below meth c 0 0 (wE below args s D dA b0 ad S0 F) 3 D dA b0 ad S0 27 [some (.ref 188), some (.int x0), some (.int x1)] [.int yr24] yh21
      refine w_goto X dX11_place_27 (t := 31) rfl ?_
      exact w_iret X dX11_place_31 hr (hT _ _ (wok_s hf))
set_option maxRecDepth 4000 in
theorem kX11_place (l : Launch) {h : wSt} {x0 : Int32} {x1 : Int32} {res : Int32 × wSt} (hf : fX11_place h x0 x1 = some res) : wC l yX11_place cX11_place 3 (some .int) 3 S0 [.ref 188, .int x0, .int x1] h (wFI (fun a b => res.1 = a ∧ res.2 = b)) := by
  refine w_meth2 0 (by decide) (Nat.le_of_ble_eq_true rfl) (ls := [some (.ref 188), some (.int x0), some (.int x1)]) rfl ?_
  intro p e s m args below meth c D dA b0 ad X hr
  exact pX11_place_b0 X hr  (K := fun z => res = z) (fun x h2 hz => ⟨x, rfl, by rw [hz], by rw [hz]⟩) ⟨res, hf, rfl⟩
set_option maxRecDepth 4000 in
theorem pX11_costBy_b61 (X : wCx p s m args meth c RX11 cX11_costBy 6 D dA b0 ad) (hr : meth.sig.returnType = (some .int)) {h : wSt} {v4 : Int32} {w0 : Int32} {K : Int32 × wSt → Prop} (hT : ∀ (x : Int32) (h2 : wSt), K (x, h2) → F (some (.int x)) h2)  (hf : wok (fX11_costBy_b61 h v4 w0) K) : wM p l e (wR 3) s m args below meth c 0 0 (wE below args s D dA b0 ad S0 F) 6 D dA b0 ad S0 61 [some (.ref 188), none, none, none, some (.int v4), none] [.int w0] h := by
  unfold fX11_costBy_b61 at hf
  refine w_istore X dX11_costBy_61 rfl rfl (Nat.le_of_ble_eq_true rfl) (ls' := [some (.ref 188), none, none, none, some (.int v4), some (.int w0)]) rfl ?_
  refine w_aload_n X dX11_costBy_63 rfl rfl rfl ?_
  refine w_getR X dX11_costBy_64 rfl fl_X11_126 S0_188 rfl ?_
  refine w_iconst X dX11_costBy_67 rfl ci_0 ?_
  refine w_aload_n X dX11_costBy_68 rfl rfl rfl ?_
  refine w_getR X dX11_costBy_69 rfl fl_X11_120 S0_188 rfl ?_
  refine w_iconst X dX11_costBy_72 rfl ci_0 ?_
  obtain ⟨yr26, eyr26, hf⟩ := wok_b hf
  refine w_callS X dX11_costBy_73 rfl sl_X11_405 (kX11_copies l S0_227 S0_225 eyr26) (As := [.ref 227, .int 0, .ref 225, .int 0]) (st := []) rfl rfl (Nat.le_of_ble_eq_true rfl) ⟨Nat.le_of_ble_eq_true rfl, Nat.le_of_ble_eq_true rfl⟩ ⟨Nat.zero_le _, Nat.zero_le _⟩ (fun r h2 hF => ?_)
  obtain ⟨rfl, rfl⟩ := hF
  show wM p l e (wR 3) s m args below meth c 0 0 (wE below args s D dA b0 ad S0 F) 6 D dA b0 ad S0 76 [some (.ref 188), none, none, none, some (.int v4), some (.int w0)] [] yr26
  refine w_iload X dX11_costBy_76 rfl rfl ?_
  refine w_if_eq X dX11_costBy_78 rfl (t := 86) rfl (fun hc => ?_) (fun hc => ?_)
  · have hf := wok_t hf hc
    refine w_iconst X dX11_costBy_86 rfl ci_m1 ?_
    exact w_iret X dX11_costBy_87 hr (hT _ _ (wok_s hf))
  · have hf := wok_f hf hc
    refine w_iload X dX11_costBy_81 rfl rfl ?_
    refine w_goto X dX11_costBy_83 (t := 87) rfl ?_
    exact w_iret X dX11_costBy_87 hr (hT _ _ (wok_s hf))
set_option maxRecDepth 4000 in
theorem pX11_costBy_b0 (X : wCx p s m args meth c RX11 cX11_costBy 6 D dA b0 ad) (hr : meth.sig.returnType = (some .int)) {h : wSt} {x0 : Int32} {x1 : Int32} {x2 : Int32} {K : Int32 × wSt → Prop} (hT : ∀ (x : Int32) (h2 : wSt), K (x, h2) → F (some (.int x)) h2) (hf : wok (fX11_costBy h x0 x1 x2) K) : wM p l e (wR 3) s m args below meth c 0 0 (wE below args s D dA b0 ad S0 F) 6 D dA b0 ad S0 0 [some (.ref 188), some (.int x0), some (.int x1), some (.int x2), none, none] [] h := by
  unfold fX11_costBy at hf
  refine w_aload_n X dX11_costBy_0 rfl rfl rfl ?_
  refine w_iload_n X dX11_costBy_1 rfl rfl rfl ?_
  refine w_iload_n X dX11_costBy_2 rfl rfl rfl ?_
  obtain ⟨yr21, eyr21, hf⟩ := wok_b hf
  refine w_callV X dX11_costBy_3 rfl vl_X11_374 (kX11_scrapedBy l  eyr21) S0_188 (As := [.int x1, .int x2]) (st := []) rfl rfl (Nat.le_of_ble_eq_true rfl) ⟨Nat.le_of_ble_eq_true rfl, Nat.le_of_ble_eq_true rfl⟩ ⟨Nat.zero_le _, Nat.zero_le _⟩ (fun r h2 hF => ?_)
  obtain ⟨_, rfl, rfl, rfl⟩ := hF
  show wM p l e (wR 3) s m args below meth c 0 0 (wE below args s D dA b0 ad S0 F) 6 D dA b0 ad S0 6 [some (.ref 188), some (.int x0), some (.int x1), some (.int x2), none, none] [.int yr21] h
  refine w_istore X dX11_costBy_6 rfl rfl (Nat.le_of_ble_eq_true rfl) (ls' := [some (.ref 188), some (.int x0), some (.int x1), some (.int x2), some (.int yr21), none]) rfl ?_
  refine w_iload X dX11_costBy_8 rfl rfl ?_
  refine w_if_eq X dX11_costBy_10 rfl (t := 26) rfl (fun hc => ?_) (fun hc => ?_)
  · have hf := wok_t hf hc
    refine w_iconst X dX11_costBy_26 rfl ci_m1 ?_
    exact w_iret X dX11_costBy_27 hr (hT _ _ (wok_s hf))
  · have hf := wok_f hf hc
    refine w_iload X dX11_costBy_13 rfl rfl ?_
    refine w_aload_n X dX11_costBy_15 rfl rfl rfl ?_
    refine w_getR X dX11_costBy_16 rfl fl_X11_120 S0_188 rfl ?_
    refine w_iconst X dX11_costBy_19 rfl ci_1 ?_
    refine w_iload_n X dX11_costBy_20 rfl rfl rfl ?_
    refine w_iadd X dX11_costBy_21 rfl ?_
    obtain ⟨yhg22, hf⟩ := wok_g hf
    refine w_iald X dX11_costBy_22 rfl (j := (1 + x1).toNatClampNeg) rfl S0_225 yhg22 ?_
    refine w_icmp_lt X dX11_costBy_23 rfl (t := 28) rfl (fun hc => ?_) (fun hc => ?_)
    · have hf := wok_t hf hc
      refine w_aload_n X dX11_costBy_28 rfl rfl rfl ?_
      refine w_getR X dX11_costBy_29 rfl fl_X11_120 S0_188 rfl ?_
      refine w_iconst X dX11_costBy_32 rfl ci_0 ?_
      refine w_aload_n X dX11_costBy_33 rfl rfl rfl ?_
      refine w_getR X dX11_costBy_34 rfl fl_X11_126 S0_188 rfl ?_
      refine w_iconst X dX11_costBy_37 rfl ci_0 ?_
      obtain ⟨yr23, eyr23, hf⟩ := wok_b hf
      refine w_callS X dX11_costBy_38 rfl sl_X11_405 (kX11_copies l S0_225 S0_227 eyr23) (As := [.ref 225, .int 0, .ref 227, .int 0]) (st := []) rfl rfl (Nat.le_of_ble_eq_true rfl) ⟨Nat.le_of_ble_eq_true rfl, Nat.le_of_ble_eq_true rfl⟩ ⟨Nat.zero_le _, Nat.zero_le _⟩ (fun r h2 hF => ?_)
      obtain ⟨rfl, rfl⟩ := hF
      show wM p l e (wR 3) s m args below meth c 0 0 (wE below args s D dA b0 ad S0 F) 6 D dA b0 ad S0 41 [some (.ref 188), some (.int x0), some (.int x1), some (.int x2), some (.int yr21), none] [] yr23
      refine w_aload_n X dX11_costBy_41 rfl rfl rfl ?_
      refine w_iload_n X dX11_costBy_42 rfl rfl rfl ?_
      refine w_iload_n X dX11_costBy_43 rfl rfl rfl ?_
      obtain ⟨yr24, eyr24, hf⟩ := wok_b hf
      refine w_callV X dX11_costBy_44 rfl vl_X11_416 (kX11_scrapes l  eyr24) S0_188 (As := [.int x1, .int x2]) (st := []) rfl rfl (Nat.le_of_ble_eq_true rfl) ⟨Nat.le_of_ble_eq_true rfl, Nat.le_of_ble_eq_true rfl⟩ ⟨Nat.zero_le _, Nat.zero_le _⟩ (fun r h2 hF => ?_)
      obtain ⟨rfl, rfl⟩ := hF
      show wM p l e (wR 3) s m args below meth c 0 0 (wE below args s D dA b0 ad S0 F) 6 D dA b0 ad S0 47 [some (.ref 188), some (.int x0), some (.int x1), some (.int x2), some (.int yr21), none] [] yr24
      refine w_aload_n X dX11_costBy_47 rfl rfl rfl ?_
      refine w_iload_n X dX11_costBy_48 rfl rfl rfl ?_
      refine w_iload_n X dX11_costBy_49 rfl rfl rfl ?_
      obtain ⟨yr25, eyr25, hf⟩ := wok_b hf
      refine w_callV X dX11_costBy_50 rfl vl_X11_428 (kX11_placeOf l  eyr25) S0_188 (As := [.int x0, .int x1]) (st := []) rfl rfl (Nat.le_of_ble_eq_true rfl) ⟨Nat.le_of_ble_eq_true rfl, Nat.le_of_ble_eq_true rfl⟩ ⟨Nat.zero_le _, Nat.zero_le _⟩ (fun r h2 hF => ?_)
      obtain ⟨_, rfl, rfl, rfl⟩ := hF
      show wM p l e (wR 3) s m args below meth c 0 0 (wE below args s D dA b0 ad S0 F) 6 D dA b0 ad S0 53 [some (.ref 188), some (.int x0), some (.int x1), some (.int x2), some (.int yr21), none] [.int yr25] yr24
      refine w_if_lt X dX11_costBy_53 rfl (t := 60) rfl (fun hc => ?_) (fun hc => ?_)
      · have hf := wok_t hf hc
        refine w_iconst X dX11_costBy_60 rfl ci_0 ?_
        refine w_fg (ls2 := [some (.ref 188), none, none, none, some (.int yr21), none]) ⟨rfl, rfl, trivial⟩ ?_
        exact pX11_costBy_b61 X hr  hT hf
      · have hf := wok_f hf hc
        refine w_iconst X dX11_costBy_56 rfl ci_1 ?_
        refine w_goto X dX11_costBy_57 (t := 61) rfl ?_
        refine w_fg (ls2 := [some (.ref 188), none, none, none, some (.int yr21), none]) ⟨rfl, rfl, trivial⟩ ?_
        exact pX11_costBy_b61 X hr  hT hf
    · have hf := wok_f hf hc
      refine w_iconst X dX11_costBy_26 rfl ci_m1 ?_
      exact w_iret X dX11_costBy_27 hr (hT _ _ (wok_s hf))
set_option maxRecDepth 4000 in
theorem kX11_costBy (l : Launch) {h : wSt} {x0 : Int32} {x1 : Int32} {x2 : Int32} {res : Int32 × wSt} (hf : fX11_costBy h x0 x1 x2 = some res) : wC l yX11_costBy cX11_costBy 6 (some .int) 3 S0 [.ref 188, .int x0, .int x1, .int x2] h (wFI (fun a b => res.1 = a ∧ res.2 = b)) := by
  refine w_meth2 2 (by decide) (Nat.le_of_ble_eq_true rfl) (ls := [some (.ref 188), some (.int x0), some (.int x1), some (.int x2), none, none]) rfl ?_
  intro p e s m args below meth c D dA b0 ad X hr
  exact pX11_costBy_b0 X hr  (K := fun z => res = z) (fun x h2 hz => ⟨x, rfl, by rw [hz], by rw [hz]⟩) ⟨res, hf, rfl⟩
set_option maxRecDepth 4000 in
theorem pX11_cost_b0 (X : wCx p s m args meth c RX11 cX11_cost 5 D dA b0 ad) (hr : meth.sig.returnType = (some .int)) {h : wSt} {x0 : Int32} {x1 : Int32} {K : Int32 × wSt → Prop} (hT : ∀ (x : Int32) (h2 : wSt), K (x, h2) → F (some (.int x)) h2) (hf : wok (fX11_cost h x0 x1) K) : wM p l e (wR 4) s m args below meth c 0 0 (wE below args s D dA b0 ad S0 F) 5 D dA b0 ad S0 0 [some (.ref 188), some (.int x0), some (.int x1), none, none] [] h := by
  unfold fX11_cost at hf
  refine w_aload_n X dX11_cost_0 rfl rfl rfl ?_
  refine w_iconst X dX11_cost_1 rfl ci_0 ?_
  refine w_putI X dX11_cost_2 rfl fp_X11_144 S0_188 rfl ?_
  refine w_nmh (fun yh21 eyh21 => ?_)
  have hf := wok_l hf eyh21
  refine w_aload_n X dX11_cost_5 rfl rfl rfl ?_
  refine w_iload_n X dX11_cost_6 rfl rfl rfl ?_
  obtain ⟨yr22, eyr22, hf⟩ := wok_b hf
  refine w_callV X dX11_cost_7 rfl vl_X11_387 (kX11_isText l  eyr22) S0_188 (As := [.int x0]) (st := []) rfl rfl (Nat.le_of_ble_eq_true rfl) ⟨Nat.le_of_ble_eq_true rfl, Nat.le_of_ble_eq_true rfl⟩ ⟨Nat.zero_le _, Nat.zero_le _⟩ (fun r h2 hF => ?_)
  obtain ⟨_, rfl, rfl, rfl⟩ := hF
  show wM p l e (wR 4) s m args below meth c 0 0 (wE below args s D dA b0 ad S0 F) 5 D dA b0 ad S0 10 [some (.ref 188), some (.int x0), some (.int x1), none, none] [.int (wb yr22)] yh21
  refine w_if_eq X dX11_cost_10 rfl (t := 21) rfl (fun hc => ?_) (fun hc => ?_)
  · have hf := wok_f hf (wb_0 hc)
    refine w_iconst X dX11_cost_21 rfl ci_m1 ?_
    exact w_iret X dX11_cost_22 hr (hT _ _ (wok_s hf))
  · have hf := wok_t hf (wb_n0 hc)
    refine w_aload_n X dX11_cost_13 rfl rfl rfl ?_
    refine w_iload_n X dX11_cost_14 rfl rfl rfl ?_
    obtain ⟨yr23, eyr23, hf⟩ := wok_b hf
    refine w_callV X dX11_cost_15 rfl vl_X11_353 (kX11_isSkin l  eyr23) S0_188 (As := [.int x1]) (st := []) rfl rfl (Nat.le_of_ble_eq_true rfl) ⟨Nat.le_of_ble_eq_true rfl, Nat.le_of_ble_eq_true rfl⟩ ⟨Nat.zero_le _, Nat.zero_le _⟩ (fun r h2 hF => ?_)
    obtain ⟨_, rfl, rfl, rfl⟩ := hF
    show wM p l e (wR 4) s m args below meth c 0 0 (wE below args s D dA b0 ad S0 F) 5 D dA b0 ad S0 18 [some (.ref 188), some (.int x0), some (.int x1), none, none] [.int (wb yr23)] yh21
    refine w_if_ne X dX11_cost_18 rfl (t := 23) rfl (fun hc => ?_) (fun hc => ?_)
    · have hf := wok_t hf (wb_n0 hc)
      refine w_aload_n X dX11_cost_23 rfl rfl rfl ?_
      refine w_iload_n X dX11_cost_24 rfl rfl rfl ?_
      refine w_iload_n X dX11_cost_25 rfl rfl rfl ?_
      obtain ⟨yr24, eyr24, hf⟩ := wok_b hf
      refine w_callV X dX11_cost_26 rfl vl_X11_428 (kX11_placeOf l  eyr24) S0_188 (As := [.int x0, .int x1]) (st := []) rfl rfl (Nat.le_of_ble_eq_true rfl) ⟨Nat.le_of_ble_eq_true rfl, Nat.le_of_ble_eq_true rfl⟩ ⟨Nat.zero_le _, Nat.zero_le _⟩ (fun r h2 hF => ?_)
      obtain ⟨_, rfl, rfl, rfl⟩ := hF
      show wM p l e (wR 4) s m args below meth c 0 0 (wE below args s D dA b0 ad S0 F) 5 D dA b0 ad S0 29 [some (.ref 188), some (.int x0), some (.int x1), none, none] [.int yr24] yh21
      refine w_if_lt X dX11_cost_29 rfl (t := 34) rfl (fun hc => ?_) (fun hc => ?_)
      · have hf := wok_t hf hc
        refine w_aload_n X dX11_cost_34 rfl rfl rfl ?_
        refine w_iload_n X dX11_cost_35 rfl rfl rfl ?_
        refine w_iload_n X dX11_cost_36 rfl rfl rfl ?_
        refine w_bipush X dX11_cost_37 rfl cb_9 ?_
        obtain ⟨yr25, eyr25, hf⟩ := wok_b hf
        refine w_callV X dX11_cost_39 rfl vl_X11_431 (kX11_costBy l  eyr25) S0_188 (As := [.int x0, .int x1, .int 9]) (st := []) rfl rfl (Nat.le_of_ble_eq_true rfl) ⟨Nat.le_of_ble_eq_true rfl, Nat.le_of_ble_eq_true rfl⟩ ⟨Nat.zero_le _, Nat.zero_le _⟩ (fun r h2 hF => ?_)
        obtain ⟨_, rfl, rfl, rfl⟩ := hF
        show wM p l e (wR 4) s m args below meth c 0 0 (wE below args s D dA b0 ad S0 F) 5 D dA b0 ad S0 42 [some (.ref 188), some (.int x0), some (.int x1), none, none] [.int yr25.1] yr25.2
        refine w_istore_n X dX11_cost_42 rfl rfl rfl (Nat.le_of_ble_eq_true rfl) (ls' := [some (.ref 188), some (.int x0), some (.int x1), some (.int yr25.1), none]) rfl ?_
        refine w_aload_n X dX11_cost_43 rfl rfl rfl ?_
        refine w_iload_n X dX11_cost_44 rfl rfl rfl ?_
        refine w_iload_n X dX11_cost_45 rfl rfl rfl ?_
        refine w_bipush X dX11_cost_46 rfl cb_63 ?_
        obtain ⟨yr26, eyr26, hf⟩ := wok_b hf
        refine w_callV X dX11_cost_48 rfl vl_X11_431 (kX11_costBy l  eyr26) S0_188 (As := [.int x0, .int x1, .int 63]) (st := []) rfl rfl (Nat.le_of_ble_eq_true rfl) ⟨Nat.le_of_ble_eq_true rfl, Nat.le_of_ble_eq_true rfl⟩ ⟨Nat.zero_le _, Nat.zero_le _⟩ (fun r h2 hF => ?_)
        obtain ⟨_, rfl, rfl, rfl⟩ := hF
        show wM p l e (wR 4) s m args below meth c 0 0 (wE below args s D dA b0 ad S0 F) 5 D dA b0 ad S0 51 [some (.ref 188), some (.int x0), some (.int x1), some (.int yr25.1), none] [.int yr26.1] yr26.2
        refine w_istore X dX11_cost_51 rfl rfl (Nat.le_of_ble_eq_true rfl) (ls' := [some (.ref 188), some (.int x0), some (.int x1), some (.int yr25.1), some (.int yr26.1)]) rfl ?_
        refine w_iload_n X dX11_cost_53 rfl rfl rfl ?_
        refine w_if_ge X dX11_cost_54 rfl (t := 62) rfl (fun hc => ?_) (fun hc => ?_)
        · have hf := wok_t hf hc
          refine w_iload X dX11_cost_62 rfl rfl ?_
          refine w_if_ge X dX11_cost_64 rfl (t := 71) rfl (fun hc => ?_) (fun hc => ?_)
          · have hf := wok_t hf hc
            refine w_iload_n X dX11_cost_71 rfl rfl rfl ?_
            refine w_iload X dX11_cost_72 rfl rfl ?_
            refine w_mmin X dX11_cost_74 rfl wd_1698 wd_425 wd_15 wd_426 (Nat.le_of_ble_eq_true rfl) (Nat.le_of_ble_eq_true rfl) (Nat.zero_le _) (Nat.zero_le _) ?_
            exact w_iret X dX11_cost_77 hr (hT _ _ (wok_s hf))
          · have hf := wok_f hf hc
            refine w_iload_n X dX11_cost_67 rfl rfl rfl ?_
            refine w_goto X dX11_cost_68 (t := 77) rfl ?_
            exact w_iret X dX11_cost_77 hr (hT _ _ (wok_s hf))
        · have hf := wok_f hf hc
          refine w_iload X dX11_cost_57 rfl rfl ?_
          refine w_goto X dX11_cost_59 (t := 77) rfl ?_
          exact w_iret X dX11_cost_77 hr (hT _ _ (wok_s hf))
      · have hf := wok_f hf hc
        refine w_iconst X dX11_cost_32 rfl ci_0 ?_
        exact w_iret X dX11_cost_33 hr (hT _ _ (wok_s hf))
    · have hf := wok_f hf (wb_0 hc)
      refine w_iconst X dX11_cost_21 rfl ci_m1 ?_
      exact w_iret X dX11_cost_22 hr (hT _ _ (wok_s hf))
set_option maxRecDepth 4000 in
theorem kX11_cost (l : Launch) {h : wSt} {x0 : Int32} {x1 : Int32} {res : Int32 × wSt} (hf : fX11_cost h x0 x1 = some res) : wC l yX11_cost cX11_cost 5 (some .int) 4 S0 [.ref 188, .int x0, .int x1] h (wFI (fun a b => res.1 = a ∧ res.2 = b)) := by
  refine w_meth2 2 (by decide) (Nat.le_of_ble_eq_true rfl) (ls := [some (.ref 188), some (.int x0), some (.int x1), none, none]) rfl ?_
  intro p e s m args below meth c D dA b0 ad X hr
  exact pX11_cost_b0 X hr  (K := fun z => res = z) (fun x h2 hz => ⟨x, rfl, by rw [hz], by rw [hz]⟩) ⟨res, hf, rfl⟩
set_option maxRecDepth 4000 in
theorem pX11_unwrites_l3b (X : wCx p s m args meth c RX11 cX11_unwrites 5 D dA b0 ad) (hr : meth.sig.returnType = none) {h : wSt} {v1 : Int32} {v2 : Int32} {v3 : Int32} {v4 : Int32} {K : (Int32 × wSt) ⊕ ((wSt)) → Prop} (hN : ∀ (n4 : Int32) (nh : wSt), K (.inl (n4, nh)) → wM p l e (wR 1) s m args below meth c 0 0 (wE below args s D dA b0 ad S0 F) 5 D dA b0 ad S0 3 [some (.ref 188), some (.int v1), some (.int v2), some (.int v3), some (.int n4)] [] nh) (hX0 : ∀ (nh : wSt), K (.inr nh) → wM p l e (wR 1) s m args below meth c 0 0 (wE below args s D dA b0 ad S0 F) 5 D dA b0 ad S0 59 [none, none, none, none, none] [] nh) (hf : wok (fX11_unwrites_l3 h v1 v2 v3 v4) K) : wM p l e (wR 1) s m args below meth c 0 0 (wE below args s D dA b0 ad S0 F) 5 D dA b0 ad S0 3 [some (.ref 188), some (.int v1), some (.int v2), some (.int v3), some (.int v4)] [] h := by
  unfold fX11_unwrites_l3 at hf
  refine w_iload X dX11_unwrites_3 rfl rfl ?_
  refine w_iload_n X dX11_unwrites_5 rfl rfl rfl ?_
  refine w_aload_n X dX11_unwrites_6 rfl rfl rfl ?_
  refine w_getR X dX11_unwrites_7 rfl fl_X11_38 S0_188 rfl ?_
  refine w_iload_n X dX11_unwrites_10 rfl rfl rfl ?_
  obtain ⟨yhg21, hf⟩ := wok_g hf
  refine w_iald X dX11_unwrites_11 rfl (j := v1.toNatClampNeg) rfl S0_198 yhg21 ?_
  refine w_iadd X dX11_unwrites_12 rfl ?_
  refine w_icmp_ge X dX11_unwrites_13 rfl (t := 59) rfl (fun hc => ?_) (fun hc => ?_)
  · have hf := wok_t hf hc
    refine w_fg (ls2 := [none, none, none, none, none]) trivial ?_
    exact hX0 _ (wok_s hf)
  · have hf := wok_f hf hc
    refine w_aload_n X dX11_unwrites_16 rfl rfl rfl ?_
    refine w_getR X dX11_unwrites_17 rfl fl_X11_120 S0_188 rfl ?_
    refine w_bipush X dX11_unwrites_20 rfl cb_7 ?_
    refine w_bipush X dX11_unwrites_22 rfl cb_6 ?_
    refine w_iload_n X dX11_unwrites_24 rfl rfl rfl ?_
    refine w_imul X dX11_unwrites_25 rfl ?_
    refine w_iadd X dX11_unwrites_26 rfl ?_
    refine w_iload X dX11_unwrites_27 rfl rfl ?_
    refine w_iadd X dX11_unwrites_29 rfl ?_
    refine w_dup2 X dX11_unwrites_30 rfl rfl rfl ?_
    obtain ⟨yhg22, hf⟩ := wok_g hf
    refine w_iald X dX11_unwrites_31 rfl (j := ((7 + (6 * v2)) + v4).toNatClampNeg) rfl S0_225 yhg22 ?_
    refine w_bipush X dX11_unwrites_32 rfl cb_7 ?_
    refine w_idiv X dX11_unwrites_34 rfl (by decide) ?_
    refine w_iast X dX11_unwrites_35 rfl (j := ((7 + (6 * v2)) + v4).toNatClampNeg) rfl S0_225 yhg22 ?_
    refine w_nmh (fun yh23 eyh23 => ?_)
    have hf := wok_l hf eyh23
    refine w_aload_n X dX11_unwrites_36 rfl rfl rfl ?_
    refine w_getR X dX11_unwrites_37 rfl fl_X11_120 S0_188 rfl ?_
    refine w_iconst X dX11_unwrites_40 rfl ci_4 ?_
    refine w_iload_n X dX11_unwrites_41 rfl rfl rfl ?_
    refine w_iadd X dX11_unwrites_42 rfl ?_
    refine w_dup2 X dX11_unwrites_43 rfl rfl rfl ?_
    obtain ⟨yhg24, hf⟩ := wok_g hf
    refine w_iald X dX11_unwrites_44 rfl (j := (4 + v2).toNatClampNeg) rfl S0_225 yhg24 ?_
    refine w_iconst X dX11_unwrites_45 rfl ci_1 ?_
    refine w_iload X dX11_unwrites_46 rfl rfl ?_
    refine w_ishl X dX11_unwrites_48 rfl ?_
    refine w_iconst X dX11_unwrites_49 rfl ci_m1 ?_
    refine w_ixor X dX11_unwrites_50 rfl ?_
    refine w_iand X dX11_unwrites_51 rfl ?_
    refine w_iast X dX11_unwrites_52 rfl (j := (4 + v2).toNatClampNeg) rfl S0_225 yhg24 ?_
    refine w_nmh (fun yh25 eyh25 => ?_)
    have hf := wok_l hf eyh25
    refine w_iinc X dX11_unwrites_53 rfl (v := (v4 + 1)) rfl rfl (Nat.le_of_ble_eq_true rfl) (cinc_1 _) (ls' := [some (.ref 188), some (.int v1), some (.int v2), some (.int v3), some (.int (v4 + 1))]) rfl ?_
    refine w_goto X dX11_unwrites_56 (t := 3) rfl ?_
    exact hN _ _ (wok_s hf)
set_option maxRecDepth 4000 in
theorem pX11_unwrites_l3 (X : wCx p s m args meth c RX11 cX11_unwrites 5 D dA b0 ad) (hr : meth.sig.returnType = none)  {v1 : Int32} {v2 : Int32} {v3 : Int32} {KE : (wSt) → Prop} (hX0 : ∀ (nh : wSt), KE (nh) → wM p l e (wR 1) s m args below meth c 0 0 (wE below args s D dA b0 ad S0 F) 5 D dA b0 ad S0 59 [none, none, none, none, none] [] nh) : ∀ (n : Nat) (v4 : Int32) (h : wSt), wok (wit (fun v : (Int32 × wSt) => fX11_unwrites_l3 v.2 v1 v2 v3 v.1) n (v4, h)) KE → wM p l e (wR 1) s m args below meth c 0 0 (wE below args s D dA b0 ad S0 F) 5 D dA b0 ad S0 3 [some (.ref 188), some (.int v1), some (.int v2), some (.int v3), some (.int v4)] [] h := by
  have key := wit_M (b := (fun v : (Int32 × wSt) => fX11_unwrites_l3 v.2 v1 v2 v3 v.1)) (KE := KE) (G := fun v => wM p l e (wR 1) s m args below meth c 0 0 (wE below args s D dA b0 ad S0 F) 5 D dA b0 ad S0 3 [some (.ref 188), some (.int v1), some (.int v2), some (.int v3), some (.int v.1)] [] v.2) (fun v K hN hE hf => pX11_unwrites_l3b X hr  (fun n4 nh hz => hN (n4, nh) hz) (fun z0 hz => hX0 z0 (hE _ hz)) hf)
  exact fun n v4 h hf => key n (v4, h) hf
set_option maxRecDepth 4000 in
theorem pX11_unwrites_b0 (X : wCx p s m args meth c RX11 cX11_unwrites 5 D dA b0 ad) (hr : meth.sig.returnType = none) {h : wSt} {x0 : Int32} {x1 : Int32} {x2 : Int32} {K : wSt → Prop} (hT : ∀ (h2 : wSt), K h2 → F none h2) (hf : wok (fX11_unwrites h x0 x1 x2) K) : wM p l e (wR 1) s m args below meth c 0 0 (wE below args s D dA b0 ad S0 F) 5 D dA b0 ad S0 0 [some (.ref 188), some (.int x0), some (.int x1), some (.int x2), none] [] h := by
  unfold fX11_unwrites at hf
  refine w_iload_n X dX11_unwrites_0 rfl rfl rfl ?_
  refine w_istore X dX11_unwrites_1 rfl rfl (Nat.le_of_ble_eq_true rfl) (ls' := [some (.ref 188), some (.int x0), some (.int x1), some (.int x2), some (.int x2)]) rfl ?_
  obtain ⟨ye26, hye26, hf⟩ := wok_b hf
  refine pX11_unwrites_l3 X hr  (KE := fun z => ye26 = z) ?_ 3000 _ _ ⟨ye26, hye26, rfl⟩
  · intro yz27 hz
    subst hz
    exact w_vret X dX11_unwrites_59 hr (hT _ (wok_s hf))
set_option maxRecDepth 4000 in
theorem kX11_unwrites (l : Launch) {h : wSt} {x0 : Int32} {x1 : Int32} {x2 : Int32} {res : wSt} (hf : fX11_unwrites h x0 x1 x2 = some res) : wC l yX11_unwrites cX11_unwrites 5 none 1 S0 [.ref 188, .int x0, .int x1, .int x2] h (wFV (fun b => res = b)) := by
  refine w_meth2 1 (by decide) (Nat.le_of_ble_eq_true rfl) (ls := [some (.ref 188), some (.int x0), some (.int x1), some (.int x2), none]) rfl ?_
  intro p e s m args below meth c D dA b0 ad X hr
  exact pX11_unwrites_b0 X hr  (K := fun z => res = z) (fun h2 hz => ⟨rfl, hz⟩) ⟨res, hf, rfl⟩
end WX
def fX11_writesAll_b151_62 (rec0 : wSt → Int32 → Int32 → Option (wSt)) (h : wSt) (v1 : Int32) (v2 : Int32) (v3 : Int32) : Option ((Int32 × wSt) ⊕ ((wSt))) :=
some (.inl ((v3 + 1), h))
def fX11_writesAll_l62 (rec0 : wSt → Int32 → Int32 → Option (wSt)) (h : wSt) (v1 : Int32) (v2 : Int32) (v3 : Int32) : Option ((Int32 × wSt) ⊕ ((wSt))) :=
if (6 * (h.1 190 0)) ≤ v3 then
some (.inr h)
else
if wib (v3 / 6) 6 then
if (h.1 193 (v3 / 6).toNatClampNeg) ≤ (v3 - v3 / 6 * 6) then
fX11_writesAll_b151_62 rec0 h v1 v2 v3
else
(fX11_canWrite h v1 (v3 / 6) (v3 - v3 / 6 * 6)).bind (fun yr22 =>
if yr22 = true then
if wib v1 6 then
wlet (wuI h 231 v1.toNatClampNeg v3) (fun yh24 =>
(fX11_writes yh24 v1 (v3 / 6) (v3 - v3 / 6 * 6)).bind (fun yr25 =>
(rec0 yr25 (v1 + 1) (v2 + 1)).bind (fun yr26 =>
(fX11_unwrites yr26 v1 (v3 / 6) (v3 - v3 / 6 * 6)).bind (fun yr27 =>
fX11_writesAll_b151_62 rec0 yr27 v1 v2 v3))))
else none
else
fX11_writesAll_b151_62 rec0 h v1 v2 v3)
else none
def fX11_writesAll_l35 (rec0 : wSt → Int32 → Int32 → Option (wSt)) (h : wSt) (v3 : Int32) : Option ((Int32 × wSt) ⊕ ((wSt))) :=
if 6 ≤ v3 then
some (.inr h)
else
if wib v3 6 then
wlet (wuI h 232 v3.toNatClampNeg (h.1 231 v3.toNatClampNeg)) (fun yh35 =>
some (.inl ((v3 + 1), yh35)))
else none
def fX11_writesAll_b0 (rec0 : wSt → Int32 → Int32 → Option (wSt)) (h : wSt) (x0 : Int32) (x1 : Int32) : Option (wSt) :=
if (h.1 188 57) < ((x1 + (h.1 190 1)) - x0) then
if x0 = (h.1 190 1) then
wlet (wuI h 188 57 x1) (fun yh33 =>
(wit (fun v : (Int32 × wSt) => fX11_writesAll_l35 rec0 v.2 v.1) 3000 ((0 : Int32), yh33)).bind (fun ye36 =>
some ye36))
else
(wit (fun v : (Int32 × wSt) => fX11_writesAll_l62 rec0 v.2 x0 x1 v.1) 3000 ((0 : Int32), h)).bind (fun ye28 =>
if wib x0 6 then
wlet (wuI ye28 231 x0.toNatClampNeg (-1)) (fun yh31 =>
(rec0 yh31 (x0 + 1) x1).bind (fun yr32 =>
some yr32))
else none)
else
some h
section WX
variable {p : Program} {l : Launch} {e : Env} {s : State} {m : MethodId} {args : Array Value} {below : List Frame} {meth : Method} {c : Code} {D : va_G} {dA : Nat → ClassId} {b0 : Nat} {ad : Nat → Nat} {F : Option Value → wSt → Prop}
set_option maxRecDepth 4000 in
theorem pX11_writesAll_b151_62 (X : wCx p s m args meth c RX11 cX11_writesAll 5 D dA b0 ad) (hr : meth.sig.returnType = none) {h : wSt} {v1 : Int32} {v2 : Int32} {v3 : Int32} {rec0 : wSt → Int32 → Int32 → Option (wSt)} {d : Nat} (hd0 : 2 ≤ d) (hrec0 : ∀ (h : wSt) (x0 : Int32) (x1 : Int32) (res : wSt), rec0 h x0 x1 = some res → wC l yX11_writesAll cX11_writesAll 5 none d S0 [.ref 188, .int x0, .int x1] h (wFV (fun b => res = b))) {K : (Int32 × wSt) ⊕ ((wSt)) → Prop} (hN : ∀ (n3 : Int32) (nh : wSt), K (.inl (n3, nh)) → wM p l e (wR (d + 1)) s m args below meth c 0 0 (wE below args s D dA b0 ad S0 F) 5 D dA b0 ad S0 62 [some (.ref 188), some (.int v1), some (.int v2), some (.int n3), none] [] nh) (hX0 : ∀ (nh : wSt), K (.inr nh) → wM p l e (wR (d + 1)) s m args below meth c 0 0 (wE below args s D dA b0 ad S0 F) 5 D dA b0 ad S0 157 [some (.ref 188), some (.int v1), some (.int v2), none, none] [] nh) (hf : wok (fX11_writesAll_b151_62 rec0 h v1 v2 v3) K) : wM p l e (wR (d + 1)) s m args below meth c 0 0 (wE below args s D dA b0 ad S0 F) 5 D dA b0 ad S0 151 [some (.ref 188), some (.int v1), some (.int v2), some (.int v3), none] [] h := by
  unfold fX11_writesAll_b151_62 at hf
  refine w_iinc X dX11_writesAll_151 rfl (v := (v3 + 1)) rfl rfl (Nat.le_of_ble_eq_true rfl) (cinc_1 _) (ls' := [some (.ref 188), some (.int v1), some (.int v2), some (.int (v3 + 1)), none]) rfl ?_
  refine w_goto X dX11_writesAll_154 (t := 62) rfl ?_
  exact hN _ _ (wok_s hf)
set_option maxRecDepth 4000 in
theorem pX11_writesAll_l62b (X : wCx p s m args meth c RX11 cX11_writesAll 5 D dA b0 ad) (hr : meth.sig.returnType = none) {h : wSt} {v1 : Int32} {v2 : Int32} {v3 : Int32} {rec0 : wSt → Int32 → Int32 → Option (wSt)} {d : Nat} (hd0 : 2 ≤ d) (hrec0 : ∀ (h : wSt) (x0 : Int32) (x1 : Int32) (res : wSt), rec0 h x0 x1 = some res → wC l yX11_writesAll cX11_writesAll 5 none d S0 [.ref 188, .int x0, .int x1] h (wFV (fun b => res = b))) {K : (Int32 × wSt) ⊕ ((wSt)) → Prop} (hN : ∀ (n3 : Int32) (nh : wSt), K (.inl (n3, nh)) → wM p l e (wR (d + 1)) s m args below meth c 0 0 (wE below args s D dA b0 ad S0 F) 5 D dA b0 ad S0 62 [some (.ref 188), some (.int v1), some (.int v2), some (.int n3), none] [] nh) (hX0 : ∀ (nh : wSt), K (.inr nh) → wM p l e (wR (d + 1)) s m args below meth c 0 0 (wE below args s D dA b0 ad S0 F) 5 D dA b0 ad S0 157 [some (.ref 188), some (.int v1), some (.int v2), none, none] [] nh) (hf : wok (fX11_writesAll_l62 rec0 h v1 v2 v3) K) : wM p l e (wR (d + 1)) s m args below meth c 0 0 (wE below args s D dA b0 ad S0 F) 5 D dA b0 ad S0 62 [some (.ref 188), some (.int v1), some (.int v2), some (.int v3), none] [] h := by
  unfold fX11_writesAll_l62 at hf
  refine w_iload_n X dX11_writesAll_62 rfl rfl rfl ?_
  refine w_bipush X dX11_writesAll_63 rfl cb_6 ?_
  refine w_aload_n X dX11_writesAll_65 rfl rfl rfl ?_
  refine w_getR X dX11_writesAll_66 rfl fl_X11_13 S0_188 rfl ?_
  refine w_iconst X dX11_writesAll_69 rfl ci_0 ?_
  refine w_iald X dX11_writesAll_70 rfl (j := 0) cn_0 S0_190 (show wib 0 6 by decide) ?_
  refine w_imul X dX11_writesAll_71 rfl ?_
  refine w_icmp_ge X dX11_writesAll_72 rfl (t := 157) rfl (fun hc => ?_) (fun hc => ?_)
  · have hf := wok_t hf hc
    refine w_fg (ls2 := [some (.ref 188), some (.int v1), some (.int v2), none, none]) ⟨rfl, rfl, rfl, trivial⟩ ?_
    exact hX0 _ (wok_s hf)
  · have hf := wok_f hf hc
    refine w_iload_n X dX11_writesAll_75 rfl rfl rfl ?_
    refine w_bipush X dX11_writesAll_76 rfl cb_6 ?_
    refine w_idiv X dX11_writesAll_78 rfl (by decide) ?_
    refine w_istore X dX11_writesAll_79 rfl rfl (Nat.le_of_ble_eq_true rfl) (ls' := [some (.ref 188), some (.int v1), some (.int v2), some (.int v3), some (.int (v3 / 6))]) rfl ?_
    refine w_iload_n X dX11_writesAll_81 rfl rfl rfl ?_
    refine w_bipush X dX11_writesAll_82 rfl cb_6 ?_
    refine w_irem X dX11_writesAll_84 rfl (by decide) ?_
    refine w_aload_n X dX11_writesAll_85 rfl rfl rfl ?_
    refine w_getR X dX11_writesAll_86 rfl fl_X11_23 S0_188 rfl ?_
    refine w_iload X dX11_writesAll_89 rfl rfl ?_
    obtain ⟨yhg21, hf⟩ := wok_g hf
    refine w_iald X dX11_writesAll_91 rfl (j := (v3 / 6).toNatClampNeg) rfl S0_193 yhg21 ?_
    refine w_icmp_ge X dX11_writesAll_92 rfl (t := 151) rfl (fun hc => ?_) (fun hc => ?_)
    · have hf := wok_t hf hc
      refine w_fg (ls2 := [some (.ref 188), some (.int v1), some (.int v2), some (.int v3), none]) ⟨rfl, rfl, rfl, rfl, trivial⟩ ?_
      exact pX11_writesAll_b151_62 X hr  hd0 hrec0 hN hX0 hf
    · have hf := wok_f hf hc
      refine w_aload_n X dX11_writesAll_95 rfl rfl rfl ?_
      refine w_iload_n X dX11_writesAll_96 rfl rfl rfl ?_
      refine w_iload X dX11_writesAll_97 rfl rfl ?_
      refine w_iload_n X dX11_writesAll_99 rfl rfl rfl ?_
      refine w_bipush X dX11_writesAll_100 rfl cb_6 ?_
      refine w_irem X dX11_writesAll_102 rfl (by decide) ?_
      obtain ⟨yr22, eyr22, hf⟩ := wok_b hf
      refine w_callV X dX11_writesAll_103 rfl vl_X11_378 (kX11_canWrite l  eyr22) S0_188 (As := [.int v1, .int (v3 / 6), .int (v3 - v3 / 6 * 6)]) (st := []) rfl rfl (Nat.le_of_ble_eq_true rfl) ⟨by show 1 + 1 ≤ d + 1; omega, by show 8 + (_ + 11) + 64 * 1 ≤ 64 * (d + 1); omega⟩ ⟨Nat.zero_le _, Nat.zero_le _⟩ (fun r h2 hF => ?_)
      obtain ⟨_, rfl, rfl, rfl⟩ := hF
      show wM p l e (wR (d + 1)) s m args below meth c 0 0 (wE below args s D dA b0 ad S0 F) 5 D dA b0 ad S0 106 [some (.ref 188), some (.int v1), some (.int v2), some (.int v3), some (.int (v3 / 6))] [.int (wb yr22)] h
      refine w_if_ne X dX11_writesAll_106 rfl (t := 112) rfl (fun hc => ?_) (fun hc => ?_)
      · have hf := wok_t hf (wb_n0 hc)
        refine w_aload_n X dX11_writesAll_112 rfl rfl rfl ?_
        refine w_getR X dX11_writesAll_113 rfl fl_X11_138 S0_188 rfl ?_
        refine w_iload_n X dX11_writesAll_116 rfl rfl rfl ?_
        refine w_iload_n X dX11_writesAll_117 rfl rfl rfl ?_
        obtain ⟨yhg23, hf⟩ := wok_g hf
        refine w_iast X dX11_writesAll_118 rfl (j := v1.toNatClampNeg) rfl S0_231 yhg23 ?_
        refine w_nmh (fun yh24 eyh24 => ?_)
        have hf := wok_l hf eyh24
        refine w_aload_n X dX11_writesAll_119 rfl rfl rfl ?_
        refine w_iload_n X dX11_writesAll_120 rfl rfl rfl ?_
        refine w_iload X dX11_writesAll_121 rfl rfl ?_
        refine w_iload_n X dX11_writesAll_123 rfl rfl rfl ?_
        refine w_bipush X dX11_writesAll_124 rfl cb_6 ?_
        refine w_irem X dX11_writesAll_126 rfl (by decide) ?_
        obtain ⟨yr25, eyr25, hf⟩ := wok_b hf
        refine w_callV X dX11_writesAll_127 rfl vl_X11_412 (kX11_writes l  eyr25) S0_188 (As := [.int v1, .int (v3 / 6), .int (v3 - v3 / 6 * 6)]) (st := []) rfl rfl (Nat.le_of_ble_eq_true rfl) ⟨by show 1 + 1 ≤ d + 1; omega, by show 8 + (_ + 11) + 64 * 1 ≤ 64 * (d + 1); omega⟩ ⟨Nat.zero_le _, Nat.zero_le _⟩ (fun r h2 hF => ?_)
        obtain ⟨rfl, rfl⟩ := hF
        show wM p l e (wR (d + 1)) s m args below meth c 0 0 (wE below args s D dA b0 ad S0 F) 5 D dA b0 ad S0 130 [some (.ref 188), some (.int v1), some (.int v2), some (.int v3), some (.int (v3 / 6))] [] yr25
        refine w_aload_n X dX11_writesAll_130 rfl rfl rfl ?_
        refine w_iload_n X dX11_writesAll_131 rfl rfl rfl ?_
        refine w_iconst X dX11_writesAll_132 rfl ci_1 ?_
        refine w_iadd X dX11_writesAll_133 rfl ?_
        refine w_iload_n X dX11_writesAll_134 rfl rfl rfl ?_
        refine w_iconst X dX11_writesAll_135 rfl ci_1 ?_
        refine w_iadd X dX11_writesAll_136 rfl ?_
        obtain ⟨yr26, eyr26, hf⟩ := wok_b hf
        refine w_callV X dX11_writesAll_137 rfl vl_X11_442 (hrec0 _ _ _  _ eyr26) S0_188 (As := [.int (v1 + 1), .int (v2 + 1)]) (st := []) rfl rfl (Nat.le_of_ble_eq_true rfl) ⟨Nat.le_refl _, by show 8 + (_ + 11) + 64 * d ≤ 64 * (d + 1); omega⟩ ⟨Nat.zero_le _, Nat.zero_le _⟩ (fun r h2 hF => ?_)
        obtain ⟨rfl, rfl⟩ := hF
        show wM p l e (wR (d + 1)) s m args below meth c 0 0 (wE below args s D dA b0 ad S0 F) 5 D dA b0 ad S0 140 [some (.ref 188), some (.int v1), some (.int v2), some (.int v3), some (.int (v3 / 6))] [] yr26
        refine w_aload_n X dX11_writesAll_140 rfl rfl rfl ?_
        refine w_iload_n X dX11_writesAll_141 rfl rfl rfl ?_
        refine w_iload X dX11_writesAll_142 rfl rfl ?_
        refine w_iload_n X dX11_writesAll_144 rfl rfl rfl ?_
        refine w_bipush X dX11_writesAll_145 rfl cb_6 ?_
        refine w_irem X dX11_writesAll_147 rfl (by decide) ?_
        obtain ⟨yr27, eyr27, hf⟩ := wok_b hf
        refine w_callV X dX11_writesAll_148 rfl vl_X11_445 (kX11_unwrites l  eyr27) S0_188 (As := [.int v1, .int (v3 / 6), .int (v3 - v3 / 6 * 6)]) (st := []) rfl rfl (Nat.le_of_ble_eq_true rfl) ⟨by show 1 + 1 ≤ d + 1; omega, by show 8 + (_ + 11) + 64 * 1 ≤ 64 * (d + 1); omega⟩ ⟨Nat.zero_le _, Nat.zero_le _⟩ (fun r h2 hF => ?_)
        obtain ⟨rfl, rfl⟩ := hF
        show wM p l e (wR (d + 1)) s m args below meth c 0 0 (wE below args s D dA b0 ad S0 F) 5 D dA b0 ad S0 151 [some (.ref 188), some (.int v1), some (.int v2), some (.int v3), some (.int (v3 / 6))] [] yr27
        refine w_fg (ls2 := [some (.ref 188), some (.int v1), some (.int v2), some (.int v3), none]) ⟨rfl, rfl, rfl, rfl, trivial⟩ ?_
        exact pX11_writesAll_b151_62 X hr  hd0 hrec0 hN hX0 hf
      · have hf := wok_f hf (wb_0 hc)
        refine w_goto X dX11_writesAll_109 (t := 151) rfl ?_
        refine w_fg (ls2 := [some (.ref 188), some (.int v1), some (.int v2), some (.int v3), none]) ⟨rfl, rfl, rfl, rfl, trivial⟩ ?_
        exact pX11_writesAll_b151_62 X hr  hd0 hrec0 hN hX0 hf
set_option maxRecDepth 4000 in
theorem pX11_writesAll_l62 (X : wCx p s m args meth c RX11 cX11_writesAll 5 D dA b0 ad) (hr : meth.sig.returnType = none)  {v1 : Int32} {v2 : Int32} {rec0 : wSt → Int32 → Int32 → Option (wSt)} {d : Nat} (hd0 : 2 ≤ d) (hrec0 : ∀ (h : wSt) (x0 : Int32) (x1 : Int32) (res : wSt), rec0 h x0 x1 = some res → wC l yX11_writesAll cX11_writesAll 5 none d S0 [.ref 188, .int x0, .int x1] h (wFV (fun b => res = b))) {KE : (wSt) → Prop} (hX0 : ∀ (nh : wSt), KE (nh) → wM p l e (wR (d + 1)) s m args below meth c 0 0 (wE below args s D dA b0 ad S0 F) 5 D dA b0 ad S0 157 [some (.ref 188), some (.int v1), some (.int v2), none, none] [] nh) : ∀ (n : Nat) (v3 : Int32) (h : wSt), wok (wit (fun v : (Int32 × wSt) => fX11_writesAll_l62 rec0 v.2 v1 v2 v.1) n (v3, h)) KE → wM p l e (wR (d + 1)) s m args below meth c 0 0 (wE below args s D dA b0 ad S0 F) 5 D dA b0 ad S0 62 [some (.ref 188), some (.int v1), some (.int v2), some (.int v3), none] [] h := by
  have key := wit_M (b := (fun v : (Int32 × wSt) => fX11_writesAll_l62 rec0 v.2 v1 v2 v.1)) (KE := KE) (G := fun v => wM p l e (wR (d + 1)) s m args below meth c 0 0 (wE below args s D dA b0 ad S0 F) 5 D dA b0 ad S0 62 [some (.ref 188), some (.int v1), some (.int v2), some (.int v.1), none] [] v.2) (fun v K hN hE hf => pX11_writesAll_l62b X hr  hd0 hrec0 (fun n3 nh hz => hN (n3, nh) hz) (fun z0 hz => hX0 z0 (hE _ hz)) hf)
  exact fun n v3 h hf => key n (v3, h) hf
set_option maxRecDepth 4000 in
theorem pX11_writesAll_l35b (X : wCx p s m args meth c RX11 cX11_writesAll 5 D dA b0 ad) (hr : meth.sig.returnType = none) {h : wSt} {v3 : Int32} {rec0 : wSt → Int32 → Int32 → Option (wSt)} {d : Nat} (hd0 : 2 ≤ d) (hrec0 : ∀ (h : wSt) (x0 : Int32) (x1 : Int32) (res : wSt), rec0 h x0 x1 = some res → wC l yX11_writesAll cX11_writesAll 5 none d S0 [.ref 188, .int x0, .int x1] h (wFV (fun b => res = b))) {K : (Int32 × wSt) ⊕ ((wSt)) → Prop} (hN : ∀ (n3 : Int32) (nh : wSt), K (.inl (n3, nh)) → wM p l e (wR (d + 1)) s m args below meth c 0 0 (wE below args s D dA b0 ad S0 F) 5 D dA b0 ad S0 35 [some (.ref 188), none, none, some (.int n3), none] [] nh) (hX0 : ∀ (nh : wSt), K (.inr nh) → wM p l e (wR (d + 1)) s m args below meth c 0 0 (wE below args s D dA b0 ad S0 F) 5 D dA b0 ad S0 59 [none, none, none, none, none] [] nh) (hf : wok (fX11_writesAll_l35 rec0 h v3) K) : wM p l e (wR (d + 1)) s m args below meth c 0 0 (wE below args s D dA b0 ad S0 F) 5 D dA b0 ad S0 35 [some (.ref 188), none, none, some (.int v3), none] [] h := by
  unfold fX11_writesAll_l35 at hf
  refine w_iload_n X dX11_writesAll_35 rfl rfl rfl ?_
  refine w_bipush X dX11_writesAll_36 rfl cb_6 ?_
  refine w_icmp_ge X dX11_writesAll_38 rfl (t := 59) rfl (fun hc => ?_) (fun hc => ?_)
  · have hf := wok_t hf hc
    refine w_fg (ls2 := [none, none, none, none, none]) trivial ?_
    exact hX0 _ (wok_s hf)
  · have hf := wok_f hf hc
    refine w_aload_n X dX11_writesAll_41 rfl rfl rfl ?_
    refine w_getR X dX11_writesAll_42 rfl fl_X11_141 S0_188 rfl ?_
    refine w_iload_n X dX11_writesAll_45 rfl rfl rfl ?_
    refine w_aload_n X dX11_writesAll_46 rfl rfl rfl ?_
    refine w_getR X dX11_writesAll_47 rfl fl_X11_138 S0_188 rfl ?_
    refine w_iload_n X dX11_writesAll_50 rfl rfl rfl ?_
    obtain ⟨yhg34, hf⟩ := wok_g hf
    refine w_iald X dX11_writesAll_51 rfl (j := v3.toNatClampNeg) rfl S0_231 yhg34 ?_
    refine w_iast X dX11_writesAll_52 rfl (j := v3.toNatClampNeg) rfl S0_232 yhg34 ?_
    refine w_nmh (fun yh35 eyh35 => ?_)
    have hf := wok_l hf eyh35
    refine w_iinc X dX11_writesAll_53 rfl (v := (v3 + 1)) rfl rfl (Nat.le_of_ble_eq_true rfl) (cinc_1 _) (ls' := [some (.ref 188), none, none, some (.int (v3 + 1)), none]) rfl ?_
    refine w_goto X dX11_writesAll_56 (t := 35) rfl ?_
    exact hN _ _ (wok_s hf)
set_option maxRecDepth 4000 in
theorem pX11_writesAll_l35 (X : wCx p s m args meth c RX11 cX11_writesAll 5 D dA b0 ad) (hr : meth.sig.returnType = none)  {rec0 : wSt → Int32 → Int32 → Option (wSt)} {d : Nat} (hd0 : 2 ≤ d) (hrec0 : ∀ (h : wSt) (x0 : Int32) (x1 : Int32) (res : wSt), rec0 h x0 x1 = some res → wC l yX11_writesAll cX11_writesAll 5 none d S0 [.ref 188, .int x0, .int x1] h (wFV (fun b => res = b))) {KE : (wSt) → Prop} (hX0 : ∀ (nh : wSt), KE (nh) → wM p l e (wR (d + 1)) s m args below meth c 0 0 (wE below args s D dA b0 ad S0 F) 5 D dA b0 ad S0 59 [none, none, none, none, none] [] nh) : ∀ (n : Nat) (v3 : Int32) (h : wSt), wok (wit (fun v : (Int32 × wSt) => fX11_writesAll_l35 rec0 v.2 v.1) n (v3, h)) KE → wM p l e (wR (d + 1)) s m args below meth c 0 0 (wE below args s D dA b0 ad S0 F) 5 D dA b0 ad S0 35 [some (.ref 188), none, none, some (.int v3), none] [] h := by
  have key := wit_M (b := (fun v : (Int32 × wSt) => fX11_writesAll_l35 rec0 v.2 v.1)) (KE := KE) (G := fun v => wM p l e (wR (d + 1)) s m args below meth c 0 0 (wE below args s D dA b0 ad S0 F) 5 D dA b0 ad S0 35 [some (.ref 188), none, none, some (.int v.1), none] [] v.2) (fun v K hN hE hf => pX11_writesAll_l35b X hr  hd0 hrec0 (fun n3 nh hz => hN (n3, nh) hz) (fun z0 hz => hX0 z0 (hE _ hz)) hf)
  exact fun n v3 h hf => key n (v3, h) hf
set_option maxRecDepth 4000 in
theorem pX11_writesAll_b0 (X : wCx p s m args meth c RX11 cX11_writesAll 5 D dA b0 ad) (hr : meth.sig.returnType = none) {h : wSt} {x0 : Int32} {x1 : Int32} {rec0 : wSt → Int32 → Int32 → Option (wSt)} {d : Nat} (hd0 : 2 ≤ d) (hrec0 : ∀ (h : wSt) (x0 : Int32) (x1 : Int32) (res : wSt), rec0 h x0 x1 = some res → wC l yX11_writesAll cX11_writesAll 5 none d S0 [.ref 188, .int x0, .int x1] h (wFV (fun b => res = b))) {K : wSt → Prop} (hT : ∀ (h2 : wSt), K h2 → F none h2) (hf : wok (fX11_writesAll_b0 rec0 h x0 x1) K) : wM p l e (wR (d + 1)) s m args below meth c 0 0 (wE below args s D dA b0 ad S0 F) 5 D dA b0 ad S0 0 [some (.ref 188), some (.int x0), some (.int x1), none, none] [] h := by
  unfold fX11_writesAll_b0 at hf
  refine w_iload_n X dX11_writesAll_0 rfl rfl rfl ?_
  refine w_aload_n X dX11_writesAll_1 rfl rfl rfl ?_
  refine w_getR X dX11_writesAll_2 rfl fl_X11_13 S0_188 rfl ?_
  refine w_iconst X dX11_writesAll_5 rfl ci_1 ?_
  refine w_iald X dX11_writesAll_6 rfl (j := 1) cn_1 S0_190 (show wib 1 6 by decide) ?_
  refine w_iadd X dX11_writesAll_7 rfl ?_
  refine w_iload_n X dX11_writesAll_8 rfl rfl rfl ?_
  refine w_isub X dX11_writesAll_9 rfl ?_
  refine w_aload_n X dX11_writesAll_10 rfl rfl rfl ?_
  refine w_getI X dX11_writesAll_11 rfl fl_X11_439 S0_188 rfl ?_
  refine w_icmp_gt X dX11_writesAll_14 rfl (t := 18) rfl (fun hc => ?_) (fun hc => ?_)
  · have hf := wok_t hf hc
    refine w_iload_n X dX11_writesAll_18 rfl rfl rfl ?_
    refine w_aload_n X dX11_writesAll_19 rfl rfl rfl ?_
    refine w_getR X dX11_writesAll_20 rfl fl_X11_13 S0_188 rfl ?_
    refine w_iconst X dX11_writesAll_23 rfl ci_1 ?_
    refine w_iald X dX11_writesAll_24 rfl (j := 1) cn_1 S0_190 (show wib 1 6 by decide) ?_
    refine w_icmp_ne X dX11_writesAll_25 rfl (t := 60) rfl (fun hc => ?_) (fun hc => ?_)
    · have hf := wok_f hf hc
      refine w_iconst X dX11_writesAll_60 rfl ci_0 ?_
      refine w_istore_n X dX11_writesAll_61 rfl rfl rfl (Nat.le_of_ble_eq_true rfl) (ls' := [some (.ref 188), some (.int x0), some (.int x1), some (.int 0), none]) rfl ?_
      obtain ⟨ye28, hye28, hf⟩ := wok_b hf
      refine pX11_writesAll_l62 X hr  hd0 hrec0 (KE := fun z => ye28 = z) ?_ 3000 _ _ ⟨ye28, hye28, rfl⟩
      · intro yz29 hz
        subst hz
        refine w_aload_n X dX11_writesAll_157 rfl rfl rfl ?_
        refine w_getR X dX11_writesAll_158 rfl fl_X11_138 S0_188 rfl ?_
        refine w_iload_n X dX11_writesAll_161 rfl rfl rfl ?_
        refine w_iconst X dX11_writesAll_162 rfl ci_m1 ?_
        obtain ⟨yhg30, hf⟩ := wok_g hf
        refine w_iast X dX11_writesAll_163 rfl (j := x0.toNatClampNeg) rfl S0_231 yhg30 ?_
        refine w_nmh (fun yh31 eyh31 => ?_)
        have hf := wok_l hf eyh31
        refine w_aload_n X dX11_writesAll_164 rfl rfl rfl ?_
        refine w_iload_n X dX11_writesAll_165 rfl rfl rfl ?_
        refine w_iconst X dX11_writesAll_166 rfl ci_1 ?_
        refine w_iadd X dX11_writesAll_167 rfl ?_
        refine w_iload_n X dX11_writesAll_168 rfl rfl rfl ?_
        obtain ⟨yr32, eyr32, hf⟩ := wok_b hf
        refine w_callV X dX11_writesAll_169 rfl vl_X11_442 (hrec0 _ _ _  _ eyr32) S0_188 (As := [.int (x0 + 1), .int x1]) (st := []) rfl rfl (Nat.le_of_ble_eq_true rfl) ⟨Nat.le_refl _, by show 8 + (_ + 11) + 64 * d ≤ 64 * (d + 1); omega⟩ ⟨Nat.zero_le _, Nat.zero_le _⟩ (fun r h2 hF => ?_)
        obtain ⟨rfl, rfl⟩ := hF
        show wM p l e (wR (d + 1)) s m args below meth c 0 0 (wE below args s D dA b0 ad S0 F) 5 D dA b0 ad S0 172 [some (.ref 188), some (.int x0), some (.int x1), none, none] [] yr32
        exact w_vret X dX11_writesAll_172 hr (hT _ (wok_s hf))
    · have hf := wok_t hf hc
      refine w_aload_n X dX11_writesAll_28 rfl rfl rfl ?_
      refine w_iload_n X dX11_writesAll_29 rfl rfl rfl ?_
      refine w_putI X dX11_writesAll_30 rfl fp_X11_439 S0_188 rfl ?_
      refine w_nmh (fun yh33 eyh33 => ?_)
      have hf := wok_l hf eyh33
      refine w_iconst X dX11_writesAll_33 rfl ci_0 ?_
      refine w_istore_n X dX11_writesAll_34 rfl rfl rfl (Nat.le_of_ble_eq_true rfl) (ls' := [some (.ref 188), some (.int x0), some (.int x1), some (.int 0), none]) rfl ?_
      refine w_fg (ls2 := [some (.ref 188), none, none, some (.int 0), none]) ⟨rfl, rfl, trivial⟩ ?_
      obtain ⟨ye36, hye36, hf⟩ := wok_b hf
      refine pX11_writesAll_l35 X hr  hd0 hrec0 (KE := fun z => ye36 = z) ?_ 3000 _ _ ⟨ye36, hye36, rfl⟩
      · intro yz37 hz
        subst hz
        exact w_vret X dX11_writesAll_59 hr (hT _ (wok_s hf))
  · have hf := wok_f hf hc
    exact w_vret X dX11_writesAll_17 hr (hT _ (wok_s hf))
end WX
def fX11_writesAll : Nat → wSt → Int32 → Int32 → Option (wSt)
  | 0, _, _, _ => none
  | n + 1, h, x0, x1 => fX11_writesAll_b0 (fX11_writesAll n) h x0 x1
theorem kX11_writesAll_n (l : Launch) : ∀ (n : Nat) {h : wSt} {x0 : Int32} {x1 : Int32} {res : wSt}, fX11_writesAll n h x0 x1 = some res → wC l yX11_writesAll cX11_writesAll 5 none (2 + n) S0 [.ref 188, .int x0, .int x1] h (wFV (fun b => res = b)) := by
  intro n
  induction n with
  | zero =>
    intro h x0 x1  res hf
    have hf : none = some res := hf
    cases hf
  | succ n ih =>
    intro h x0 x1  res hf
    refine w_meth2 2 (by decide) (Nat.le_of_ble_eq_true rfl) (ls := [some (.ref 188), some (.int x0), some (.int x1), none, none]) rfl ?_
    intro p e s m args below meth c D dA b0 ad X hr
    exact pX11_writesAll_b0 X hr  (d := 2 + n) (by omega) (rec0 := fX11_writesAll n) (fun h x0 x1  res hz => ih  hz) (K := fun z => res = z) (fun h2 hz => ⟨rfl, hz⟩) ⟨res, hf, rfl⟩
theorem kX11_writesAll (l : Launch) {h : wSt} {x0 : Int32} {x1 : Int32} {res : wSt} (hf : fX11_writesAll 64 h x0 x1 = some res) : wC l yX11_writesAll cX11_writesAll 5 none 66 S0 [.ref 188, .int x0, .int x1] h (wFV (fun b => res = b)) := kX11_writesAll_n l 64  hf
def fX11_lay_b21 (h : wSt) (v1 : Int32) : Option (Int32 × wSt) :=
wlet (wuI h 188 57 (-1)) (fun yh22 =>
(fX11_writesAll 64 yh22 (0 : Int32) (0 : Int32)).bind (fun yr23 =>
if v1 = (-1) then
some ((yr23.1 188 57), yr23)
else
if wib v1 6 then
some ((yr23.1 232 v1.toNatClampNeg), yr23)
else none))
def fX11_lay (h : wSt) (x0 : Int32) : Option (Int32 × wSt) :=
wlet (wuI h 188 0 0) (fun yh21 =>
if x0 = (-1) then
fX11_lay_b21 yh21 x0
else
(fX11_isText yh21 x0).bind (fun yr25 =>
if yr25 = true then
fX11_lay_b21 yh21 x0
else
some ((-2 : Int32), yh21)))
def fX11_bears_l46 (h : wSt) (v1 : Int32) (v2 : Int32) (v3 : Int32) (v4 : Int32) : Option ((Int32 × Int32 × wSt) ⊕ ((Int32 × wSt))) :=
if v4 < 0 then
some (.inr (v3, h))
else
(fX11_writes h v2 v1 v4).bind (fun yr26 =>
(fX11_scrapes yr26 v1 (63 : Int32)).bind (fun yr27 =>
(fX11_placeOf yr27 v2 v1).bind (fun yr28 =>
some (.inl ((v3 + 1), yr28, yr27)))))
def fX11_bears (h : wSt) (x0 : Int32) (x1 : Int32) : Option (Int32 × wSt) :=
wlet (wuI h 188 0 0) (fun yh21 =>
(fX11_isSkin yh21 x0).bind (fun yr22 =>
if yr22 = true then
(fX11_isText yh21 x1).bind (fun yr23 =>
if yr23 = true then
(fX11_copies yh21 225 25 (0 : Int32) 227 25 (0 : Int32)).bind (fun yr24 =>
(fX11_placeOf yr24 x1 x0).bind (fun yr25 =>
(wit (fun v : (Int32 × Int32 × wSt) => fX11_bears_l46 v.2.2 x0 x1 v.1 v.2.1) 3000 ((0 : Int32), yr25, yr24)).bind (fun ye29 =>
(fX11_copies ye29.2 227 25 (0 : Int32) 225 25 (0 : Int32)).bind (fun yr32 =>
some (ye29.1, yr32)))))
else
some ((-1 : Int32), yh21))
else
some ((-1 : Int32), yh21)))
def fX11_over_b60_39 (h : wSt) (v1 : Int32) (v2 : Int32) (v3 : Int32) (v4 : Int32) (v5 : Int32) : Option ((Int32 × Int32 × Int32) ⊕ ((Int32))) :=
wlet (v4 ||| (1 <<< (((v5 - v5 / 7 * 7) - 1) &&& 31))) (fun yx24 =>
some (.inl (v2, yx24, (v5 / 7))))
def fX11_over_l39 (h : wSt) (v1 : Int32) (v3 : Int32) (v2 : Int32) (v4 : Int32) (v5 : Int32) : Option ((Int32 × Int32 × Int32) ⊕ ((Int32))) :=
if v5 ≤ 0 then
some (.inr v2)
else
if ((v5 - v5 / 7 * 7) - 1) = v1 then
fX11_over_b60_39 h v1 (v2 ||| v4) v3 v4 v5
else
fX11_over_b60_39 h v1 v2 v3 v4 v5
def fX11_over_l19 (h : wSt) (v1 : Int32) (v2 : Int32) (v3 : Int32) : Option ((Int32 × Int32) ⊕ ((Int32))) :=
if 18 ≤ v3 then
some (.inr v2)
else
if wib (7 + v3) 25 then
(wit (fun v : (Int32 × Int32 × Int32) => fX11_over_l39 h v1 v3 v.1 v.2.1 v.2.2) 3000 (v2, (0 : Int32), (h.1 225 (7 + v3).toNatClampNeg))).bind (fun ye25 =>
some (.inl (ye25, (v3 + 1))))
else none
def fX11_over (h : wSt) (x0 : Int32) : Option (Int32 × wSt) :=
wlet (wuI h 188 0 0) (fun yh21 =>
(fX11_isText yh21 x0).bind (fun yr22 =>
if yr22 = true then
(wit (fun v : (Int32 × Int32) => fX11_over_l19 yh21 x0 v.1 v.2) 3000 ((0 : Int32), (0 : Int32))).bind (fun ye27 =>
some (ye27, yh21))
else
some ((-1 : Int32), yh21)))
def fX11_deepest_b68_19 (h : wSt) (v1 : Int32) (v2 : Int32) (v3 : Int32) : Option ((Int32 × Int32) ⊕ ((Int32))) :=
some (.inl (v2, (v3 + 1)))
def fX11_deepest_l19 (h : wSt) (v1 : Int32) (v2 : Int32) (v3 : Int32) : Option ((Int32 × Int32) ⊕ ((Int32))) :=
if wib v1 6 then
if (h.1 193 v1.toNatClampNeg) ≤ v3 then
some (.inr v2)
else
if wib ((7 + (6 * v1)) + v3) 25 then
(fX11_deepOf h (h.1 225 ((7 + (6 * v1)) + v3).toNatClampNeg)).bind (fun yr25 =>
if wib ((7 + (6 * v1)) + v2) 25 then
(fX11_deepOf h (h.1 225 ((7 + (6 * v1)) + v2).toNatClampNeg)).bind (fun yr27 =>
if yr25 ≤ yr27 then
fX11_deepest_b68_19 h v1 v2 v3
else
fX11_deepest_b68_19 h v1 v3 v3)
else none)
else none
else none
def fX11_deepest (h : wSt) (x0 : Int32) : Option (Int32 × wSt) :=
wlet (wuI h 188 0 0) (fun yh21 =>
(fX11_isSkin yh21 x0).bind (fun yr22 =>
if yr22 = true then
(wit (fun v : (Int32 × Int32) => fX11_deepest_l19 yh21 x0 v.1 v.2) 3000 ((0 : Int32), (1 : Int32))).bind (fun ye28 =>
some (ye28, yh21))
else
some ((-1 : Int32), yh21)))
def fX11_bare_b54_19 (h : wSt) (v1 : Int32) (v3 : Int32) (w0 : Int32) (w1 : Int32) : Option ((Int32 × Int32) ⊕ ((Int32))) :=
some (.inl ((w0 ||| w1), (v3 + 1)))
def fX11_bare_l19 (h : wSt) (v1 : Int32) (v2 : Int32) (v3 : Int32) : Option ((Int32 × Int32) ⊕ ((Int32))) :=
if wib v1 6 then
if (h.1 193 v1.toNatClampNeg) ≤ v3 then
some (.inr v2)
else
if wib ((7 + (6 * v1)) + v3) 25 then
if (h.1 225 ((7 + (6 * v1)) + v3).toNatClampNeg) = 0 then
fX11_bare_b54_19 h v1 v3 v2 (1 <<< (v3 &&& 31))
else
fX11_bare_b54_19 h v1 v3 v2 (0 : Int32)
else none
else none
def fX11_bare (h : wSt) (x0 : Int32) : Option (Int32 × wSt) :=
wlet (wuI h 188 0 0) (fun yh21 =>
(fX11_isSkin yh21 x0).bind (fun yr22 =>
if yr22 = true then
(wit (fun v : (Int32 × Int32) => fX11_bare_l19 yh21 x0 v.1 v.2) 3000 ((0 : Int32), (0 : Int32))).bind (fun ye25 =>
if wib x0 6 then
some ((ye25 &&& ((yh21.1 195 x0.toNatClampNeg) ^^^ (-1))), yh21)
else none)
else
some ((-1 : Int32), yh21)))
def fX11_same_b61_17 (h : wSt) (v2 : Int32) (v3 : Int32) (w0 : Int32) (w1 : Int32) : Option ((Int32 × Int32) ⊕ ((Int32))) :=
some (.inl ((w0 + w1), (v3 + 1)))
def fX11_same_b60_17 (h : wSt) (v2 : Int32) (v3 : Int32) (w0 : Int32) : Option ((Int32 × Int32) ⊕ ((Int32))) :=
fX11_same_b61_17 h v2 v3 w0 (0 : Int32)
def fX11_same_l17 (h : wSt) (v2 : Int32) (v1 : Int32) (v3 : Int32) : Option ((Int32 × Int32) ⊕ ((Int32))) :=
if v2 ≤ v3 then
some (.inr v1)
else
if wib (7 + v2) 25 then
if (h.1 225 (7 + v2).toNatClampNeg) ≤ 0 then
fX11_same_b60_17 h v2 v3 v1
else
if wib (7 + v3) 25 then
if (h.1 225 (7 + v2).toNatClampNeg) = (h.1 225 (7 + v3).toNatClampNeg) then
fX11_same_b61_17 h v2 v3 v1 (1 : Int32)
else
fX11_same_b60_17 h v2 v3 v1
else none
else none
def fX11_same_l9 (h : wSt) (v1 : Int32) (v2 : Int32) : Option ((Int32 × Int32) ⊕ ((Int32))) :=
if 18 ≤ v2 then
some (.inr v1)
else
(wit (fun v : (Int32 × Int32) => fX11_same_l17 h v2 v.1 v.2) 3000 (v1, (0 : Int32))).bind (fun ye24 =>
some (.inl (ye24, (v2 + 1))))
def fX11_same (h : wSt) : Option (Int32 × wSt) :=
wlet (wuI h 188 0 0) (fun yh21 =>
(wit (fun v : (Int32 × Int32) => fX11_same_l9 yh21 v.1 v.2) 3000 ((0 : Int32), (0 : Int32))).bind (fun ye26 =>
some (ye26, yh21)))
def fX11_giveup_b105_18 (h : wSt) (v1 : Int32) (v2 : Int32) (v3 : Int32) (v4 : Int32) : Option ((Int32 × Int32 × Int32 × wSt) ⊕ ((Int32 × wSt))) :=
some (.inl (v1, v2, (v4 + 1), h))
def fX11_giveup_l18 (h : wSt) (v3 : Int32) (v1 : Int32) (v2 : Int32) (v4 : Int32) : Option ((Int32 × Int32 × Int32 × wSt) ⊕ ((Int32 × wSt))) :=
if (h.1 190 0) ≤ v4 then
some (.inr (v1, h))
else
(fX11_scrapedBy h v4 (63 : Int32)).bind (fun yr23 =>
if yr23 = 0 then
fX11_giveup_b105_18 h v1 v2 v3 v4
else
(fX11_copies h 225 25 (0 : Int32) 227 25 (0 : Int32)).bind (fun yr24 =>
(fX11_scrapes yr24 v4 (63 : Int32)).bind (fun yr25 =>
(fX11_wholeNow yr25 ).bind (fun yr26 =>
(fX11_bits yr26.2 (v3 &&& (yr26.1 ^^^ (-1)))).bind (fun yr27 =>
(fX11_copies yr26.2 227 25 (0 : Int32) 225 25 (0 : Int32)).bind (fun yr28 =>
if yr27 < v2 then
fX11_giveup_b105_18 yr28 v4 yr27 v3 v4
else
fX11_giveup_b105_18 yr28 v1 v2 v3 v4))))))
def fX11_giveup (h : wSt) : Option (Int32 × wSt) :=
wlet (wuI h 188 0 0) (fun yh21 =>
(fX11_wholeNow yh21 ).bind (fun yr22 =>
(wit (fun v : (Int32 × Int32 × Int32 × wSt) => fX11_giveup_l18 v.2.2.2 yr22.1 v.1 v.2.1 v.2.2.1) 3000 ((-1 : Int32), (7 : Int32), (0 : Int32), yr22.2)).bind (fun ye29 =>
some (ye29.1, ye29.2))))
def fX11_see (h : wSt) (x0 : Int32) (x1 : Int32) (x2 : Int32) (x3 : Int32) : Option (Bool × wSt) :=
wlet (wuI h 188 0 0) (fun yh21 =>
(fX11_isSkin yh21 x0).bind (fun yr22 =>
if yr22 = true then
(fX11_within yh21 x1 (1 : Int32) (9 : Int32)).bind (fun yr23 =>
if yr23 = true then
(fX11_within yh21 x2 (0 : Int32) (9 : Int32)).bind (fun yr24 =>
if yr24 = true then
if (yh21.1 220 0) = 8 then
some (false, yh21)
else
if wib (yh21.1 220 0) 40 then
wlet (wuI yh21 221 (yh21.1 220 0).toNatClampNeg x0) (fun yh26 =>
if wib (yh26.1 220 0) 40 then
wlet (wuI yh26 222 (yh26.1 220 0).toNatClampNeg x1) (fun yh28 =>
if wib (yh28.1 220 0) 40 then
wlet (wuI yh28 223 (yh28.1 220 0).toNatClampNeg x2) (fun yh30 =>
if wib (yh30.1 220 0) 40 then
wlet (wuI yh30 224 (yh30.1 220 0).toNatClampNeg (vp_nar .boolean x3)) (fun yh32 =>
wlet (wuI yh32 220 0 ((yh32.1 220 0) + 1)) (fun yh33 =>
some (true, yh33)))
else none)
else none)
else none)
else none
else
some (false, yh21))
else
some (false, yh21))
else
some (false, yh21)))
def fX11_who_b87_24 (h : wSt) (v1 : Int32) (v2 : Int32) (v4 : Int32) (w0 : Int32) : Option ((Int32 × Int32 × wSt) ⊕ ((Int32 × wSt))) :=
some (.inl (w0, (v4 + 1), h))
def fX11_who_b86_24 (h : wSt) (v1 : Int32) (v2 : Int32) (v4 : Int32) : Option ((Int32 × Int32 × wSt) ⊕ ((Int32 × wSt))) :=
fX11_who_b87_24 h v1 v2 v4 (0 : Int32)
def fX11_who_l24 (h : wSt) (v1 : Int32) (v2 : Int32) (v3 : Int32) (v4 : Int32) : Option ((Int32 × Int32 × wSt) ⊕ ((Int32 × wSt))) :=
if (h.1 220 0) ≤ v4 then
some (.inr (v3, h))
else
if v3 = 0 then
fX11_who_b86_24 h v1 v2 v4
else
if wib v4 40 then
if wib (1 + (h.1 221 v4.toNatClampNeg)) 25 then
(fX11_showsBy h v2 (h.1 222 v4.toNatClampNeg) (h.1 225 (1 + (h.1 221 v4.toNatClampNeg)).toNatClampNeg) (h.1 223 v4.toNatClampNeg)).bind (fun yr24 =>
if (wb yr24.1) = (yr24.2.1 224 v4.toNatClampNeg) then
fX11_who_b87_24 yr24.2 v1 v2 v4 (1 : Int32)
else
fX11_who_b86_24 yr24.2 v1 v2 v4)
else none
else none
def fX11_who_b106_9 (h : wSt) (v2 : Int32) (w0 : Int32) (w1 : Int32) : Option ((Int32 × Int32 × wSt) ⊕ ((Int32 × wSt))) :=
some (.inl ((w0 ||| w1), (v2 + 1), h))
def fX11_who_l9 (h : wSt) (v1 : Int32) (v2 : Int32) : Option ((Int32 × Int32 × wSt) ⊕ ((Int32 × wSt))) :=
if (h.1 190 1) ≤ v2 then
some (.inr (v1, h))
else
(wit (fun v : (Int32 × Int32 × wSt) => fX11_who_l24 v.2.2 v1 v2 v.1 v.2.1) 3000 ((1 : Int32), (0 : Int32), h)).bind (fun ye25 =>
if ye25.1 = 0 then
fX11_who_b106_9 ye25.2 v2 v1 (0 : Int32)
else
fX11_who_b106_9 ye25.2 v2 v1 (1 <<< (v2 &&& 31)))
def fX11_who (h : wSt) : Option (Int32 × wSt) :=
wlet (wuI h 188 0 0) (fun yh21 =>
(wit (fun v : (Int32 × Int32 × wSt) => fX11_who_l9 v.2.2 v.1 v.2.1) 3000 ((0 : Int32), (0 : Int32), yh21)).bind (fun ye28 =>
some (ye28.1, ye28.2)))
def fX11_ask_b100_45 (h : wSt) (v1 : Int32) (v2 : Int32) (v3 : Int32) (v4 : Int32) (v5 : Int32) (v7 : Int32) (w0 : Int32) (w1 : Int32) : Option ((Int32 × Int32 × wSt) ⊕ ((Int32 × wSt))) :=
some (.inl ((w0 + w1), (v7 + 1), h))
def fX11_ask_b99_45 (h : wSt) (v1 : Int32) (v2 : Int32) (v3 : Int32) (v4 : Int32) (v5 : Int32) (v7 : Int32) (w0 : Int32) : Option ((Int32 × Int32 × wSt) ⊕ ((Int32 × wSt))) :=
fX11_ask_b100_45 h v1 v2 v3 v4 v5 v7 w0 (0 : Int32)
def fX11_ask_l45 (h : wSt) (v1 : Int32) (v2 : Int32) (v3 : Int32) (v4 : Int32) (v5 : Int32) (v6 : Int32) (v7 : Int32) : Option ((Int32 × Int32 × wSt) ⊕ ((Int32 × wSt))) :=
if (h.1 190 1) ≤ v7 then
some (.inr (v6, h))
else
if ((v2 >>> (v7 &&& 31)) &&& 1) = 1 then
if wib (1 + v1) 25 then
(fX11_showsBy h v7 (v5 / 10) (h.1 225 (1 + v1).toNatClampNeg) (v5 - v5 / 10 * 10)).bind (fun yr26 =>
if yr26.1 = true then
fX11_ask_b100_45 yr26.2 v1 v2 v3 v4 v5 v7 v6 (1 : Int32)
else
fX11_ask_b99_45 yr26.2 v1 v2 v3 v4 v5 v7 v6)
else none
else
fX11_ask_b99_45 h v1 v2 v3 v4 v5 v7 v6
def fX11_ask_b139_32 (h : wSt) (v1 : Int32) (v2 : Int32) (v3 : Int32) (v4 : Int32) (v5 : Int32) : Option ((Int32 × Int32 × Int32 × wSt) ⊕ ((Int32 × wSt))) :=
some (.inl (v3, v4, (v5 + 1), h))
def fX11_ask_l32 (h : wSt) (v1 : Int32) (v2 : Int32) (v3 : Int32) (v4 : Int32) (v5 : Int32) : Option ((Int32 × Int32 × Int32 × wSt) ⊕ ((Int32 × wSt))) :=
if 100 ≤ v5 then
some (.inr (v4, h))
else
(wit (fun v : (Int32 × Int32 × wSt) => fX11_ask_l45 v.2.2 v1 v2 v3 v4 v5 v.1 v.2.1) 3000 ((0 : Int32), (0 : Int32), h)).bind (fun ye27 =>
(fX11_bits ye27.2 v2).bind (fun yr30 =>
if (wmx ye27.1 (yr30 - ye27.1)) < v3 then
fX11_ask_b139_32 ye27.2 v1 v2 (wmx ye27.1 (yr30 - ye27.1)) v5 v5
else
fX11_ask_b139_32 ye27.2 v1 v2 v3 v4 v5))
def fX11_ask (h : wSt) (x0 : Int32) : Option (Int32 × wSt) :=
wlet (wuI h 188 0 0) (fun yh21 =>
(fX11_isSkin yh21 x0).bind (fun yr22 =>
if yr22 = true then
(fX11_who yh21 ).bind (fun yr23 =>
(fX11_bits yr23.2 yr23.1).bind (fun yr24 =>
(wit (fun v : (Int32 × Int32 × Int32 × wSt) => fX11_ask_l32 v.2.2.2 x0 yr23.1 v.1 v.2.1 v.2.2.1) 3000 (yr24, (-1 : Int32), (10 : Int32), yr23.2)).bind (fun ye31 =>
some (ye31.1, ye31.2))))
else
some ((-1 : Int32), yh21)))
def fX11_chance_l88 (h : wSt) (v2 : Int32) (v4 : Int64) (v6 : Int64) (v8 : Int64) (v10 : Int32) : Option ((Int64 × Int64 × Int32) ⊕ ((Int64 × Int64))) :=
if v2 ≤ v10 then
some (.inr (v6, v8))
else
some (.inl ((v6 * v4), (v8 * 10), (v10 + 1)))
def fX11_chance_b75 (h : wSt) (v2 : Int32) (w0 : Int32) (w1 : Int32) : Option (Int32 × wSt) :=
(wit (fun v : (Int64 × Int64 × Int32) => fX11_chance_l88 h v2 ((w0 + w1).toInt64) v.1 v.2.1 v.2.2) 3000 ((1 : Int64), (1 : Int64), (0 : Int32))).bind (fun ye27 =>
if ¬ ye27.2 = 0 then
some ((((ye27.2 - ye27.1) * 1000000) / ye27.2).toInt32, h)
else none)
def fX11_chance_b54 (h : wSt) (v1 : Int32) (v2 : Int32) (v3 : Int32) (w0 : Int32) : Option (Int32 × wSt) :=
(fX11_wholeBy h (0 : Int32)).bind (fun yr26 =>
if ((yr26.1 >>> (v1 &&& 31)) &&& 1) = 1 then
fX11_chance_b75 yr26.2 v2 w0 (0 : Int32)
else
fX11_chance_b75 yr26.2 v2 w0 (10 - v3))
def fX11_chance (h : wSt) (x0 : Int32) (x1 : Int32) (x2 : Int32) : Option (Int32 × wSt) :=
wlet (wuI h 188 0 0) (fun yh21 =>
(fX11_isText yh21 x0).bind (fun yr22 =>
if yr22 = true then
(fX11_within yh21 x1 (1 : Int32) (6 : Int32)).bind (fun yr23 =>
if yr23 = true then
(fX11_within yh21 x2 (0 : Int32) (10 : Int32)).bind (fun yr24 =>
if yr24 = true then
(fX11_wholeBy yh21 (9 : Int32)).bind (fun yr25 =>
if ((yr25.1 >>> (x0 &&& 31)) &&& 1) = 1 then
fX11_chance_b54 yr25.2 x0 x1 x2 (0 : Int32)
else
fX11_chance_b54 yr25.2 x0 x1 x2 x2)
else
some ((-1 : Int32), yh21))
else
some ((-1 : Int32), yh21))
else
some ((-1 : Int32), yh21)))
def fX11_getsBy (h : wSt) (x0 : Int32) (x1 : Int32) (x2 : Int32) (x3 : Int32) (x4 : Int32) : Option (Int32) :=
if x3 = 1 then
if x4 = 1 then
some (-x0)
else
some x1
else
if x4 = 1 then
some x2
else
some (0 : Int32)
def fX11_rests_b145_61 (h : wSt) (v1 : Int32) (v2 : Int32) (v3 : Int32) (v4 : Int32) (v5 : Int32) (v6 : Int32) : Option ((Int32 × Int32) ⊕ ((Int32) ⊕ (Int32 × wSt))) :=
some (.inl (v5, (v6 + 1)))
def fX11_rests_l61 (h : wSt) (v1 : Int32) (v2 : Int32) (v3 : Int32) (v4 : Int32) (v5 : Int32) (v6 : Int32) : Option ((Int32 × Int32) ⊕ ((Int32) ⊕ (Int32 × wSt))) :=
if 4 ≤ v6 then
some (.inr (.inl v5))
else
(fX11_getsBy h v1 v2 v3 (1 - (v6 / 2)) (v6 - v6 / 2 * 2)).bind (fun yr23 =>
(fX11_getsBy h v1 v2 v3 (v6 / 2) (v6 - v6 / 2 * 2)).bind (fun yr24 =>
if yr24 < yr23 then
fX11_rests_b145_61 h v1 v2 v3 v4 v5 v6
else
(fX11_getsBy h v1 v2 v3 (1 - (v6 - v6 / 2 * 2)) (v6 / 2)).bind (fun yr25 =>
(fX11_getsBy h v1 v2 v3 (v6 - v6 / 2 * 2) (v6 / 2)).bind (fun yr26 =>
if yr25 ≤ yr26 then
if v5 = v4 then
some (.inr (.inr (v6, h)))
else
fX11_rests_b145_61 h v1 v2 v3 v4 (v5 + 1) v6
else
fX11_rests_b145_61 h v1 v2 v3 v4 v5 v6))))
def fX11_rests_b163 (h : wSt) (v4 : Int32) (v5 : Int32) (w1 : Int32) : Option (Int32 × wSt) :=
wlet (wuI h 188 0 w1) (fun yh29 =>
if v4 = (-1) then
some (v5, yh29)
else
some ((0 : Int32), yh29))
def fX11_rests_b42 (h : wSt) (v1 : Int32) (v2 : Int32) (v3 : Int32) (v4 : Int32) (w1 : Int32) : Option (Int32 × wSt) :=
wlet (wuI h 188 0 w1) (fun yh22 =>
if (yh22.1 188 0) = 1 then
some ((0 : Int32), yh22)
else
(wit (fun v : (Int32 × Int32) => fX11_rests_l61 yh22 v1 v2 v3 v4 v.1 v.2) 3000 ((0 : Int32), (0 : Int32))).bind (fun ye27 => match ye27 with
| .inl ye27v =>
if v4 = (-1) then
fX11_rests_b163 yh22 v4 ye27v (0 : Int32)
else
fX11_rests_b163 yh22 v4 ye27v (1 : Int32)
| .inr ye27r =>
some ye27r))
def fX11_rests_b41 (h : wSt) (v1 : Int32) (v2 : Int32) (v3 : Int32) (v4 : Int32) : Option (Int32 × wSt) :=
fX11_rests_b42 h v1 v2 v3 v4 (1 : Int32)
def fX11_rests (h : wSt) (x0 : Int32) (x1 : Int32) (x2 : Int32) (x3 : Int32) : Option (Int32 × wSt) :=
(fX11_within h x0 (0 : Int32) (9 : Int32)).bind (fun yr21 =>
if yr21 = true then
(fX11_within h x1 (0 : Int32) (9 : Int32)).bind (fun yr30 =>
if yr30 = true then
(fX11_within h x2 (0 : Int32) (9 : Int32)).bind (fun yr31 =>
if yr31 = true then
if x3 < (-1) then
fX11_rests_b41 h x0 x1 x2 x3
else
fX11_rests_b42 h x0 x1 x2 x3 (0 : Int32)
else
fX11_rests_b41 h x0 x1 x2 x3)
else
fX11_rests_b41 h x0 x1 x2 x3)
else
fX11_rests_b41 h x0 x1 x2 x3)
def fX11_draws (h : wSt) (x0 : Int32) : Option (Int32 × wSt) :=
wlet (wuJ h 188 58 ((((h.2 188 58) * 1103515245) + 12345) - (((h.2 188 58) * 1103515245) + 12345) / 2147483648 * 2147483648)) (fun yh21 =>
if ¬ x0.toInt64 = 0 then
some ((((yh21.2 188 58) / 65536) - ((yh21.2 188 58) / 65536) / x0.toInt64 * x0.toInt64).toInt32, yh21)
else none)
def fX11_livesWeek_b129 (h : wSt) (v1 : Int32) : Option (Bool × wSt) :=
wlet (wuI h 225 0 ((h.1 225 0) + 1)) (fun yh21 =>
if v1 = 0 ∨ v1 = 1 then
some ((decide (v1 = 1)), yh21)
else none)
def fX11_livesWeek_b126 (h : wSt) (v1 : Int32) (w1 : Int32) (w2 : Int32) : Option (Bool × wSt) :=
(fX11_scrapes h w1 w2).bind (fun yr29 =>
fX11_livesWeek_b129 yr29 v1)
def fX11_livesWeek_b106 (h : wSt) (v1 : Int32) (v3 : Int32) (v5 : Int32) (w1 : Int32) (w2 : Int32) : Option (Bool × wSt) :=
(fX11_scrapedBy h w1 w2).bind (fun yr28 =>
if yr28 ≤ 0 then
fX11_livesWeek_b129 h v1
else
if v5 = 0 then
fX11_livesWeek_b126 h v1 v3 (63 : Int32)
else
fX11_livesWeek_b126 h v1 v3 (9 : Int32))
def fX11_livesWeek_b86 (h : wSt) (v1 : Int32) (v3 : Int32) (v5 : Int32) : Option (Bool × wSt) :=
if 2 ≤ v5 then
fX11_livesWeek_b129 h v1
else
if v5 = 0 then
fX11_livesWeek_b106 h v1 v3 v5 v3 (63 : Int32)
else
fX11_livesWeek_b106 h v1 v3 v5 v3 (9 : Int32)
def fX11_livesWeek_b72 (h : wSt) (v1 : Int32) (v2 : Int32) (v3 : Int32) (v4 : Int32) (w0 : Int32) : Option (Bool × wSt) :=
if v1 = 0 then
fX11_livesWeek_b86 h v1 v3 w0
else
(fX11_writes h v2 v3 v4).bind (fun yr30 =>
fX11_livesWeek_b86 yr30 v1 v3 w0)
def fX11_livesWeek (h : wSt) : Option (Bool × wSt) :=
if (h.1 190 1) ≤ 0 then
fX11_livesWeek_b129 h (0 : Int32)
else
if (h.1 190 0) ≤ 0 then
fX11_livesWeek_b129 h (0 : Int32)
else
(fX11_draws h (h.1 190 1)).bind (fun yr23 =>
(fX11_draws yr23.2 (yr23.2.1 190 0)).bind (fun yr24 =>
(fX11_draws yr24.2 (6 : Int32)).bind (fun yr25 =>
(fX11_canWrite yr25.2 yr23.1 yr24.1 yr25.1).bind (fun yr26 =>
if yr26 = true then
fX11_livesWeek_b72 yr25.2 (wb yr26) yr23.1 yr24.1 yr25.1 (2 : Int32)
else
(fX11_draws yr25.2 (3 : Int32)).bind (fun yr27 =>
fX11_livesWeek_b72 yr27.2 (wb yr26) yr23.1 yr24.1 yr25.1 yr27.1)))))
def fX11_allThick (h : wSt) : Option (Int32) :=
some (((h.1 225 1) + (h.1 225 2)) + (h.1 225 3))
def fX11_years_b82_62 (h : wSt) (v2 : Int32) (v3 : Int32) (v5 : Int32) (w0 : Int32) (w1 : Int32) : Option ((Int32 × Int32 × wSt) ⊕ ((Int32 × wSt))) :=
some (.inl ((w0 + w1), (v5 + 1), h))
def fX11_years_l62 (h : wSt) (v2 : Int32) (v3 : Int32) (v4 : Int32) (v5 : Int32) : Option ((Int32 × Int32 × wSt) ⊕ ((Int32 × wSt))) :=
if v2 ≤ v5 then
some (.inr (v4, h))
else
(fX11_livesWeek h ).bind (fun yr27 =>
if yr27.1 = true then
fX11_years_b82_62 yr27.2 v2 v3 v5 v4 (1 : Int32)
else
fX11_years_b82_62 yr27.2 v2 v3 v5 v4 (0 : Int32))
def fX11_years (h : wSt) (x0 : Int32) (x1 : Int32) (x2 : Int32) : Option (Int32 × wSt) :=
wlet (wuI h 188 0 0) (fun yh21 =>
(fX11_within yh21 x0 (0 : Int32) (9999 : Int32)).bind (fun yr22 =>
if yr22 = true then
(fX11_within yh21 x1 (1 : Int32) (99 : Int32)).bind (fun yr23 =>
if yr23 = true then
(fX11_within yh21 x2 (0 : Int32) (2 : Int32)).bind (fun yr24 =>
if yr24 = true then
wlet (wuJ yh21 188 58 x0.toInt64) (fun yh25 =>
(fX11_copies yh25 225 25 (0 : Int32) 226 25 (0 : Int32)).bind (fun yr26 =>
(wit (fun v : (Int32 × Int32 × wSt) => fX11_years_l62 v.2.2 x1 x2 v.1 v.2.1) 3000 ((0 : Int32), (0 : Int32), yr26)).bind (fun ye28 =>
(fX11_wholeNow ye28.2 ).bind (fun yr31 =>
(fX11_allThick yr31.2 ).bind (fun yr32 =>
(fX11_copies yr31.2 226 25 (0 : Int32) 225 25 (0 : Int32)).bind (fun yr33 =>
if x2 = 0 then
some (ye28.1, yr33)
else
if x2 = 1 then
some (yr31.1, yr33)
else
some (yr32, yr33)))))))
else
some ((-1 : Int32), yh21))
else
some ((-1 : Int32), yh21))
else
some ((-1 : Int32), yh21)))
def fX11_mark_b59 (h : wSt) (v1 : Int32) (v2 : Int32) (v3 : Int32) (w0 : Int32) : Option (Bool × wSt) :=
(fX11_laysLines h v3 w0).bind (fun yr25 =>
(fX11_laysSeen yr25 v3 w0).bind (fun yr26 =>
if v2 = 0 then
(fX11_copies yr26 225 25 (0 : Int32) 228 100 (25 * v1)).bind (fun yr27 =>
some (true, yr27))
else
(fX11_copies yr26 228 100 (25 * v1) 225 25 (0 : Int32)).bind (fun yr28 =>
wlet (wuI yr28 188 54 0) (fun yh29 =>
some (true, yh29)))))
def fX11_mark_b47 (h : wSt) (v1 : Int32) (v2 : Int32) (w0 : Int32) : Option (Bool × wSt) :=
if v2 = 0 then
fX11_mark_b59 h v1 v2 w0 (1 + v1)
else
fX11_mark_b59 h v1 v2 w0 (0 : Int32)
def fX11_mark_b29 (h : wSt) (v1 : Int32) (v2 : Int32) : Option (Bool × wSt) :=
if wib v1 4 then
wlet (wuI h 230 v1.toNatClampNeg (vp_nar .boolean 1)) (fun yh24 =>
if v2 = 0 then
fX11_mark_b47 yh24 v1 v2 (0 : Int32)
else
fX11_mark_b47 yh24 v1 v2 (1 + v1))
else none
def fX11_mark (h : wSt) (x0 : Int32) (x1 : Int32) : Option (Bool × wSt) :=
wlet (wuI h 188 0 0) (fun yh21 =>
(fX11_within yh21 x0 (0 : Int32) (3 : Int32)).bind (fun yr22 =>
if yr22 = true then
if x1 = 0 then
fX11_mark_b29 yh21 x0 x1
else
if wib x0 4 then
if (yh21.1 230 x0.toNatClampNeg) = 0 then
some (false, yh21)
else
fX11_mark_b29 yh21 x0 x1
else none
else
some (false, yh21)))
def fX11_allLayers_l4 (h : wSt) (v1 : Int32) (v2 : Int32) : Option ((Int32 × Int32) ⊕ ((Int32))) :=
if 18 ≤ v2 then
some (.inr v1)
else
if wib (7 + v2) 25 then
(fX11_deepOf h (h.1 225 (7 + v2).toNatClampNeg)).bind (fun yr22 =>
some (.inl ((v1 + yr22), (v2 + 1))))
else none
def fX11_allLayers (h : wSt) : Option (Int32) :=
(wit (fun v : (Int32 × Int32) => fX11_allLayers_l4 h v.1 v.2) 3000 ((0 : Int32), (0 : Int32))).bind (fun ye23 =>
some ye23)
def fX11_count (h : wSt) (x0 : Int32) : Option (Int32 × wSt) :=
wlet (wuI h 188 0 0) (fun yh21 =>
(fX11_within yh21 x0 (0 : Int32) (11 : Int32)).bind (fun yr22 =>
if yr22 = true then
if 2 ≤ x0 then
if 5 ≤ x0 then
if 8 ≤ x0 then
if 10 ≤ x0 then
if x0 = 10 then
some ((yh21.1 188 54), yh21)
else
some ((yh21.1 188 1), yh21)
else
if x0 = 8 then
some ((yh21.1 215 0), yh21)
else
some ((yh21.1 220 0), yh21)
else
if x0 = 5 then
(fX11_gones yh21 ).bind (fun yr25 =>
some (yr25, yh21))
else
if x0 = 6 then
(fX11_allLayers yh21 ).bind (fun yr24 =>
some (yr24, yh21))
else
(fX11_wholeNow yh21 ).bind (fun yr23 =>
some (yr23.1, yr23.2))
else
if x0 = 2 then
some ((yh21.1 225 0), yh21)
else
if x0 = 3 then
(fX11_dampOf yh21 (yh21.1 225 0)).bind (fun yr27 =>
some (yr27, yh21))
else
(fX11_allThick yh21 ).bind (fun yr26 =>
some (yr26, yh21))
else
if wib x0 6 then
some ((yh21.1 190 x0.toNatClampNeg), yh21)
else none
else
some ((-1 : Int32), yh21)))
section WX
variable {p : Program} {l : Launch} {e : Env} {s : State} {m : MethodId} {args : Array Value} {below : List Frame} {meth : Method} {c : Code} {D : va_G} {dA : Nat → ClassId} {b0 : Nat} {ad : Nat → Nat} {F : Option Value → wSt → Prop}
set_option maxRecDepth 4000 in
theorem pX11_lay_b21 (X : wCx p s m args meth c RX11 cX11_lay 2 D dA b0 ad) (hr : meth.sig.returnType = (some .int)) {h : wSt} {v1 : Int32} {K : Int32 × wSt → Prop} (hT : ∀ (x : Int32) (h2 : wSt), K (x, h2) → F (some (.int x)) h2)  (hf : wok (fX11_lay_b21 h v1) K) : wM p l e (wR 67) s m args below meth c 0 0 (wE below args s D dA b0 ad S0 F) 2 D dA b0 ad S0 21 [some (.ref 188), some (.int v1)] [] h := by
  unfold fX11_lay_b21 at hf
  refine w_aload_n X dX11_lay_21 rfl rfl rfl ?_
  refine w_iconst X dX11_lay_22 rfl ci_m1 ?_
  refine w_putI X dX11_lay_23 rfl fp_X11_439 S0_188 rfl ?_
  refine w_nmh (fun yh22 eyh22 => ?_)
  have hf := wok_l hf eyh22
  refine w_aload_n X dX11_lay_26 rfl rfl rfl ?_
  refine w_iconst X dX11_lay_27 rfl ci_0 ?_
  refine w_iconst X dX11_lay_28 rfl ci_0 ?_
  obtain ⟨yr23, eyr23, hf⟩ := wok_b hf
  refine w_callV X dX11_lay_29 rfl vl_X11_442 (kX11_writesAll l  eyr23) S0_188 (As := [.int 0, .int 0]) (st := []) rfl rfl (Nat.le_of_ble_eq_true rfl) ⟨Nat.le_of_ble_eq_true rfl, Nat.le_of_ble_eq_true rfl⟩ ⟨Nat.zero_le _, Nat.zero_le _⟩ (fun r h2 hF => ?_)
  obtain ⟨rfl, rfl⟩ := hF
  show wM p l e (wR 67) s m args below meth c 0 0 (wE below args s D dA b0 ad S0 F) 2 D dA b0 ad S0 32 [some (.ref 188), some (.int v1)] [] yr23
  refine w_iload_n X dX11_lay_32 rfl rfl rfl ?_
  refine w_iconst X dX11_lay_33 rfl ci_m1 ?_
  refine w_icmp_ne X dX11_lay_34 rfl (t := 44) rfl (fun hc => ?_) (fun hc => ?_)
  · have hf := wok_f hf hc
    refine w_aload_n X dX11_lay_44 rfl rfl rfl ?_
    refine w_getR X dX11_lay_45 rfl fl_X11_141 S0_188 rfl ?_
    refine w_iload_n X dX11_lay_48 rfl rfl rfl ?_
    obtain ⟨yhg24, hf⟩ := wok_g hf
    refine w_iald X dX11_lay_49 rfl (j := v1.toNatClampNeg) rfl S0_232 yhg24 ?_
    exact w_iret X dX11_lay_50 hr (hT _ _ (wok_s hf))
  · have hf := wok_t hf hc
    refine w_aload_n X dX11_lay_37 rfl rfl rfl ?_
    refine w_getI X dX11_lay_38 rfl fl_X11_439 S0_188 rfl ?_
    refine w_goto X dX11_lay_41 (t := 50) rfl ?_
    exact w_iret X dX11_lay_50 hr (hT _ _ (wok_s hf))
set_option maxRecDepth 4000 in
theorem pX11_lay_b0 (X : wCx p s m args meth c RX11 cX11_lay 2 D dA b0 ad) (hr : meth.sig.returnType = (some .int)) {h : wSt} {x0 : Int32} {K : Int32 × wSt → Prop} (hT : ∀ (x : Int32) (h2 : wSt), K (x, h2) → F (some (.int x)) h2) (hf : wok (fX11_lay h x0) K) : wM p l e (wR 67) s m args below meth c 0 0 (wE below args s D dA b0 ad S0 F) 2 D dA b0 ad S0 0 [some (.ref 188), some (.int x0)] [] h := by
  unfold fX11_lay at hf
  refine w_aload_n X dX11_lay_0 rfl rfl rfl ?_
  refine w_iconst X dX11_lay_1 rfl ci_0 ?_
  refine w_putI X dX11_lay_2 rfl fp_X11_144 S0_188 rfl ?_
  refine w_nmh (fun yh21 eyh21 => ?_)
  have hf := wok_l hf eyh21
  refine w_iload_n X dX11_lay_5 rfl rfl rfl ?_
  refine w_iconst X dX11_lay_6 rfl ci_m1 ?_
  refine w_icmp_eq X dX11_lay_7 rfl (t := 21) rfl (fun hc => ?_) (fun hc => ?_)
  · have hf := wok_t hf hc
    exact pX11_lay_b21 X hr  hT hf
  · have hf := wok_f hf hc
    refine w_aload_n X dX11_lay_10 rfl rfl rfl ?_
    refine w_iload_n X dX11_lay_11 rfl rfl rfl ?_
    obtain ⟨yr25, eyr25, hf⟩ := wok_b hf
    refine w_callV X dX11_lay_12 rfl vl_X11_387 (kX11_isText l  eyr25) S0_188 (As := [.int x0]) (st := []) rfl rfl (Nat.le_of_ble_eq_true rfl) ⟨Nat.le_of_ble_eq_true rfl, Nat.le_of_ble_eq_true rfl⟩ ⟨Nat.zero_le _, Nat.zero_le _⟩ (fun r h2 hF => ?_)
    obtain ⟨_, rfl, rfl, rfl⟩ := hF
    show wM p l e (wR 67) s m args below meth c 0 0 (wE below args s D dA b0 ad S0 F) 2 D dA b0 ad S0 15 [some (.ref 188), some (.int x0)] [.int (wb yr25)] yh21
    refine w_if_ne X dX11_lay_15 rfl (t := 21) rfl (fun hc => ?_) (fun hc => ?_)
    · have hf := wok_t hf (wb_n0 hc)
      exact pX11_lay_b21 X hr  hT hf
    · have hf := wok_f hf (wb_0 hc)
      refine w_bipush X dX11_lay_18 rfl cb_m2 ?_
      exact w_iret X dX11_lay_20 hr (hT _ _ (wok_s hf))
set_option maxRecDepth 4000 in
theorem kX11_lay (l : Launch) {h : wSt} {x0 : Int32} {res : Int32 × wSt} (hf : fX11_lay h x0 = some res) : wC l yX11_lay cX11_lay 2 (some .int) 67 S0 [.ref 188, .int x0] h (wFI (fun a b => res.1 = a ∧ res.2 = b)) := by
  refine w_meth2 0 (by decide) (Nat.le_of_ble_eq_true rfl) (ls := [some (.ref 188), some (.int x0)]) rfl ?_
  intro p e s m args below meth c D dA b0 ad X hr
  exact pX11_lay_b0 X hr  (K := fun z => res = z) (fun x h2 hz => ⟨x, rfl, by rw [hz], by rw [hz]⟩) ⟨res, hf, rfl⟩
set_option maxRecDepth 4000 in
theorem pX11_bears_l46b (X : wCx p s m args meth c RX11 cX11_bears 5 D dA b0 ad) (hr : meth.sig.returnType = (some .int)) {h : wSt} {v1 : Int32} {v2 : Int32} {v3 : Int32} {v4 : Int32} {K : (Int32 × Int32 × wSt) ⊕ ((Int32 × wSt)) → Prop} (hN : ∀ (n3 : Int32) (n4 : Int32) (nh : wSt), K (.inl (n3, n4, nh)) → wM p l e (wR 3) s m args below meth c 0 0 (wE below args s D dA b0 ad S0 F) 5 D dA b0 ad S0 46 [some (.ref 188), some (.int v1), some (.int v2), some (.int n3), some (.int n4)] [] nh) (hX0 : ∀ (n3 : Int32) (nh : wSt), K (.inr (n3, nh)) → wM p l e (wR 3) s m args below meth c 0 0 (wE below args s D dA b0 ad S0 F) 5 D dA b0 ad S0 80 [some (.ref 188), none, none, some (.int n3), none] [] nh) (hf : wok (fX11_bears_l46 h v1 v2 v3 v4) K) : wM p l e (wR 3) s m args below meth c 0 0 (wE below args s D dA b0 ad S0 F) 5 D dA b0 ad S0 46 [some (.ref 188), some (.int v1), some (.int v2), some (.int v3), some (.int v4)] [] h := by
  unfold fX11_bears_l46 at hf
  refine w_iload X dX11_bears_46 rfl rfl ?_
  refine w_if_lt X dX11_bears_48 rfl (t := 80) rfl (fun hc => ?_) (fun hc => ?_)
  · have hf := wok_t hf hc
    refine w_fg (ls2 := [some (.ref 188), none, none, some (.int v3), none]) ⟨rfl, rfl, trivial⟩ ?_
    exact hX0 _ _ (wok_s hf)
  · have hf := wok_f hf hc
    refine w_aload_n X dX11_bears_51 rfl rfl rfl ?_
    refine w_iload_n X dX11_bears_52 rfl rfl rfl ?_
    refine w_iload_n X dX11_bears_53 rfl rfl rfl ?_
    refine w_iload X dX11_bears_54 rfl rfl ?_
    obtain ⟨yr26, eyr26, hf⟩ := wok_b hf
    refine w_callV X dX11_bears_56 rfl vl_X11_412 (kX11_writes l  eyr26) S0_188 (As := [.int v2, .int v1, .int v4]) (st := []) rfl rfl (Nat.le_of_ble_eq_true rfl) ⟨Nat.le_of_ble_eq_true rfl, Nat.le_of_ble_eq_true rfl⟩ ⟨Nat.zero_le _, Nat.zero_le _⟩ (fun r h2 hF => ?_)
    obtain ⟨rfl, rfl⟩ := hF
    show wM p l e (wR 3) s m args below meth c 0 0 (wE below args s D dA b0 ad S0 F) 5 D dA b0 ad S0 59 [some (.ref 188), some (.int v1), some (.int v2), some (.int v3), some (.int v4)] [] yr26
    refine w_aload_n X dX11_bears_59 rfl rfl rfl ?_
    refine w_iload_n X dX11_bears_60 rfl rfl rfl ?_
    refine w_bipush X dX11_bears_61 rfl cb_63 ?_
    obtain ⟨yr27, eyr27, hf⟩ := wok_b hf
    refine w_callV X dX11_bears_63 rfl vl_X11_416 (kX11_scrapes l  eyr27) S0_188 (As := [.int v1, .int 63]) (st := []) rfl rfl (Nat.le_of_ble_eq_true rfl) ⟨Nat.le_of_ble_eq_true rfl, Nat.le_of_ble_eq_true rfl⟩ ⟨Nat.zero_le _, Nat.zero_le _⟩ (fun r h2 hF => ?_)
    obtain ⟨rfl, rfl⟩ := hF
    show wM p l e (wR 3) s m args below meth c 0 0 (wE below args s D dA b0 ad S0 F) 5 D dA b0 ad S0 66 [some (.ref 188), some (.int v1), some (.int v2), some (.int v3), some (.int v4)] [] yr27
    refine w_iinc X dX11_bears_66 rfl (v := (v3 + 1)) rfl rfl (Nat.le_of_ble_eq_true rfl) (cinc_1 _) (ls' := [some (.ref 188), some (.int v1), some (.int v2), some (.int (v3 + 1)), some (.int v4)]) rfl ?_
    refine w_aload_n X dX11_bears_69 rfl rfl rfl ?_
    refine w_iload_n X dX11_bears_70 rfl rfl rfl ?_
    refine w_iload_n X dX11_bears_71 rfl rfl rfl ?_
    obtain ⟨yr28, eyr28, hf⟩ := wok_b hf
    refine w_callV X dX11_bears_72 rfl vl_X11_428 (kX11_placeOf l  eyr28) S0_188 (As := [.int v2, .int v1]) (st := []) rfl rfl (Nat.le_of_ble_eq_true rfl) ⟨Nat.le_of_ble_eq_true rfl, Nat.le_of_ble_eq_true rfl⟩ ⟨Nat.zero_le _, Nat.zero_le _⟩ (fun r h2 hF => ?_)
    obtain ⟨_, rfl, rfl, rfl⟩ := hF
    show wM p l e (wR 3) s m args below meth c 0 0 (wE below args s D dA b0 ad S0 F) 5 D dA b0 ad S0 75 [some (.ref 188), some (.int v1), some (.int v2), some (.int (v3 + 1)), some (.int v4)] [.int yr28] yr27
    refine w_istore X dX11_bears_75 rfl rfl (Nat.le_of_ble_eq_true rfl) (ls' := [some (.ref 188), some (.int v1), some (.int v2), some (.int (v3 + 1)), some (.int yr28)]) rfl ?_
    refine w_goto X dX11_bears_77 (t := 46) rfl ?_
    exact hN _ _ _ (wok_s hf)
set_option maxRecDepth 4000 in
theorem pX11_bears_l46 (X : wCx p s m args meth c RX11 cX11_bears 5 D dA b0 ad) (hr : meth.sig.returnType = (some .int))  {v1 : Int32} {v2 : Int32} {KE : (Int32 × wSt) → Prop} (hX0 : ∀ (n3 : Int32) (nh : wSt), KE ((n3, nh)) → wM p l e (wR 3) s m args below meth c 0 0 (wE below args s D dA b0 ad S0 F) 5 D dA b0 ad S0 80 [some (.ref 188), none, none, some (.int n3), none] [] nh) : ∀ (n : Nat) (v3 : Int32) (v4 : Int32) (h : wSt), wok (wit (fun v : (Int32 × Int32 × wSt) => fX11_bears_l46 v.2.2 v1 v2 v.1 v.2.1) n (v3, v4, h)) KE → wM p l e (wR 3) s m args below meth c 0 0 (wE below args s D dA b0 ad S0 F) 5 D dA b0 ad S0 46 [some (.ref 188), some (.int v1), some (.int v2), some (.int v3), some (.int v4)] [] h := by
  have key := wit_M (b := (fun v : (Int32 × Int32 × wSt) => fX11_bears_l46 v.2.2 v1 v2 v.1 v.2.1)) (KE := KE) (G := fun v => wM p l e (wR 3) s m args below meth c 0 0 (wE below args s D dA b0 ad S0 F) 5 D dA b0 ad S0 46 [some (.ref 188), some (.int v1), some (.int v2), some (.int v.1), some (.int v.2.1)] [] v.2.2) (fun v K hN hE hf => pX11_bears_l46b X hr  (fun n3 n4 nh hz => hN (n3, n4, nh) hz) (fun z0 z1 hz => hX0 z0 z1 (hE _ hz)) hf)
  exact fun n v3 v4 h hf => key n (v3, v4, h) hf
set_option maxRecDepth 4000 in
theorem pX11_bears_b0 (X : wCx p s m args meth c RX11 cX11_bears 5 D dA b0 ad) (hr : meth.sig.returnType = (some .int)) {h : wSt} {x0 : Int32} {x1 : Int32} {K : Int32 × wSt → Prop} (hT : ∀ (x : Int32) (h2 : wSt), K (x, h2) → F (some (.int x)) h2) (hf : wok (fX11_bears h x0 x1) K) : wM p l e (wR 3) s m args below meth c 0 0 (wE below args s D dA b0 ad S0 F) 5 D dA b0 ad S0 0 [some (.ref 188), some (.int x0), some (.int x1), none, none] [] h := by
  unfold fX11_bears at hf
  refine w_aload_n X dX11_bears_0 rfl rfl rfl ?_
  refine w_iconst X dX11_bears_1 rfl ci_0 ?_
  refine w_putI X dX11_bears_2 rfl fp_X11_144 S0_188 rfl ?_
  refine w_nmh (fun yh21 eyh21 => ?_)
  have hf := wok_l hf eyh21
  refine w_aload_n X dX11_bears_5 rfl rfl rfl ?_
  refine w_iload_n X dX11_bears_6 rfl rfl rfl ?_
  obtain ⟨yr22, eyr22, hf⟩ := wok_b hf
  refine w_callV X dX11_bears_7 rfl vl_X11_353 (kX11_isSkin l  eyr22) S0_188 (As := [.int x0]) (st := []) rfl rfl (Nat.le_of_ble_eq_true rfl) ⟨Nat.le_of_ble_eq_true rfl, Nat.le_of_ble_eq_true rfl⟩ ⟨Nat.zero_le _, Nat.zero_le _⟩ (fun r h2 hF => ?_)
  obtain ⟨_, rfl, rfl, rfl⟩ := hF
  show wM p l e (wR 3) s m args below meth c 0 0 (wE below args s D dA b0 ad S0 F) 5 D dA b0 ad S0 10 [some (.ref 188), some (.int x0), some (.int x1), none, none] [.int (wb yr22)] yh21
  refine w_if_eq X dX11_bears_10 rfl (t := 21) rfl (fun hc => ?_) (fun hc => ?_)
  · have hf := wok_f hf (wb_0 hc)
    refine w_iconst X dX11_bears_21 rfl ci_m1 ?_
    exact w_iret X dX11_bears_22 hr (hT _ _ (wok_s hf))
  · have hf := wok_t hf (wb_n0 hc)
    refine w_aload_n X dX11_bears_13 rfl rfl rfl ?_
    refine w_iload_n X dX11_bears_14 rfl rfl rfl ?_
    obtain ⟨yr23, eyr23, hf⟩ := wok_b hf
    refine w_callV X dX11_bears_15 rfl vl_X11_387 (kX11_isText l  eyr23) S0_188 (As := [.int x1]) (st := []) rfl rfl (Nat.le_of_ble_eq_true rfl) ⟨Nat.le_of_ble_eq_true rfl, Nat.le_of_ble_eq_true rfl⟩ ⟨Nat.zero_le _, Nat.zero_le _⟩ (fun r h2 hF => ?_)
    obtain ⟨_, rfl, rfl, rfl⟩ := hF
    show wM p l e (wR 3) s m args below meth c 0 0 (wE below args s D dA b0 ad S0 F) 5 D dA b0 ad S0 18 [some (.ref 188), some (.int x0), some (.int x1), none, none] [.int (wb yr23)] yh21
    refine w_if_ne X dX11_bears_18 rfl (t := 23) rfl (fun hc => ?_) (fun hc => ?_)
    · have hf := wok_t hf (wb_n0 hc)
      refine w_aload_n X dX11_bears_23 rfl rfl rfl ?_
      refine w_getR X dX11_bears_24 rfl fl_X11_120 S0_188 rfl ?_
      refine w_iconst X dX11_bears_27 rfl ci_0 ?_
      refine w_aload_n X dX11_bears_28 rfl rfl rfl ?_
      refine w_getR X dX11_bears_29 rfl fl_X11_126 S0_188 rfl ?_
      refine w_iconst X dX11_bears_32 rfl ci_0 ?_
      obtain ⟨yr24, eyr24, hf⟩ := wok_b hf
      refine w_callS X dX11_bears_33 rfl sl_X11_405 (kX11_copies l S0_225 S0_227 eyr24) (As := [.ref 225, .int 0, .ref 227, .int 0]) (st := []) rfl rfl (Nat.le_of_ble_eq_true rfl) ⟨Nat.le_of_ble_eq_true rfl, Nat.le_of_ble_eq_true rfl⟩ ⟨Nat.zero_le _, Nat.zero_le _⟩ (fun r h2 hF => ?_)
      obtain ⟨rfl, rfl⟩ := hF
      show wM p l e (wR 3) s m args below meth c 0 0 (wE below args s D dA b0 ad S0 F) 5 D dA b0 ad S0 36 [some (.ref 188), some (.int x0), some (.int x1), none, none] [] yr24
      refine w_iconst X dX11_bears_36 rfl ci_0 ?_
      refine w_istore_n X dX11_bears_37 rfl rfl rfl (Nat.le_of_ble_eq_true rfl) (ls' := [some (.ref 188), some (.int x0), some (.int x1), some (.int 0), none]) rfl ?_
      refine w_aload_n X dX11_bears_38 rfl rfl rfl ?_
      refine w_iload_n X dX11_bears_39 rfl rfl rfl ?_
      refine w_iload_n X dX11_bears_40 rfl rfl rfl ?_
      obtain ⟨yr25, eyr25, hf⟩ := wok_b hf
      refine w_callV X dX11_bears_41 rfl vl_X11_428 (kX11_placeOf l  eyr25) S0_188 (As := [.int x1, .int x0]) (st := []) rfl rfl (Nat.le_of_ble_eq_true rfl) ⟨Nat.le_of_ble_eq_true rfl, Nat.le_of_ble_eq_true rfl⟩ ⟨Nat.zero_le _, Nat.zero_le _⟩ (fun r h2 hF => ?_)
      obtain ⟨_, rfl, rfl, rfl⟩ := hF
      show wM p l e (wR 3) s m args below meth c 0 0 (wE below args s D dA b0 ad S0 F) 5 D dA b0 ad S0 44 [some (.ref 188), some (.int x0), some (.int x1), some (.int 0), none] [.int yr25] yr24
      refine w_istore X dX11_bears_44 rfl rfl (Nat.le_of_ble_eq_true rfl) (ls' := [some (.ref 188), some (.int x0), some (.int x1), some (.int 0), some (.int yr25)]) rfl ?_
      obtain ⟨ye29, hye29, hf⟩ := wok_b hf
      refine pX11_bears_l46 X hr  (KE := fun z => ye29 = z) ?_ 3000 _ _ _ ⟨ye29, hye29, rfl⟩
      · intro yz30 yz31 hz
        subst hz
        refine w_aload_n X dX11_bears_80 rfl rfl rfl ?_
        refine w_getR X dX11_bears_81 rfl fl_X11_126 S0_188 rfl ?_
        refine w_iconst X dX11_bears_84 rfl ci_0 ?_
        refine w_aload_n X dX11_bears_85 rfl rfl rfl ?_
        refine w_getR X dX11_bears_86 rfl fl_X11_120 S0_188 rfl ?_
        refine w_iconst X dX11_bears_89 rfl ci_0 ?_
        obtain ⟨yr32, eyr32, hf⟩ := wok_b hf
        refine w_callS X dX11_bears_90 rfl sl_X11_405 (kX11_copies l S0_227 S0_225 eyr32) (As := [.ref 227, .int 0, .ref 225, .int 0]) (st := []) rfl rfl (Nat.le_of_ble_eq_true rfl) ⟨Nat.le_of_ble_eq_true rfl, Nat.le_of_ble_eq_true rfl⟩ ⟨Nat.zero_le _, Nat.zero_le _⟩ (fun r h2 hF => ?_)
        obtain ⟨rfl, rfl⟩ := hF
        show wM p l e (wR 3) s m args below meth c 0 0 (wE below args s D dA b0 ad S0 F) 5 D dA b0 ad S0 93 [some (.ref 188), none, none, some (.int yz30), none] [] yr32
        refine w_iload_n X dX11_bears_93 rfl rfl rfl ?_
        exact w_iret X dX11_bears_94 hr (hT _ _ (wok_s hf))
    · have hf := wok_f hf (wb_0 hc)
      refine w_iconst X dX11_bears_21 rfl ci_m1 ?_
      exact w_iret X dX11_bears_22 hr (hT _ _ (wok_s hf))
set_option maxRecDepth 4000 in
theorem kX11_bears (l : Launch) {h : wSt} {x0 : Int32} {x1 : Int32} {res : Int32 × wSt} (hf : fX11_bears h x0 x1 = some res) : wC l yX11_bears cX11_bears 5 (some .int) 3 S0 [.ref 188, .int x0, .int x1] h (wFI (fun a b => res.1 = a ∧ res.2 = b)) := by
  refine w_meth2 2 (by decide) (Nat.le_of_ble_eq_true rfl) (ls := [some (.ref 188), some (.int x0), some (.int x1), none, none]) rfl ?_
  intro p e s m args below meth c D dA b0 ad X hr
  exact pX11_bears_b0 X hr  (K := fun z => res = z) (fun x h2 hz => ⟨x, rfl, by rw [hz], by rw [hz]⟩) ⟨res, hf, rfl⟩
set_option maxRecDepth 4000 in
theorem pX11_over_b60_39 (X : wCx p s m args meth c RX11 cX11_over 6 D dA b0 ad) (hr : meth.sig.returnType = (some .int)) {h : wSt} {v1 : Int32} {v2 : Int32} {v3 : Int32} {v4 : Int32} {v5 : Int32} {K : (Int32 × Int32 × Int32) ⊕ ((Int32)) → Prop} (hN : ∀ (n2 : Int32) (n4 : Int32) (n5 : Int32), K (.inl (n2, n4, n5)) → wM p l e (wR 2) s m args below meth c 0 0 (wE below args s D dA b0 ad S0 F) 6 D dA b0 ad S0 39 [some (.ref 188), some (.int v1), some (.int n2), some (.int v3), some (.int n4), some (.int n5)] [] h) (hX0 : ∀ (n2 : Int32), K (.inr n2) → wM p l e (wR 2) s m args below meth c 0 0 (wE below args s D dA b0 ad S0 F) 6 D dA b0 ad S0 84 [some (.ref 188), some (.int v1), some (.int n2), some (.int v3), none, none] [] h) (hf : wok (fX11_over_b60_39 h v1 v2 v3 v4 v5) K) : wM p l e (wR 2) s m args below meth c 0 0 (wE below args s D dA b0 ad S0 F) 6 D dA b0 ad S0 60 [some (.ref 188), some (.int v1), some (.int v2), some (.int v3), some (.int v4), some (.int v5)] [] h := by
  unfold fX11_over_b60_39 at hf
  refine w_iload X dX11_over_60 rfl rfl ?_
  refine w_iconst X dX11_over_62 rfl ci_1 ?_
  refine w_iload X dX11_over_63 rfl rfl ?_
  refine w_bipush X dX11_over_65 rfl cb_7 ?_
  refine w_irem X dX11_over_67 rfl (by decide) ?_
  refine w_iconst X dX11_over_68 rfl ci_1 ?_
  refine w_isub X dX11_over_69 rfl ?_
  refine w_ishl X dX11_over_70 rfl ?_
  refine w_ior X dX11_over_71 rfl ?_
  refine w_topi (fun yx24 eyx24 => ?_)
  have hf := wok_l hf eyx24
  refine w_istore X dX11_over_72 rfl rfl (Nat.le_of_ble_eq_true rfl) (ls' := [some (.ref 188), some (.int v1), some (.int v2), some (.int v3), some (.int yx24), some (.int v5)]) rfl ?_
  refine w_iload X dX11_over_74 rfl rfl ?_
  refine w_bipush X dX11_over_76 rfl cb_7 ?_
  refine w_idiv X dX11_over_78 rfl (by decide) ?_
  refine w_istore X dX11_over_79 rfl rfl (Nat.le_of_ble_eq_true rfl) (ls' := [some (.ref 188), some (.int v1), some (.int v2), some (.int v3), some (.int yx24), some (.int (v5 / 7))]) rfl ?_
  refine w_goto X dX11_over_81 (t := 39) rfl ?_
  exact hN _ _ _ (wok_s hf)
set_option maxRecDepth 4000 in
theorem pX11_over_l39b (X : wCx p s m args meth c RX11 cX11_over 6 D dA b0 ad) (hr : meth.sig.returnType = (some .int)) {h : wSt} {v1 : Int32} {v3 : Int32} {v2 : Int32} {v4 : Int32} {v5 : Int32} {K : (Int32 × Int32 × Int32) ⊕ ((Int32)) → Prop} (hN : ∀ (n2 : Int32) (n4 : Int32) (n5 : Int32), K (.inl (n2, n4, n5)) → wM p l e (wR 2) s m args below meth c 0 0 (wE below args s D dA b0 ad S0 F) 6 D dA b0 ad S0 39 [some (.ref 188), some (.int v1), some (.int n2), some (.int v3), some (.int n4), some (.int n5)] [] h) (hX0 : ∀ (n2 : Int32), K (.inr n2) → wM p l e (wR 2) s m args below meth c 0 0 (wE below args s D dA b0 ad S0 F) 6 D dA b0 ad S0 84 [some (.ref 188), some (.int v1), some (.int n2), some (.int v3), none, none] [] h) (hf : wok (fX11_over_l39 h v1 v3 v2 v4 v5) K) : wM p l e (wR 2) s m args below meth c 0 0 (wE below args s D dA b0 ad S0 F) 6 D dA b0 ad S0 39 [some (.ref 188), some (.int v1), some (.int v2), some (.int v3), some (.int v4), some (.int v5)] [] h := by
  unfold fX11_over_l39 at hf
  refine w_iload X dX11_over_39 rfl rfl ?_
  refine w_if_le X dX11_over_41 rfl (t := 84) rfl (fun hc => ?_) (fun hc => ?_)
  · have hf := wok_t hf hc
    refine w_fg (ls2 := [some (.ref 188), some (.int v1), some (.int v2), some (.int v3), none, none]) ⟨rfl, rfl, rfl, rfl, trivial⟩ ?_
    exact hX0 _ (wok_s hf)
  · have hf := wok_f hf hc
    refine w_iload X dX11_over_44 rfl rfl ?_
    refine w_bipush X dX11_over_46 rfl cb_7 ?_
    refine w_irem X dX11_over_48 rfl (by decide) ?_
    refine w_iconst X dX11_over_49 rfl ci_1 ?_
    refine w_isub X dX11_over_50 rfl ?_
    refine w_iload_n X dX11_over_51 rfl rfl rfl ?_
    refine w_icmp_ne X dX11_over_52 rfl (t := 60) rfl (fun hc => ?_) (fun hc => ?_)
    · have hf := wok_f hf hc
      exact pX11_over_b60_39 X hr  hN hX0 hf
    · have hf := wok_t hf hc
      refine w_iload_n X dX11_over_55 rfl rfl rfl ?_
      refine w_iload X dX11_over_56 rfl rfl ?_
      refine w_ior X dX11_over_58 rfl ?_
      refine w_istore_n X dX11_over_59 rfl rfl rfl (Nat.le_of_ble_eq_true rfl) (ls' := [some (.ref 188), some (.int v1), some (.int (v2 ||| v4)), some (.int v3), some (.int v4), some (.int v5)]) rfl ?_
      exact pX11_over_b60_39 X hr  hN hX0 hf
set_option maxRecDepth 4000 in
theorem pX11_over_l39 (X : wCx p s m args meth c RX11 cX11_over 6 D dA b0 ad) (hr : meth.sig.returnType = (some .int)) {h : wSt} {v1 : Int32} {v3 : Int32} {KE : (Int32) → Prop} (hX0 : ∀ (n2 : Int32), KE (n2) → wM p l e (wR 2) s m args below meth c 0 0 (wE below args s D dA b0 ad S0 F) 6 D dA b0 ad S0 84 [some (.ref 188), some (.int v1), some (.int n2), some (.int v3), none, none] [] h) : ∀ (n : Nat) (v2 : Int32) (v4 : Int32) (v5 : Int32), wok (wit (fun v : (Int32 × Int32 × Int32) => fX11_over_l39 h v1 v3 v.1 v.2.1 v.2.2) n (v2, v4, v5)) KE → wM p l e (wR 2) s m args below meth c 0 0 (wE below args s D dA b0 ad S0 F) 6 D dA b0 ad S0 39 [some (.ref 188), some (.int v1), some (.int v2), some (.int v3), some (.int v4), some (.int v5)] [] h := by
  have key := wit_M (b := (fun v : (Int32 × Int32 × Int32) => fX11_over_l39 h v1 v3 v.1 v.2.1 v.2.2)) (KE := KE) (G := fun v => wM p l e (wR 2) s m args below meth c 0 0 (wE below args s D dA b0 ad S0 F) 6 D dA b0 ad S0 39 [some (.ref 188), some (.int v1), some (.int v.1), some (.int v3), some (.int v.2.1), some (.int v.2.2)] [] h) (fun v K hN hE hf => pX11_over_l39b X hr  (fun n2 n4 n5 hz => hN (n2, n4, n5) hz) (fun z0 hz => hX0 z0 (hE _ hz)) hf)
  exact fun n v2 v4 v5 hf => key n (v2, v4, v5) hf
set_option maxRecDepth 4000 in
theorem pX11_over_l19b (X : wCx p s m args meth c RX11 cX11_over 6 D dA b0 ad) (hr : meth.sig.returnType = (some .int)) {h : wSt} {v1 : Int32} {v2 : Int32} {v3 : Int32} {K : (Int32 × Int32) ⊕ ((Int32)) → Prop} (hN : ∀ (n2 : Int32) (n3 : Int32), K (.inl (n2, n3)) → wM p l e (wR 2) s m args below meth c 0 0 (wE below args s D dA b0 ad S0 F) 6 D dA b0 ad S0 19 [some (.ref 188), some (.int v1), some (.int n2), some (.int n3), none, none] [] h) (hX0 : ∀ (n2 : Int32), K (.inr n2) → wM p l e (wR 2) s m args below meth c 0 0 (wE below args s D dA b0 ad S0 F) 6 D dA b0 ad S0 90 [none, none, some (.int n2), none, none, none] [] h) (hf : wok (fX11_over_l19 h v1 v2 v3) K) : wM p l e (wR 2) s m args below meth c 0 0 (wE below args s D dA b0 ad S0 F) 6 D dA b0 ad S0 19 [some (.ref 188), some (.int v1), some (.int v2), some (.int v3), none, none] [] h := by
  unfold fX11_over_l19 at hf
  refine w_iload_n X dX11_over_19 rfl rfl rfl ?_
  refine w_bipush X dX11_over_20 rfl cb_18 ?_
  refine w_icmp_ge X dX11_over_22 rfl (t := 90) rfl (fun hc => ?_) (fun hc => ?_)
  · have hf := wok_t hf hc
    refine w_fg (ls2 := [none, none, some (.int v2), none, none, none]) ⟨rfl, trivial⟩ ?_
    exact hX0 _ (wok_s hf)
  · have hf := wok_f hf hc
    refine w_iconst X dX11_over_25 rfl ci_0 ?_
    refine w_istore X dX11_over_26 rfl rfl (Nat.le_of_ble_eq_true rfl) (ls' := [some (.ref 188), some (.int v1), some (.int v2), some (.int v3), some (.int 0), none]) rfl ?_
    refine w_aload_n X dX11_over_28 rfl rfl rfl ?_
    refine w_getR X dX11_over_29 rfl fl_X11_120 S0_188 rfl ?_
    refine w_bipush X dX11_over_32 rfl cb_7 ?_
    refine w_iload_n X dX11_over_34 rfl rfl rfl ?_
    refine w_iadd X dX11_over_35 rfl ?_
    obtain ⟨yhg23, hf⟩ := wok_g hf
    refine w_iald X dX11_over_36 rfl (j := (7 + v3).toNatClampNeg) rfl S0_225 yhg23 ?_
    refine w_istore X dX11_over_37 rfl rfl (Nat.le_of_ble_eq_true rfl) (ls' := [some (.ref 188), some (.int v1), some (.int v2), some (.int v3), some (.int 0), some (.int (h.1 225 (7 + v3).toNatClampNeg))]) rfl ?_
    obtain ⟨ye25, hye25, hf⟩ := wok_b hf
    refine pX11_over_l39 X hr  (KE := fun z => ye25 = z) ?_ 3000 _ _ _ ⟨ye25, hye25, rfl⟩
    · intro yz26 hz
      subst hz
      refine w_iinc X dX11_over_84 rfl (v := (v3 + 1)) rfl rfl (Nat.le_of_ble_eq_true rfl) (cinc_1 _) (ls' := [some (.ref 188), some (.int v1), some (.int ye25), some (.int (v3 + 1)), none, none]) rfl ?_
      refine w_goto X dX11_over_87 (t := 19) rfl ?_
      exact hN _ _ (wok_s hf)
set_option maxRecDepth 4000 in
theorem pX11_over_l19 (X : wCx p s m args meth c RX11 cX11_over 6 D dA b0 ad) (hr : meth.sig.returnType = (some .int)) {h : wSt} {v1 : Int32} {KE : (Int32) → Prop} (hX0 : ∀ (n2 : Int32), KE (n2) → wM p l e (wR 2) s m args below meth c 0 0 (wE below args s D dA b0 ad S0 F) 6 D dA b0 ad S0 90 [none, none, some (.int n2), none, none, none] [] h) : ∀ (n : Nat) (v2 : Int32) (v3 : Int32), wok (wit (fun v : (Int32 × Int32) => fX11_over_l19 h v1 v.1 v.2) n (v2, v3)) KE → wM p l e (wR 2) s m args below meth c 0 0 (wE below args s D dA b0 ad S0 F) 6 D dA b0 ad S0 19 [some (.ref 188), some (.int v1), some (.int v2), some (.int v3), none, none] [] h := by
  have key := wit_M (b := (fun v : (Int32 × Int32) => fX11_over_l19 h v1 v.1 v.2)) (KE := KE) (G := fun v => wM p l e (wR 2) s m args below meth c 0 0 (wE below args s D dA b0 ad S0 F) 6 D dA b0 ad S0 19 [some (.ref 188), some (.int v1), some (.int v.1), some (.int v.2), none, none] [] h) (fun v K hN hE hf => pX11_over_l19b X hr  (fun n2 n3 hz => hN (n2, n3) hz) (fun z0 hz => hX0 z0 (hE _ hz)) hf)
  exact fun n v2 v3 hf => key n (v2, v3) hf
set_option maxRecDepth 4000 in
theorem pX11_over_b0 (X : wCx p s m args meth c RX11 cX11_over 6 D dA b0 ad) (hr : meth.sig.returnType = (some .int)) {h : wSt} {x0 : Int32} {K : Int32 × wSt → Prop} (hT : ∀ (x : Int32) (h2 : wSt), K (x, h2) → F (some (.int x)) h2) (hf : wok (fX11_over h x0) K) : wM p l e (wR 2) s m args below meth c 0 0 (wE below args s D dA b0 ad S0 F) 6 D dA b0 ad S0 0 [some (.ref 188), some (.int x0), none, none, none, none] [] h := by
  unfold fX11_over at hf
  refine w_aload_n X dX11_over_0 rfl rfl rfl ?_
  refine w_iconst X dX11_over_1 rfl ci_0 ?_
  refine w_putI X dX11_over_2 rfl fp_X11_144 S0_188 rfl ?_
  refine w_nmh (fun yh21 eyh21 => ?_)
  have hf := wok_l hf eyh21
  refine w_aload_n X dX11_over_5 rfl rfl rfl ?_
  refine w_iload_n X dX11_over_6 rfl rfl rfl ?_
  obtain ⟨yr22, eyr22, hf⟩ := wok_b hf
  refine w_callV X dX11_over_7 rfl vl_X11_387 (kX11_isText l  eyr22) S0_188 (As := [.int x0]) (st := []) rfl rfl (Nat.le_of_ble_eq_true rfl) ⟨Nat.le_of_ble_eq_true rfl, Nat.le_of_ble_eq_true rfl⟩ ⟨Nat.zero_le _, Nat.zero_le _⟩ (fun r h2 hF => ?_)
  obtain ⟨_, rfl, rfl, rfl⟩ := hF
  show wM p l e (wR 2) s m args below meth c 0 0 (wE below args s D dA b0 ad S0 F) 6 D dA b0 ad S0 10 [some (.ref 188), some (.int x0), none, none, none, none] [.int (wb yr22)] yh21
  refine w_if_ne X dX11_over_10 rfl (t := 15) rfl (fun hc => ?_) (fun hc => ?_)
  · have hf := wok_t hf (wb_n0 hc)
    refine w_iconst X dX11_over_15 rfl ci_0 ?_
    refine w_istore_n X dX11_over_16 rfl rfl rfl (Nat.le_of_ble_eq_true rfl) (ls' := [some (.ref 188), some (.int x0), some (.int 0), none, none, none]) rfl ?_
    refine w_iconst X dX11_over_17 rfl ci_0 ?_
    refine w_istore_n X dX11_over_18 rfl rfl rfl (Nat.le_of_ble_eq_true rfl) (ls' := [some (.ref 188), some (.int x0), some (.int 0), some (.int 0), none, none]) rfl ?_
    obtain ⟨ye27, hye27, hf⟩ := wok_b hf
    refine pX11_over_l19 X hr  (KE := fun z => ye27 = z) ?_ 3000 _ _ ⟨ye27, hye27, rfl⟩
    · intro yz28 hz
      subst hz
      refine w_iload_n X dX11_over_90 rfl rfl rfl ?_
      exact w_iret X dX11_over_91 hr (hT _ _ (wok_s hf))
  · have hf := wok_f hf (wb_0 hc)
    refine w_iconst X dX11_over_13 rfl ci_m1 ?_
    exact w_iret X dX11_over_14 hr (hT _ _ (wok_s hf))
set_option maxRecDepth 4000 in
theorem kX11_over (l : Launch) {h : wSt} {x0 : Int32} {res : Int32 × wSt} (hf : fX11_over h x0 = some res) : wC l yX11_over cX11_over 6 (some .int) 2 S0 [.ref 188, .int x0] h (wFI (fun a b => res.1 = a ∧ res.2 = b)) := by
  refine w_meth2 4 (by decide) (Nat.le_of_ble_eq_true rfl) (ls := [some (.ref 188), some (.int x0), none, none, none, none]) rfl ?_
  intro p e s m args below meth c D dA b0 ad X hr
  exact pX11_over_b0 X hr  (K := fun z => res = z) (fun x h2 hz => ⟨x, rfl, by rw [hz], by rw [hz]⟩) ⟨res, hf, rfl⟩
set_option maxRecDepth 4000 in
theorem pX11_deepest_b68_19 (X : wCx p s m args meth c RX11 cX11_deepest 4 D dA b0 ad) (hr : meth.sig.returnType = (some .int)) {h : wSt} {v1 : Int32} {v2 : Int32} {v3 : Int32} {K : (Int32 × Int32) ⊕ ((Int32)) → Prop} (hN : ∀ (n2 : Int32) (n3 : Int32), K (.inl (n2, n3)) → wM p l e (wR 2) s m args below meth c 0 0 (wE below args s D dA b0 ad S0 F) 4 D dA b0 ad S0 19 [some (.ref 188), some (.int v1), some (.int n2), some (.int n3)] [] h) (hX0 : ∀ (n2 : Int32), K (.inr n2) → wM p l e (wR 2) s m args below meth c 0 0 (wE below args s D dA b0 ad S0 F) 4 D dA b0 ad S0 74 [none, none, some (.int n2), none] [] h) (hf : wok (fX11_deepest_b68_19 h v1 v2 v3) K) : wM p l e (wR 2) s m args below meth c 0 0 (wE below args s D dA b0 ad S0 F) 4 D dA b0 ad S0 68 [some (.ref 188), some (.int v1), some (.int v2), some (.int v3)] [] h := by
  unfold fX11_deepest_b68_19 at hf
  refine w_iinc X dX11_deepest_68 rfl (v := (v3 + 1)) rfl rfl (Nat.le_of_ble_eq_true rfl) (cinc_1 _) (ls' := [some (.ref 188), some (.int v1), some (.int v2), some (.int (v3 + 1))]) rfl ?_
  refine w_goto X dX11_deepest_71 (t := 19) rfl ?_
  exact hN _ _ (wok_s hf)
set_option maxRecDepth 4000 in
theorem pX11_deepest_l19b (X : wCx p s m args meth c RX11 cX11_deepest 4 D dA b0 ad) (hr : meth.sig.returnType = (some .int)) {h : wSt} {v1 : Int32} {v2 : Int32} {v3 : Int32} {K : (Int32 × Int32) ⊕ ((Int32)) → Prop} (hN : ∀ (n2 : Int32) (n3 : Int32), K (.inl (n2, n3)) → wM p l e (wR 2) s m args below meth c 0 0 (wE below args s D dA b0 ad S0 F) 4 D dA b0 ad S0 19 [some (.ref 188), some (.int v1), some (.int n2), some (.int n3)] [] h) (hX0 : ∀ (n2 : Int32), K (.inr n2) → wM p l e (wR 2) s m args below meth c 0 0 (wE below args s D dA b0 ad S0 F) 4 D dA b0 ad S0 74 [none, none, some (.int n2), none] [] h) (hf : wok (fX11_deepest_l19 h v1 v2 v3) K) : wM p l e (wR 2) s m args below meth c 0 0 (wE below args s D dA b0 ad S0 F) 4 D dA b0 ad S0 19 [some (.ref 188), some (.int v1), some (.int v2), some (.int v3)] [] h := by
  unfold fX11_deepest_l19 at hf
  refine w_iload_n X dX11_deepest_19 rfl rfl rfl ?_
  refine w_aload_n X dX11_deepest_20 rfl rfl rfl ?_
  refine w_getR X dX11_deepest_21 rfl fl_X11_23 S0_188 rfl ?_
  refine w_iload_n X dX11_deepest_24 rfl rfl rfl ?_
  obtain ⟨yhg23, hf⟩ := wok_g hf
  refine w_iald X dX11_deepest_25 rfl (j := v1.toNatClampNeg) rfl S0_193 yhg23 ?_
  refine w_icmp_ge X dX11_deepest_26 rfl (t := 74) rfl (fun hc => ?_) (fun hc => ?_)
  · have hf := wok_t hf hc
    refine w_fg (ls2 := [none, none, some (.int v2), none]) ⟨rfl, trivial⟩ ?_
    exact hX0 _ (wok_s hf)
  · have hf := wok_f hf hc
    refine w_aload_n X dX11_deepest_29 rfl rfl rfl ?_
    refine w_getR X dX11_deepest_30 rfl fl_X11_120 S0_188 rfl ?_
    refine w_bipush X dX11_deepest_33 rfl cb_7 ?_
    refine w_bipush X dX11_deepest_35 rfl cb_6 ?_
    refine w_iload_n X dX11_deepest_37 rfl rfl rfl ?_
    refine w_imul X dX11_deepest_38 rfl ?_
    refine w_iadd X dX11_deepest_39 rfl ?_
    refine w_iload_n X dX11_deepest_40 rfl rfl rfl ?_
    refine w_iadd X dX11_deepest_41 rfl ?_
    obtain ⟨yhg24, hf⟩ := wok_g hf
    refine w_iald X dX11_deepest_42 rfl (j := ((7 + (6 * v1)) + v3).toNatClampNeg) rfl S0_225 yhg24 ?_
    obtain ⟨yr25, eyr25, hf⟩ := wok_b hf
    refine w_callS X dX11_deepest_43 rfl sl_X11_399 (kX11_deepOf l  eyr25) (As := [.int (h.1 225 ((7 + (6 * v1)) + v3).toNatClampNeg)]) (st := []) rfl rfl (Nat.le_of_ble_eq_true rfl) ⟨Nat.le_of_ble_eq_true rfl, Nat.le_of_ble_eq_true rfl⟩ ⟨Nat.zero_le _, Nat.zero_le _⟩ (fun r h2 hF => ?_)
    obtain ⟨_, rfl, rfl, rfl⟩ := hF
    show wM p l e (wR 2) s m args below meth c 0 0 (wE below args s D dA b0 ad S0 F) 4 D dA b0 ad S0 46 [some (.ref 188), some (.int v1), some (.int v2), some (.int v3)] [.int yr25] h
    refine w_aload_n X dX11_deepest_46 rfl rfl rfl ?_
    refine w_getR X dX11_deepest_47 rfl fl_X11_120 S0_188 rfl ?_
    refine w_bipush X dX11_deepest_50 rfl cb_7 ?_
    refine w_bipush X dX11_deepest_52 rfl cb_6 ?_
    refine w_iload_n X dX11_deepest_54 rfl rfl rfl ?_
    refine w_imul X dX11_deepest_55 rfl ?_
    refine w_iadd X dX11_deepest_56 rfl ?_
    refine w_iload_n X dX11_deepest_57 rfl rfl rfl ?_
    refine w_iadd X dX11_deepest_58 rfl ?_
    obtain ⟨yhg26, hf⟩ := wok_g hf
    refine w_iald X dX11_deepest_59 rfl (j := ((7 + (6 * v1)) + v2).toNatClampNeg) rfl S0_225 yhg26 ?_
    obtain ⟨yr27, eyr27, hf⟩ := wok_b hf
    refine w_callS X dX11_deepest_60 rfl sl_X11_399 (kX11_deepOf l  eyr27) (As := [.int (h.1 225 ((7 + (6 * v1)) + v2).toNatClampNeg)]) (st := [.int yr25]) rfl rfl (Nat.le_of_ble_eq_true rfl) ⟨Nat.le_of_ble_eq_true rfl, Nat.le_of_ble_eq_true rfl⟩ ⟨Nat.zero_le _, Nat.zero_le _⟩ (fun r h2 hF => ?_)
    obtain ⟨_, rfl, rfl, rfl⟩ := hF
    show wM p l e (wR 2) s m args below meth c 0 0 (wE below args s D dA b0 ad S0 F) 4 D dA b0 ad S0 63 [some (.ref 188), some (.int v1), some (.int v2), some (.int v3)] [.int yr27, .int yr25] h
    refine w_icmp_le X dX11_deepest_63 rfl (t := 68) rfl (fun hc => ?_) (fun hc => ?_)
    · have hf := wok_t hf hc
      exact pX11_deepest_b68_19 X hr  hN hX0 hf
    · have hf := wok_f hf hc
      refine w_iload_n X dX11_deepest_66 rfl rfl rfl ?_
      refine w_istore_n X dX11_deepest_67 rfl rfl rfl (Nat.le_of_ble_eq_true rfl) (ls' := [some (.ref 188), some (.int v1), some (.int v3), some (.int v3)]) rfl ?_
      exact pX11_deepest_b68_19 X hr  hN hX0 hf
set_option maxRecDepth 4000 in
theorem pX11_deepest_l19 (X : wCx p s m args meth c RX11 cX11_deepest 4 D dA b0 ad) (hr : meth.sig.returnType = (some .int)) {h : wSt} {v1 : Int32} {KE : (Int32) → Prop} (hX0 : ∀ (n2 : Int32), KE (n2) → wM p l e (wR 2) s m args below meth c 0 0 (wE below args s D dA b0 ad S0 F) 4 D dA b0 ad S0 74 [none, none, some (.int n2), none] [] h) : ∀ (n : Nat) (v2 : Int32) (v3 : Int32), wok (wit (fun v : (Int32 × Int32) => fX11_deepest_l19 h v1 v.1 v.2) n (v2, v3)) KE → wM p l e (wR 2) s m args below meth c 0 0 (wE below args s D dA b0 ad S0 F) 4 D dA b0 ad S0 19 [some (.ref 188), some (.int v1), some (.int v2), some (.int v3)] [] h := by
  have key := wit_M (b := (fun v : (Int32 × Int32) => fX11_deepest_l19 h v1 v.1 v.2)) (KE := KE) (G := fun v => wM p l e (wR 2) s m args below meth c 0 0 (wE below args s D dA b0 ad S0 F) 4 D dA b0 ad S0 19 [some (.ref 188), some (.int v1), some (.int v.1), some (.int v.2)] [] h) (fun v K hN hE hf => pX11_deepest_l19b X hr  (fun n2 n3 hz => hN (n2, n3) hz) (fun z0 hz => hX0 z0 (hE _ hz)) hf)
  exact fun n v2 v3 hf => key n (v2, v3) hf
set_option maxRecDepth 4000 in
theorem pX11_deepest_b0 (X : wCx p s m args meth c RX11 cX11_deepest 4 D dA b0 ad) (hr : meth.sig.returnType = (some .int)) {h : wSt} {x0 : Int32} {K : Int32 × wSt → Prop} (hT : ∀ (x : Int32) (h2 : wSt), K (x, h2) → F (some (.int x)) h2) (hf : wok (fX11_deepest h x0) K) : wM p l e (wR 2) s m args below meth c 0 0 (wE below args s D dA b0 ad S0 F) 4 D dA b0 ad S0 0 [some (.ref 188), some (.int x0), none, none] [] h := by
  unfold fX11_deepest at hf
  refine w_aload_n X dX11_deepest_0 rfl rfl rfl ?_
  refine w_iconst X dX11_deepest_1 rfl ci_0 ?_
  refine w_putI X dX11_deepest_2 rfl fp_X11_144 S0_188 rfl ?_
  refine w_nmh (fun yh21 eyh21 => ?_)
  have hf := wok_l hf eyh21
  refine w_aload_n X dX11_deepest_5 rfl rfl rfl ?_
  refine w_iload_n X dX11_deepest_6 rfl rfl rfl ?_
  obtain ⟨yr22, eyr22, hf⟩ := wok_b hf
  refine w_callV X dX11_deepest_7 rfl vl_X11_353 (kX11_isSkin l  eyr22) S0_188 (As := [.int x0]) (st := []) rfl rfl (Nat.le_of_ble_eq_true rfl) ⟨Nat.le_of_ble_eq_true rfl, Nat.le_of_ble_eq_true rfl⟩ ⟨Nat.zero_le _, Nat.zero_le _⟩ (fun r h2 hF => ?_)
  obtain ⟨_, rfl, rfl, rfl⟩ := hF
  show wM p l e (wR 2) s m args below meth c 0 0 (wE below args s D dA b0 ad S0 F) 4 D dA b0 ad S0 10 [some (.ref 188), some (.int x0), none, none] [.int (wb yr22)] yh21
  refine w_if_ne X dX11_deepest_10 rfl (t := 15) rfl (fun hc => ?_) (fun hc => ?_)
  · have hf := wok_t hf (wb_n0 hc)
    refine w_iconst X dX11_deepest_15 rfl ci_0 ?_
    refine w_istore_n X dX11_deepest_16 rfl rfl rfl (Nat.le_of_ble_eq_true rfl) (ls' := [some (.ref 188), some (.int x0), some (.int 0), none]) rfl ?_
    refine w_iconst X dX11_deepest_17 rfl ci_1 ?_
    refine w_istore_n X dX11_deepest_18 rfl rfl rfl (Nat.le_of_ble_eq_true rfl) (ls' := [some (.ref 188), some (.int x0), some (.int 0), some (.int 1)]) rfl ?_
    obtain ⟨ye28, hye28, hf⟩ := wok_b hf
    refine pX11_deepest_l19 X hr  (KE := fun z => ye28 = z) ?_ 3000 _ _ ⟨ye28, hye28, rfl⟩
    · intro yz29 hz
      subst hz
      refine w_iload_n X dX11_deepest_74 rfl rfl rfl ?_
      exact w_iret X dX11_deepest_75 hr (hT _ _ (wok_s hf))
  · have hf := wok_f hf (wb_0 hc)
    refine w_iconst X dX11_deepest_13 rfl ci_m1 ?_
    exact w_iret X dX11_deepest_14 hr (hT _ _ (wok_s hf))
set_option maxRecDepth 4000 in
theorem kX11_deepest (l : Launch) {h : wSt} {x0 : Int32} {res : Int32 × wSt} (hf : fX11_deepest h x0 = some res) : wC l yX11_deepest cX11_deepest 4 (some .int) 2 S0 [.ref 188, .int x0] h (wFI (fun a b => res.1 = a ∧ res.2 = b)) := by
  refine w_meth2 2 (by decide) (Nat.le_of_ble_eq_true rfl) (ls := [some (.ref 188), some (.int x0), none, none]) rfl ?_
  intro p e s m args below meth c D dA b0 ad X hr
  exact pX11_deepest_b0 X hr  (K := fun z => res = z) (fun x h2 hz => ⟨x, rfl, by rw [hz], by rw [hz]⟩) ⟨res, hf, rfl⟩
set_option maxRecDepth 4000 in
theorem pX11_bare_b54_19 (X : wCx p s m args meth c RX11 cX11_bare 4 D dA b0 ad) (hr : meth.sig.returnType = (some .int)) {h : wSt} {v1 : Int32} {v3 : Int32} {w0 : Int32} {w1 : Int32} {K : (Int32 × Int32) ⊕ ((Int32)) → Prop} (hN : ∀ (n2 : Int32) (n3 : Int32), K (.inl (n2, n3)) → wM p l e (wR 2) s m args below meth c 0 0 (wE below args s D dA b0 ad S0 F) 4 D dA b0 ad S0 19 [some (.ref 188), some (.int v1), some (.int n2), some (.int n3)] [] h) (hX0 : ∀ (n2 : Int32), K (.inr n2) → wM p l e (wR 2) s m args below meth c 0 0 (wE below args s D dA b0 ad S0 F) 4 D dA b0 ad S0 62 [some (.ref 188), some (.int v1), some (.int n2), none] [] h) (hf : wok (fX11_bare_b54_19 h v1 v3 w0 w1) K) : wM p l e (wR 2) s m args below meth c 0 0 (wE below args s D dA b0 ad S0 F) 4 D dA b0 ad S0 54 [some (.ref 188), some (.int v1), none, some (.int v3)] [.int w1, .int w0] h := by
  unfold fX11_bare_b54_19 at hf
  refine w_ior X dX11_bare_54 rfl ?_
  refine w_istore_n X dX11_bare_55 rfl rfl rfl (Nat.le_of_ble_eq_true rfl) (ls' := [some (.ref 188), some (.int v1), some (.int (w0 ||| w1)), some (.int v3)]) rfl ?_
  refine w_iinc X dX11_bare_56 rfl (v := (v3 + 1)) rfl rfl (Nat.le_of_ble_eq_true rfl) (cinc_1 _) (ls' := [some (.ref 188), some (.int v1), some (.int (w0 ||| w1)), some (.int (v3 + 1))]) rfl ?_
  refine w_goto X dX11_bare_59 (t := 19) rfl ?_
  exact hN _ _ (wok_s hf)
set_option maxRecDepth 4000 in
theorem pX11_bare_l19b (X : wCx p s m args meth c RX11 cX11_bare 4 D dA b0 ad) (hr : meth.sig.returnType = (some .int)) {h : wSt} {v1 : Int32} {v2 : Int32} {v3 : Int32} {K : (Int32 × Int32) ⊕ ((Int32)) → Prop} (hN : ∀ (n2 : Int32) (n3 : Int32), K (.inl (n2, n3)) → wM p l e (wR 2) s m args below meth c 0 0 (wE below args s D dA b0 ad S0 F) 4 D dA b0 ad S0 19 [some (.ref 188), some (.int v1), some (.int n2), some (.int n3)] [] h) (hX0 : ∀ (n2 : Int32), K (.inr n2) → wM p l e (wR 2) s m args below meth c 0 0 (wE below args s D dA b0 ad S0 F) 4 D dA b0 ad S0 62 [some (.ref 188), some (.int v1), some (.int n2), none] [] h) (hf : wok (fX11_bare_l19 h v1 v2 v3) K) : wM p l e (wR 2) s m args below meth c 0 0 (wE below args s D dA b0 ad S0 F) 4 D dA b0 ad S0 19 [some (.ref 188), some (.int v1), some (.int v2), some (.int v3)] [] h := by
  unfold fX11_bare_l19 at hf
  refine w_iload_n X dX11_bare_19 rfl rfl rfl ?_
  refine w_aload_n X dX11_bare_20 rfl rfl rfl ?_
  refine w_getR X dX11_bare_21 rfl fl_X11_23 S0_188 rfl ?_
  refine w_iload_n X dX11_bare_24 rfl rfl rfl ?_
  obtain ⟨yhg23, hf⟩ := wok_g hf
  refine w_iald X dX11_bare_25 rfl (j := v1.toNatClampNeg) rfl S0_193 yhg23 ?_
  refine w_icmp_ge X dX11_bare_26 rfl (t := 62) rfl (fun hc => ?_) (fun hc => ?_)
  · have hf := wok_t hf hc
    refine w_fg (ls2 := [some (.ref 188), some (.int v1), some (.int v2), none]) ⟨rfl, rfl, rfl, trivial⟩ ?_
    exact hX0 _ (wok_s hf)
  · have hf := wok_f hf hc
    refine w_iload_n X dX11_bare_29 rfl rfl rfl ?_
    refine w_aload_n X dX11_bare_30 rfl rfl rfl ?_
    refine w_getR X dX11_bare_31 rfl fl_X11_120 S0_188 rfl ?_
    refine w_bipush X dX11_bare_34 rfl cb_7 ?_
    refine w_bipush X dX11_bare_36 rfl cb_6 ?_
    refine w_iload_n X dX11_bare_38 rfl rfl rfl ?_
    refine w_imul X dX11_bare_39 rfl ?_
    refine w_iadd X dX11_bare_40 rfl ?_
    refine w_iload_n X dX11_bare_41 rfl rfl rfl ?_
    refine w_iadd X dX11_bare_42 rfl ?_
    obtain ⟨yhg24, hf⟩ := wok_g hf
    refine w_iald X dX11_bare_43 rfl (j := ((7 + (6 * v1)) + v3).toNatClampNeg) rfl S0_225 yhg24 ?_
    refine w_if_ne X dX11_bare_44 rfl (t := 53) rfl (fun hc => ?_) (fun hc => ?_)
    · have hf := wok_f hf hc
      refine w_iconst X dX11_bare_53 rfl ci_0 ?_
      refine w_fg (ls2 := [some (.ref 188), some (.int v1), none, some (.int v3)]) ⟨rfl, rfl, rfl, trivial⟩ ?_
      exact pX11_bare_b54_19 X hr  hN hX0 hf
    · have hf := wok_t hf hc
      refine w_iconst X dX11_bare_47 rfl ci_1 ?_
      refine w_iload_n X dX11_bare_48 rfl rfl rfl ?_
      refine w_ishl X dX11_bare_49 rfl ?_
      refine w_goto X dX11_bare_50 (t := 54) rfl ?_
      refine w_fg (ls2 := [some (.ref 188), some (.int v1), none, some (.int v3)]) ⟨rfl, rfl, rfl, trivial⟩ ?_
      exact pX11_bare_b54_19 X hr  hN hX0 hf
set_option maxRecDepth 4000 in
theorem pX11_bare_l19 (X : wCx p s m args meth c RX11 cX11_bare 4 D dA b0 ad) (hr : meth.sig.returnType = (some .int)) {h : wSt} {v1 : Int32} {KE : (Int32) → Prop} (hX0 : ∀ (n2 : Int32), KE (n2) → wM p l e (wR 2) s m args below meth c 0 0 (wE below args s D dA b0 ad S0 F) 4 D dA b0 ad S0 62 [some (.ref 188), some (.int v1), some (.int n2), none] [] h) : ∀ (n : Nat) (v2 : Int32) (v3 : Int32), wok (wit (fun v : (Int32 × Int32) => fX11_bare_l19 h v1 v.1 v.2) n (v2, v3)) KE → wM p l e (wR 2) s m args below meth c 0 0 (wE below args s D dA b0 ad S0 F) 4 D dA b0 ad S0 19 [some (.ref 188), some (.int v1), some (.int v2), some (.int v3)] [] h := by
  have key := wit_M (b := (fun v : (Int32 × Int32) => fX11_bare_l19 h v1 v.1 v.2)) (KE := KE) (G := fun v => wM p l e (wR 2) s m args below meth c 0 0 (wE below args s D dA b0 ad S0 F) 4 D dA b0 ad S0 19 [some (.ref 188), some (.int v1), some (.int v.1), some (.int v.2)] [] h) (fun v K hN hE hf => pX11_bare_l19b X hr  (fun n2 n3 hz => hN (n2, n3) hz) (fun z0 hz => hX0 z0 (hE _ hz)) hf)
  exact fun n v2 v3 hf => key n (v2, v3) hf
set_option maxRecDepth 4000 in
theorem pX11_bare_b0 (X : wCx p s m args meth c RX11 cX11_bare 4 D dA b0 ad) (hr : meth.sig.returnType = (some .int)) {h : wSt} {x0 : Int32} {K : Int32 × wSt → Prop} (hT : ∀ (x : Int32) (h2 : wSt), K (x, h2) → F (some (.int x)) h2) (hf : wok (fX11_bare h x0) K) : wM p l e (wR 2) s m args below meth c 0 0 (wE below args s D dA b0 ad S0 F) 4 D dA b0 ad S0 0 [some (.ref 188), some (.int x0), none, none] [] h := by
  unfold fX11_bare at hf
  refine w_aload_n X dX11_bare_0 rfl rfl rfl ?_
  refine w_iconst X dX11_bare_1 rfl ci_0 ?_
  refine w_putI X dX11_bare_2 rfl fp_X11_144 S0_188 rfl ?_
  refine w_nmh (fun yh21 eyh21 => ?_)
  have hf := wok_l hf eyh21
  refine w_aload_n X dX11_bare_5 rfl rfl rfl ?_
  refine w_iload_n X dX11_bare_6 rfl rfl rfl ?_
  obtain ⟨yr22, eyr22, hf⟩ := wok_b hf
  refine w_callV X dX11_bare_7 rfl vl_X11_353 (kX11_isSkin l  eyr22) S0_188 (As := [.int x0]) (st := []) rfl rfl (Nat.le_of_ble_eq_true rfl) ⟨Nat.le_of_ble_eq_true rfl, Nat.le_of_ble_eq_true rfl⟩ ⟨Nat.zero_le _, Nat.zero_le _⟩ (fun r h2 hF => ?_)
  obtain ⟨_, rfl, rfl, rfl⟩ := hF
  show wM p l e (wR 2) s m args below meth c 0 0 (wE below args s D dA b0 ad S0 F) 4 D dA b0 ad S0 10 [some (.ref 188), some (.int x0), none, none] [.int (wb yr22)] yh21
  refine w_if_ne X dX11_bare_10 rfl (t := 15) rfl (fun hc => ?_) (fun hc => ?_)
  · have hf := wok_t hf (wb_n0 hc)
    refine w_iconst X dX11_bare_15 rfl ci_0 ?_
    refine w_istore_n X dX11_bare_16 rfl rfl rfl (Nat.le_of_ble_eq_true rfl) (ls' := [some (.ref 188), some (.int x0), some (.int 0), none]) rfl ?_
    refine w_iconst X dX11_bare_17 rfl ci_0 ?_
    refine w_istore_n X dX11_bare_18 rfl rfl rfl (Nat.le_of_ble_eq_true rfl) (ls' := [some (.ref 188), some (.int x0), some (.int 0), some (.int 0)]) rfl ?_
    obtain ⟨ye25, hye25, hf⟩ := wok_b hf
    refine pX11_bare_l19 X hr  (KE := fun z => ye25 = z) ?_ 3000 _ _ ⟨ye25, hye25, rfl⟩
    · intro yz26 hz
      subst hz
      refine w_iload_n X dX11_bare_62 rfl rfl rfl ?_
      refine w_aload_n X dX11_bare_63 rfl rfl rfl ?_
      refine w_getR X dX11_bare_64 rfl fl_X11_29 S0_188 rfl ?_
      refine w_iload_n X dX11_bare_67 rfl rfl rfl ?_
      obtain ⟨yhg27, hf⟩ := wok_g hf
      refine w_iald X dX11_bare_68 rfl (j := x0.toNatClampNeg) rfl S0_195 yhg27 ?_
      refine w_iconst X dX11_bare_69 rfl ci_m1 ?_
      refine w_ixor X dX11_bare_70 rfl ?_
      refine w_iand X dX11_bare_71 rfl ?_
      exact w_iret X dX11_bare_72 hr (hT _ _ (wok_s hf))
  · have hf := wok_f hf (wb_0 hc)
    refine w_iconst X dX11_bare_13 rfl ci_m1 ?_
    exact w_iret X dX11_bare_14 hr (hT _ _ (wok_s hf))
set_option maxRecDepth 4000 in
theorem kX11_bare (l : Launch) {h : wSt} {x0 : Int32} {res : Int32 × wSt} (hf : fX11_bare h x0 = some res) : wC l yX11_bare cX11_bare 4 (some .int) 2 S0 [.ref 188, .int x0] h (wFI (fun a b => res.1 = a ∧ res.2 = b)) := by
  refine w_meth2 2 (by decide) (Nat.le_of_ble_eq_true rfl) (ls := [some (.ref 188), some (.int x0), none, none]) rfl ?_
  intro p e s m args below meth c D dA b0 ad X hr
  exact pX11_bare_b0 X hr  (K := fun z => res = z) (fun x h2 hz => ⟨x, rfl, by rw [hz], by rw [hz]⟩) ⟨res, hf, rfl⟩
set_option maxRecDepth 4000 in
theorem pX11_same_b61_17 (X : wCx p s m args meth c RX11 cX11_same 4 D dA b0 ad) (hr : meth.sig.returnType = (some .int)) {h : wSt} {v2 : Int32} {v3 : Int32} {w0 : Int32} {w1 : Int32} {K : (Int32 × Int32) ⊕ ((Int32)) → Prop} (hN : ∀ (n1 : Int32) (n3 : Int32), K (.inl (n1, n3)) → wM p l e (wR 1) s m args below meth c 0 0 (wE below args s D dA b0 ad S0 F) 4 D dA b0 ad S0 17 [some (.ref 188), some (.int n1), some (.int v2), some (.int n3)] [] h) (hX0 : ∀ (n1 : Int32), K (.inr n1) → wM p l e (wR 1) s m args below meth c 0 0 (wE below args s D dA b0 ad S0 F) 4 D dA b0 ad S0 69 [some (.ref 188), some (.int n1), some (.int v2), none] [] h) (hf : wok (fX11_same_b61_17 h v2 v3 w0 w1) K) : wM p l e (wR 1) s m args below meth c 0 0 (wE below args s D dA b0 ad S0 F) 4 D dA b0 ad S0 61 [some (.ref 188), none, some (.int v2), some (.int v3)] [.int w1, .int w0] h := by
  unfold fX11_same_b61_17 at hf
  refine w_iadd X dX11_same_61 rfl ?_
  refine w_istore_n X dX11_same_62 rfl rfl rfl (Nat.le_of_ble_eq_true rfl) (ls' := [some (.ref 188), some (.int (w0 + w1)), some (.int v2), some (.int v3)]) rfl ?_
  refine w_iinc X dX11_same_63 rfl (v := (v3 + 1)) rfl rfl (Nat.le_of_ble_eq_true rfl) (cinc_1 _) (ls' := [some (.ref 188), some (.int (w0 + w1)), some (.int v2), some (.int (v3 + 1))]) rfl ?_
  refine w_goto X dX11_same_66 (t := 17) rfl ?_
  exact hN _ _ (wok_s hf)
set_option maxRecDepth 4000 in
theorem pX11_same_b60_17 (X : wCx p s m args meth c RX11 cX11_same 4 D dA b0 ad) (hr : meth.sig.returnType = (some .int)) {h : wSt} {v2 : Int32} {v3 : Int32} {w0 : Int32} {K : (Int32 × Int32) ⊕ ((Int32)) → Prop} (hN : ∀ (n1 : Int32) (n3 : Int32), K (.inl (n1, n3)) → wM p l e (wR 1) s m args below meth c 0 0 (wE below args s D dA b0 ad S0 F) 4 D dA b0 ad S0 17 [some (.ref 188), some (.int n1), some (.int v2), some (.int n3)] [] h) (hX0 : ∀ (n1 : Int32), K (.inr n1) → wM p l e (wR 1) s m args below meth c 0 0 (wE below args s D dA b0 ad S0 F) 4 D dA b0 ad S0 69 [some (.ref 188), some (.int n1), some (.int v2), none] [] h) (hf : wok (fX11_same_b60_17 h v2 v3 w0) K) : wM p l e (wR 1) s m args below meth c 0 0 (wE below args s D dA b0 ad S0 F) 4 D dA b0 ad S0 60 [some (.ref 188), none, some (.int v2), some (.int v3)] [.int w0] h := by
  unfold fX11_same_b60_17 at hf
  refine w_iconst X dX11_same_60 rfl ci_0 ?_
  exact pX11_same_b61_17 X hr  hN hX0 hf
set_option maxRecDepth 4000 in
theorem pX11_same_l17b (X : wCx p s m args meth c RX11 cX11_same 4 D dA b0 ad) (hr : meth.sig.returnType = (some .int)) {h : wSt} {v2 : Int32} {v1 : Int32} {v3 : Int32} {K : (Int32 × Int32) ⊕ ((Int32)) → Prop} (hN : ∀ (n1 : Int32) (n3 : Int32), K (.inl (n1, n3)) → wM p l e (wR 1) s m args below meth c 0 0 (wE below args s D dA b0 ad S0 F) 4 D dA b0 ad S0 17 [some (.ref 188), some (.int n1), some (.int v2), some (.int n3)] [] h) (hX0 : ∀ (n1 : Int32), K (.inr n1) → wM p l e (wR 1) s m args below meth c 0 0 (wE below args s D dA b0 ad S0 F) 4 D dA b0 ad S0 69 [some (.ref 188), some (.int n1), some (.int v2), none] [] h) (hf : wok (fX11_same_l17 h v2 v1 v3) K) : wM p l e (wR 1) s m args below meth c 0 0 (wE below args s D dA b0 ad S0 F) 4 D dA b0 ad S0 17 [some (.ref 188), some (.int v1), some (.int v2), some (.int v3)] [] h := by
  unfold fX11_same_l17 at hf
  refine w_iload_n X dX11_same_17 rfl rfl rfl ?_
  refine w_iload_n X dX11_same_18 rfl rfl rfl ?_
  refine w_icmp_ge X dX11_same_19 rfl (t := 69) rfl (fun hc => ?_) (fun hc => ?_)
  · have hf := wok_t hf hc
    refine w_fg (ls2 := [some (.ref 188), some (.int v1), some (.int v2), none]) ⟨rfl, rfl, rfl, trivial⟩ ?_
    exact hX0 _ (wok_s hf)
  · have hf := wok_f hf hc
    refine w_iload_n X dX11_same_22 rfl rfl rfl ?_
    refine w_aload_n X dX11_same_23 rfl rfl rfl ?_
    refine w_getR X dX11_same_24 rfl fl_X11_120 S0_188 rfl ?_
    refine w_bipush X dX11_same_27 rfl cb_7 ?_
    refine w_iload_n X dX11_same_29 rfl rfl rfl ?_
    refine w_iadd X dX11_same_30 rfl ?_
    obtain ⟨yhg22, hf⟩ := wok_g hf
    refine w_iald X dX11_same_31 rfl (j := (7 + v2).toNatClampNeg) rfl S0_225 yhg22 ?_
    refine w_if_le X dX11_same_32 rfl (t := 60) rfl (fun hc => ?_) (fun hc => ?_)
    · have hf := wok_t hf hc
      refine w_fg (ls2 := [some (.ref 188), none, some (.int v2), some (.int v3)]) ⟨rfl, rfl, rfl, trivial⟩ ?_
      exact pX11_same_b60_17 X hr  hN hX0 hf
    · have hf := wok_f hf hc
      refine w_aload_n X dX11_same_35 rfl rfl rfl ?_
      refine w_getR X dX11_same_36 rfl fl_X11_120 S0_188 rfl ?_
      refine w_bipush X dX11_same_39 rfl cb_7 ?_
      refine w_iload_n X dX11_same_41 rfl rfl rfl ?_
      refine w_iadd X dX11_same_42 rfl ?_
      refine w_iald X dX11_same_43 rfl (j := (7 + v2).toNatClampNeg) rfl S0_225 yhg22 ?_
      refine w_aload_n X dX11_same_44 rfl rfl rfl ?_
      refine w_getR X dX11_same_45 rfl fl_X11_120 S0_188 rfl ?_
      refine w_bipush X dX11_same_48 rfl cb_7 ?_
      refine w_iload_n X dX11_same_50 rfl rfl rfl ?_
      refine w_iadd X dX11_same_51 rfl ?_
      obtain ⟨yhg23, hf⟩ := wok_g hf
      refine w_iald X dX11_same_52 rfl (j := (7 + v3).toNatClampNeg) rfl S0_225 yhg23 ?_
      refine w_icmp_ne X dX11_same_53 rfl (t := 60) rfl (fun hc => ?_) (fun hc => ?_)
      · have hf := wok_f hf hc
        refine w_fg (ls2 := [some (.ref 188), none, some (.int v2), some (.int v3)]) ⟨rfl, rfl, rfl, trivial⟩ ?_
        exact pX11_same_b60_17 X hr  hN hX0 hf
      · have hf := wok_t hf hc
        refine w_iconst X dX11_same_56 rfl ci_1 ?_
        refine w_goto X dX11_same_57 (t := 61) rfl ?_
        refine w_fg (ls2 := [some (.ref 188), none, some (.int v2), some (.int v3)]) ⟨rfl, rfl, rfl, trivial⟩ ?_
        exact pX11_same_b61_17 X hr  hN hX0 hf
set_option maxRecDepth 4000 in
theorem pX11_same_l17 (X : wCx p s m args meth c RX11 cX11_same 4 D dA b0 ad) (hr : meth.sig.returnType = (some .int)) {h : wSt} {v2 : Int32} {KE : (Int32) → Prop} (hX0 : ∀ (n1 : Int32), KE (n1) → wM p l e (wR 1) s m args below meth c 0 0 (wE below args s D dA b0 ad S0 F) 4 D dA b0 ad S0 69 [some (.ref 188), some (.int n1), some (.int v2), none] [] h) : ∀ (n : Nat) (v1 : Int32) (v3 : Int32), wok (wit (fun v : (Int32 × Int32) => fX11_same_l17 h v2 v.1 v.2) n (v1, v3)) KE → wM p l e (wR 1) s m args below meth c 0 0 (wE below args s D dA b0 ad S0 F) 4 D dA b0 ad S0 17 [some (.ref 188), some (.int v1), some (.int v2), some (.int v3)] [] h := by
  have key := wit_M (b := (fun v : (Int32 × Int32) => fX11_same_l17 h v2 v.1 v.2)) (KE := KE) (G := fun v => wM p l e (wR 1) s m args below meth c 0 0 (wE below args s D dA b0 ad S0 F) 4 D dA b0 ad S0 17 [some (.ref 188), some (.int v.1), some (.int v2), some (.int v.2)] [] h) (fun v K hN hE hf => pX11_same_l17b X hr  (fun n1 n3 hz => hN (n1, n3) hz) (fun z0 hz => hX0 z0 (hE _ hz)) hf)
  exact fun n v1 v3 hf => key n (v1, v3) hf
set_option maxRecDepth 4000 in
theorem pX11_same_l9b (X : wCx p s m args meth c RX11 cX11_same 4 D dA b0 ad) (hr : meth.sig.returnType = (some .int)) {h : wSt} {v1 : Int32} {v2 : Int32} {K : (Int32 × Int32) ⊕ ((Int32)) → Prop} (hN : ∀ (n1 : Int32) (n2 : Int32), K (.inl (n1, n2)) → wM p l e (wR 1) s m args below meth c 0 0 (wE below args s D dA b0 ad S0 F) 4 D dA b0 ad S0 9 [some (.ref 188), some (.int n1), some (.int n2), none] [] h) (hX0 : ∀ (n1 : Int32), K (.inr n1) → wM p l e (wR 1) s m args below meth c 0 0 (wE below args s D dA b0 ad S0 F) 4 D dA b0 ad S0 75 [none, some (.int n1), none, none] [] h) (hf : wok (fX11_same_l9 h v1 v2) K) : wM p l e (wR 1) s m args below meth c 0 0 (wE below args s D dA b0 ad S0 F) 4 D dA b0 ad S0 9 [some (.ref 188), some (.int v1), some (.int v2), none] [] h := by
  unfold fX11_same_l9 at hf
  refine w_iload_n X dX11_same_9 rfl rfl rfl ?_
  refine w_bipush X dX11_same_10 rfl cb_18 ?_
  refine w_icmp_ge X dX11_same_12 rfl (t := 75) rfl (fun hc => ?_) (fun hc => ?_)
  · have hf := wok_t hf hc
    refine w_fg (ls2 := [none, some (.int v1), none, none]) ⟨rfl, trivial⟩ ?_
    exact hX0 _ (wok_s hf)
  · have hf := wok_f hf hc
    refine w_iconst X dX11_same_15 rfl ci_0 ?_
    refine w_istore_n X dX11_same_16 rfl rfl rfl (Nat.le_of_ble_eq_true rfl) (ls' := [some (.ref 188), some (.int v1), some (.int v2), some (.int 0)]) rfl ?_
    obtain ⟨ye24, hye24, hf⟩ := wok_b hf
    refine pX11_same_l17 X hr  (KE := fun z => ye24 = z) ?_ 3000 _ _ ⟨ye24, hye24, rfl⟩
    · intro yz25 hz
      subst hz
      refine w_iinc X dX11_same_69 rfl (v := (v2 + 1)) rfl rfl (Nat.le_of_ble_eq_true rfl) (cinc_1 _) (ls' := [some (.ref 188), some (.int ye24), some (.int (v2 + 1)), none]) rfl ?_
      refine w_goto X dX11_same_72 (t := 9) rfl ?_
      exact hN _ _ (wok_s hf)
set_option maxRecDepth 4000 in
theorem pX11_same_l9 (X : wCx p s m args meth c RX11 cX11_same 4 D dA b0 ad) (hr : meth.sig.returnType = (some .int)) {h : wSt} {KE : (Int32) → Prop} (hX0 : ∀ (n1 : Int32), KE (n1) → wM p l e (wR 1) s m args below meth c 0 0 (wE below args s D dA b0 ad S0 F) 4 D dA b0 ad S0 75 [none, some (.int n1), none, none] [] h) : ∀ (n : Nat) (v1 : Int32) (v2 : Int32), wok (wit (fun v : (Int32 × Int32) => fX11_same_l9 h v.1 v.2) n (v1, v2)) KE → wM p l e (wR 1) s m args below meth c 0 0 (wE below args s D dA b0 ad S0 F) 4 D dA b0 ad S0 9 [some (.ref 188), some (.int v1), some (.int v2), none] [] h := by
  have key := wit_M (b := (fun v : (Int32 × Int32) => fX11_same_l9 h v.1 v.2)) (KE := KE) (G := fun v => wM p l e (wR 1) s m args below meth c 0 0 (wE below args s D dA b0 ad S0 F) 4 D dA b0 ad S0 9 [some (.ref 188), some (.int v.1), some (.int v.2), none] [] h) (fun v K hN hE hf => pX11_same_l9b X hr  (fun n1 n2 hz => hN (n1, n2) hz) (fun z0 hz => hX0 z0 (hE _ hz)) hf)
  exact fun n v1 v2 hf => key n (v1, v2) hf
set_option maxRecDepth 4000 in
theorem pX11_same_b0 (X : wCx p s m args meth c RX11 cX11_same 4 D dA b0 ad) (hr : meth.sig.returnType = (some .int)) {h : wSt} {K : Int32 × wSt → Prop} (hT : ∀ (x : Int32) (h2 : wSt), K (x, h2) → F (some (.int x)) h2) (hf : wok (fX11_same h ) K) : wM p l e (wR 1) s m args below meth c 0 0 (wE below args s D dA b0 ad S0 F) 4 D dA b0 ad S0 0 [some (.ref 188), none, none, none] [] h := by
  unfold fX11_same at hf
  refine w_aload_n X dX11_same_0 rfl rfl rfl ?_
  refine w_iconst X dX11_same_1 rfl ci_0 ?_
  refine w_putI X dX11_same_2 rfl fp_X11_144 S0_188 rfl ?_
  refine w_nmh (fun yh21 eyh21 => ?_)
  have hf := wok_l hf eyh21
  refine w_iconst X dX11_same_5 rfl ci_0 ?_
  refine w_istore_n X dX11_same_6 rfl rfl rfl (Nat.le_of_ble_eq_true rfl) (ls' := [some (.ref 188), some (.int 0), none, none]) rfl ?_
  refine w_iconst X dX11_same_7 rfl ci_0 ?_
  refine w_istore_n X dX11_same_8 rfl rfl rfl (Nat.le_of_ble_eq_true rfl) (ls' := [some (.ref 188), some (.int 0), some (.int 0), none]) rfl ?_
  obtain ⟨ye26, hye26, hf⟩ := wok_b hf
  refine pX11_same_l9 X hr  (KE := fun z => ye26 = z) ?_ 3000 _ _ ⟨ye26, hye26, rfl⟩
  · intro yz27 hz
    subst hz
    refine w_iload_n X dX11_same_75 rfl rfl rfl ?_
    exact w_iret X dX11_same_76 hr (hT _ _ (wok_s hf))
set_option maxRecDepth 4000 in
theorem kX11_same (l : Launch) {h : wSt} {res : Int32 × wSt} (hf : fX11_same h  = some res) : wC l yX11_same cX11_same 4 (some .int) 1 S0 [.ref 188] h (wFI (fun a b => res.1 = a ∧ res.2 = b)) := by
  refine w_meth2 3 (by decide) (Nat.le_of_ble_eq_true rfl) (ls := [some (.ref 188), none, none, none]) rfl ?_
  intro p e s m args below meth c D dA b0 ad X hr
  exact pX11_same_b0 X hr  (K := fun z => res = z) (fun x h2 hz => ⟨x, rfl, by rw [hz], by rw [hz]⟩) ⟨res, hf, rfl⟩
set_option maxRecDepth 4000 in
theorem pX11_giveup_b105_18 (X : wCx p s m args meth c RX11 cX11_giveup 6 D dA b0 ad) (hr : meth.sig.returnType = (some .int)) {h : wSt} {v1 : Int32} {v2 : Int32} {v3 : Int32} {v4 : Int32} {K : (Int32 × Int32 × Int32 × wSt) ⊕ ((Int32 × wSt)) → Prop} (hN : ∀ (n1 : Int32) (n2 : Int32) (n4 : Int32) (nh : wSt), K (.inl (n1, n2, n4, nh)) → wM p l e (wR 8) s m args below meth c 0 0 (wE below args s D dA b0 ad S0 F) 6 D dA b0 ad S0 18 [some (.ref 188), some (.int n1), some (.int n2), some (.int v3), some (.int n4), none] [] nh) (hX0 : ∀ (n1 : Int32) (nh : wSt), K (.inr (n1, nh)) → wM p l e (wR 8) s m args below meth c 0 0 (wE below args s D dA b0 ad S0 F) 6 D dA b0 ad S0 111 [none, some (.int n1), none, none, none, none] [] nh) (hf : wok (fX11_giveup_b105_18 h v1 v2 v3 v4) K) : wM p l e (wR 8) s m args below meth c 0 0 (wE below args s D dA b0 ad S0 F) 6 D dA b0 ad S0 105 [some (.ref 188), some (.int v1), some (.int v2), some (.int v3), some (.int v4), none] [] h := by
  unfold fX11_giveup_b105_18 at hf
  refine w_iinc X dX11_giveup_105 rfl (v := (v4 + 1)) rfl rfl (Nat.le_of_ble_eq_true rfl) (cinc_1 _) (ls' := [some (.ref 188), some (.int v1), some (.int v2), some (.int v3), some (.int (v4 + 1)), none]) rfl ?_
  refine w_goto X dX11_giveup_108 (t := 18) rfl ?_
  exact hN _ _ _ _ (wok_s hf)
set_option maxRecDepth 4000 in
theorem pX11_giveup_l18b (X : wCx p s m args meth c RX11 cX11_giveup 6 D dA b0 ad) (hr : meth.sig.returnType = (some .int)) {h : wSt} {v3 : Int32} {v1 : Int32} {v2 : Int32} {v4 : Int32} {K : (Int32 × Int32 × Int32 × wSt) ⊕ ((Int32 × wSt)) → Prop} (hN : ∀ (n1 : Int32) (n2 : Int32) (n4 : Int32) (nh : wSt), K (.inl (n1, n2, n4, nh)) → wM p l e (wR 8) s m args below meth c 0 0 (wE below args s D dA b0 ad S0 F) 6 D dA b0 ad S0 18 [some (.ref 188), some (.int n1), some (.int n2), some (.int v3), some (.int n4), none] [] nh) (hX0 : ∀ (n1 : Int32) (nh : wSt), K (.inr (n1, nh)) → wM p l e (wR 8) s m args below meth c 0 0 (wE below args s D dA b0 ad S0 F) 6 D dA b0 ad S0 111 [none, some (.int n1), none, none, none, none] [] nh) (hf : wok (fX11_giveup_l18 h v3 v1 v2 v4) K) : wM p l e (wR 8) s m args below meth c 0 0 (wE below args s D dA b0 ad S0 F) 6 D dA b0 ad S0 18 [some (.ref 188), some (.int v1), some (.int v2), some (.int v3), some (.int v4), none] [] h := by
  unfold fX11_giveup_l18 at hf
  refine w_iload X dX11_giveup_18 rfl rfl ?_
  refine w_aload_n X dX11_giveup_20 rfl rfl rfl ?_
  refine w_getR X dX11_giveup_21 rfl fl_X11_13 S0_188 rfl ?_
  refine w_iconst X dX11_giveup_24 rfl ci_0 ?_
  refine w_iald X dX11_giveup_25 rfl (j := 0) cn_0 S0_190 (show wib 0 6 by decide) ?_
  refine w_icmp_ge X dX11_giveup_26 rfl (t := 111) rfl (fun hc => ?_) (fun hc => ?_)
  · have hf := wok_t hf hc
    refine w_fg (ls2 := [none, some (.int v1), none, none, none, none]) ⟨rfl, trivial⟩ ?_
    exact hX0 _ _ (wok_s hf)
  · have hf := wok_f hf hc
    refine w_aload_n X dX11_giveup_29 rfl rfl rfl ?_
    refine w_iload X dX11_giveup_30 rfl rfl ?_
    refine w_bipush X dX11_giveup_32 rfl cb_63 ?_
    obtain ⟨yr23, eyr23, hf⟩ := wok_b hf
    refine w_callV X dX11_giveup_34 rfl vl_X11_374 (kX11_scrapedBy l  eyr23) S0_188 (As := [.int v4, .int 63]) (st := []) rfl rfl (Nat.le_of_ble_eq_true rfl) ⟨Nat.le_of_ble_eq_true rfl, Nat.le_of_ble_eq_true rfl⟩ ⟨Nat.zero_le _, Nat.zero_le _⟩ (fun r h2 hF => ?_)
    obtain ⟨_, rfl, rfl, rfl⟩ := hF
    show wM p l e (wR 8) s m args below meth c 0 0 (wE below args s D dA b0 ad S0 F) 6 D dA b0 ad S0 37 [some (.ref 188), some (.int v1), some (.int v2), some (.int v3), some (.int v4), none] [.int yr23] h
    refine w_if_ne X dX11_giveup_37 rfl (t := 43) rfl (fun hc => ?_) (fun hc => ?_)
    · have hf := wok_f hf hc
      refine w_aload_n X dX11_giveup_43 rfl rfl rfl ?_
      refine w_getR X dX11_giveup_44 rfl fl_X11_120 S0_188 rfl ?_
      refine w_iconst X dX11_giveup_47 rfl ci_0 ?_
      refine w_aload_n X dX11_giveup_48 rfl rfl rfl ?_
      refine w_getR X dX11_giveup_49 rfl fl_X11_126 S0_188 rfl ?_
      refine w_iconst X dX11_giveup_52 rfl ci_0 ?_
      obtain ⟨yr24, eyr24, hf⟩ := wok_b hf
      refine w_callS X dX11_giveup_53 rfl sl_X11_405 (kX11_copies l S0_225 S0_227 eyr24) (As := [.ref 225, .int 0, .ref 227, .int 0]) (st := []) rfl rfl (Nat.le_of_ble_eq_true rfl) ⟨Nat.le_of_ble_eq_true rfl, Nat.le_of_ble_eq_true rfl⟩ ⟨Nat.zero_le _, Nat.zero_le _⟩ (fun r h2 hF => ?_)
      obtain ⟨rfl, rfl⟩ := hF
      show wM p l e (wR 8) s m args below meth c 0 0 (wE below args s D dA b0 ad S0 F) 6 D dA b0 ad S0 56 [some (.ref 188), some (.int v1), some (.int v2), some (.int v3), some (.int v4), none] [] yr24
      refine w_aload_n X dX11_giveup_56 rfl rfl rfl ?_
      refine w_iload X dX11_giveup_57 rfl rfl ?_
      refine w_bipush X dX11_giveup_59 rfl cb_63 ?_
      obtain ⟨yr25, eyr25, hf⟩ := wok_b hf
      refine w_callV X dX11_giveup_61 rfl vl_X11_416 (kX11_scrapes l  eyr25) S0_188 (As := [.int v4, .int 63]) (st := []) rfl rfl (Nat.le_of_ble_eq_true rfl) ⟨Nat.le_of_ble_eq_true rfl, Nat.le_of_ble_eq_true rfl⟩ ⟨Nat.zero_le _, Nat.zero_le _⟩ (fun r h2 hF => ?_)
      obtain ⟨rfl, rfl⟩ := hF
      show wM p l e (wR 8) s m args below meth c 0 0 (wE below args s D dA b0 ad S0 F) 6 D dA b0 ad S0 64 [some (.ref 188), some (.int v1), some (.int v2), some (.int v3), some (.int v4), none] [] yr25
      refine w_iload_n X dX11_giveup_64 rfl rfl rfl ?_
      refine w_aload_n X dX11_giveup_65 rfl rfl rfl ?_
      obtain ⟨yr26, eyr26, hf⟩ := wok_b hf
      refine w_callV X dX11_giveup_66 rfl vl_X11_390 (kX11_wholeNow l  eyr26) S0_188 (As := []) (st := [.int v3]) rfl rfl (Nat.le_of_ble_eq_true rfl) ⟨Nat.le_of_ble_eq_true rfl, Nat.le_of_ble_eq_true rfl⟩ ⟨Nat.zero_le _, Nat.zero_le _⟩ (fun r h2 hF => ?_)
      obtain ⟨_, rfl, rfl, rfl⟩ := hF
      show wM p l e (wR 8) s m args below meth c 0 0 (wE below args s D dA b0 ad S0 F) 6 D dA b0 ad S0 69 [some (.ref 188), some (.int v1), some (.int v2), some (.int v3), some (.int v4), none] [.int yr26.1, .int v3] yr26.2
      refine w_iconst X dX11_giveup_69 rfl ci_m1 ?_
      refine w_ixor X dX11_giveup_70 rfl ?_
      refine w_iand X dX11_giveup_71 rfl ?_
      obtain ⟨yr27, eyr27, hf⟩ := wok_b hf
      refine w_callS X dX11_giveup_72 rfl sl_X11_384 (kX11_bits l  eyr27) (As := [.int (v3 &&& (yr26.1 ^^^ (-1)))]) (st := []) rfl rfl (Nat.le_of_ble_eq_true rfl) ⟨Nat.le_of_ble_eq_true rfl, Nat.le_of_ble_eq_true rfl⟩ ⟨Nat.zero_le _, Nat.zero_le _⟩ (fun r h2 hF => ?_)
      obtain ⟨_, rfl, rfl, rfl⟩ := hF
      show wM p l e (wR 8) s m args below meth c 0 0 (wE below args s D dA b0 ad S0 F) 6 D dA b0 ad S0 75 [some (.ref 188), some (.int v1), some (.int v2), some (.int v3), some (.int v4), none] [.int yr27] yr26.2
      refine w_istore X dX11_giveup_75 rfl rfl (Nat.le_of_ble_eq_true rfl) (ls' := [some (.ref 188), some (.int v1), some (.int v2), some (.int v3), some (.int v4), some (.int yr27)]) rfl ?_
      refine w_aload_n X dX11_giveup_77 rfl rfl rfl ?_
      refine w_getR X dX11_giveup_78 rfl fl_X11_126 S0_188 rfl ?_
      refine w_iconst X dX11_giveup_81 rfl ci_0 ?_
      refine w_aload_n X dX11_giveup_82 rfl rfl rfl ?_
      refine w_getR X dX11_giveup_83 rfl fl_X11_120 S0_188 rfl ?_
      refine w_iconst X dX11_giveup_86 rfl ci_0 ?_
      obtain ⟨yr28, eyr28, hf⟩ := wok_b hf
      refine w_callS X dX11_giveup_87 rfl sl_X11_405 (kX11_copies l S0_227 S0_225 eyr28) (As := [.ref 227, .int 0, .ref 225, .int 0]) (st := []) rfl rfl (Nat.le_of_ble_eq_true rfl) ⟨Nat.le_of_ble_eq_true rfl, Nat.le_of_ble_eq_true rfl⟩ ⟨Nat.zero_le _, Nat.zero_le _⟩ (fun r h2 hF => ?_)
      obtain ⟨rfl, rfl⟩ := hF
      show wM p l e (wR 8) s m args below meth c 0 0 (wE below args s D dA b0 ad S0 F) 6 D dA b0 ad S0 90 [some (.ref 188), some (.int v1), some (.int v2), some (.int v3), some (.int v4), some (.int yr27)] [] yr28
      refine w_iload X dX11_giveup_90 rfl rfl ?_
      refine w_iload_n X dX11_giveup_92 rfl rfl rfl ?_
      refine w_icmp_lt X dX11_giveup_93 rfl (t := 99) rfl (fun hc => ?_) (fun hc => ?_)
      · have hf := wok_t hf hc
        refine w_iload X dX11_giveup_99 rfl rfl ?_
        refine w_istore_n X dX11_giveup_101 rfl rfl rfl (Nat.le_of_ble_eq_true rfl) (ls' := [some (.ref 188), some (.int v4), some (.int v2), some (.int v3), some (.int v4), some (.int yr27)]) rfl ?_
        refine w_iload X dX11_giveup_102 rfl rfl ?_
        refine w_istore_n X dX11_giveup_104 rfl rfl rfl (Nat.le_of_ble_eq_true rfl) (ls' := [some (.ref 188), some (.int v4), some (.int yr27), some (.int v3), some (.int v4), some (.int yr27)]) rfl ?_
        refine w_fg (ls2 := [some (.ref 188), some (.int v4), some (.int yr27), some (.int v3), some (.int v4), none]) ⟨rfl, rfl, rfl, rfl, rfl, trivial⟩ ?_
        exact pX11_giveup_b105_18 X hr  hN hX0 hf
      · have hf := wok_f hf hc
        refine w_goto X dX11_giveup_96 (t := 105) rfl ?_
        refine w_fg (ls2 := [some (.ref 188), some (.int v1), some (.int v2), some (.int v3), some (.int v4), none]) ⟨rfl, rfl, rfl, rfl, rfl, trivial⟩ ?_
        exact pX11_giveup_b105_18 X hr  hN hX0 hf
    · have hf := wok_t hf hc
      refine w_goto X dX11_giveup_40 (t := 105) rfl ?_
      exact pX11_giveup_b105_18 X hr  hN hX0 hf
set_option maxRecDepth 4000 in
theorem pX11_giveup_l18 (X : wCx p s m args meth c RX11 cX11_giveup 6 D dA b0 ad) (hr : meth.sig.returnType = (some .int))  {v3 : Int32} {KE : (Int32 × wSt) → Prop} (hX0 : ∀ (n1 : Int32) (nh : wSt), KE ((n1, nh)) → wM p l e (wR 8) s m args below meth c 0 0 (wE below args s D dA b0 ad S0 F) 6 D dA b0 ad S0 111 [none, some (.int n1), none, none, none, none] [] nh) : ∀ (n : Nat) (v1 : Int32) (v2 : Int32) (v4 : Int32) (h : wSt), wok (wit (fun v : (Int32 × Int32 × Int32 × wSt) => fX11_giveup_l18 v.2.2.2 v3 v.1 v.2.1 v.2.2.1) n (v1, v2, v4, h)) KE → wM p l e (wR 8) s m args below meth c 0 0 (wE below args s D dA b0 ad S0 F) 6 D dA b0 ad S0 18 [some (.ref 188), some (.int v1), some (.int v2), some (.int v3), some (.int v4), none] [] h := by
  have key := wit_M (b := (fun v : (Int32 × Int32 × Int32 × wSt) => fX11_giveup_l18 v.2.2.2 v3 v.1 v.2.1 v.2.2.1)) (KE := KE) (G := fun v => wM p l e (wR 8) s m args below meth c 0 0 (wE below args s D dA b0 ad S0 F) 6 D dA b0 ad S0 18 [some (.ref 188), some (.int v.1), some (.int v.2.1), some (.int v3), some (.int v.2.2.1), none] [] v.2.2.2) (fun v K hN hE hf => pX11_giveup_l18b X hr  (fun n1 n2 n4 nh hz => hN (n1, n2, n4, nh) hz) (fun z0 z1 hz => hX0 z0 z1 (hE _ hz)) hf)
  exact fun n v1 v2 v4 h hf => key n (v1, v2, v4, h) hf
set_option maxRecDepth 4000 in
theorem pX11_giveup_b0 (X : wCx p s m args meth c RX11 cX11_giveup 6 D dA b0 ad) (hr : meth.sig.returnType = (some .int)) {h : wSt} {K : Int32 × wSt → Prop} (hT : ∀ (x : Int32) (h2 : wSt), K (x, h2) → F (some (.int x)) h2) (hf : wok (fX11_giveup h ) K) : wM p l e (wR 8) s m args below meth c 0 0 (wE below args s D dA b0 ad S0 F) 6 D dA b0 ad S0 0 [some (.ref 188), none, none, none, none, none] [] h := by
  unfold fX11_giveup at hf
  refine w_aload_n X dX11_giveup_0 rfl rfl rfl ?_
  refine w_iconst X dX11_giveup_1 rfl ci_0 ?_
  refine w_putI X dX11_giveup_2 rfl fp_X11_144 S0_188 rfl ?_
  refine w_nmh (fun yh21 eyh21 => ?_)
  have hf := wok_l hf eyh21
  refine w_iconst X dX11_giveup_5 rfl ci_m1 ?_
  refine w_istore_n X dX11_giveup_6 rfl rfl rfl (Nat.le_of_ble_eq_true rfl) (ls' := [some (.ref 188), some (.int (-1)), none, none, none, none]) rfl ?_
  refine w_bipush X dX11_giveup_7 rfl cb_7 ?_
  refine w_istore_n X dX11_giveup_9 rfl rfl rfl (Nat.le_of_ble_eq_true rfl) (ls' := [some (.ref 188), some (.int (-1)), some (.int 7), none, none, none]) rfl ?_
  refine w_aload_n X dX11_giveup_10 rfl rfl rfl ?_
  obtain ⟨yr22, eyr22, hf⟩ := wok_b hf
  refine w_callV X dX11_giveup_11 rfl vl_X11_390 (kX11_wholeNow l  eyr22) S0_188 (As := []) (st := []) rfl rfl (Nat.le_of_ble_eq_true rfl) ⟨Nat.le_of_ble_eq_true rfl, Nat.le_of_ble_eq_true rfl⟩ ⟨Nat.zero_le _, Nat.zero_le _⟩ (fun r h2 hF => ?_)
  obtain ⟨_, rfl, rfl, rfl⟩ := hF
  show wM p l e (wR 8) s m args below meth c 0 0 (wE below args s D dA b0 ad S0 F) 6 D dA b0 ad S0 14 [some (.ref 188), some (.int (-1)), some (.int 7), none, none, none] [.int yr22.1] yr22.2
  refine w_istore_n X dX11_giveup_14 rfl rfl rfl (Nat.le_of_ble_eq_true rfl) (ls' := [some (.ref 188), some (.int (-1)), some (.int 7), some (.int yr22.1), none, none]) rfl ?_
  refine w_iconst X dX11_giveup_15 rfl ci_0 ?_
  refine w_istore X dX11_giveup_16 rfl rfl (Nat.le_of_ble_eq_true rfl) (ls' := [some (.ref 188), some (.int (-1)), some (.int 7), some (.int yr22.1), some (.int 0), none]) rfl ?_
  obtain ⟨ye29, hye29, hf⟩ := wok_b hf
  refine pX11_giveup_l18 X hr  (KE := fun z => ye29 = z) ?_ 3000 _ _ _ _ ⟨ye29, hye29, rfl⟩
  · intro yz30 yz31 hz
    subst hz
    refine w_iload_n X dX11_giveup_111 rfl rfl rfl ?_
    exact w_iret X dX11_giveup_112 hr (hT _ _ (wok_s hf))
set_option maxRecDepth 4000 in
theorem kX11_giveup (l : Launch) {h : wSt} {res : Int32 × wSt} (hf : fX11_giveup h  = some res) : wC l yX11_giveup cX11_giveup 6 (some .int) 8 S0 [.ref 188] h (wFI (fun a b => res.1 = a ∧ res.2 = b)) := by
  refine w_meth2 5 (by decide) (Nat.le_of_ble_eq_true rfl) (ls := [some (.ref 188), none, none, none, none, none]) rfl ?_
  intro p e s m args below meth c D dA b0 ad X hr
  exact pX11_giveup_b0 X hr  (K := fun z => res = z) (fun x h2 hz => ⟨x, rfl, by rw [hz], by rw [hz]⟩) ⟨res, hf, rfl⟩
set_option maxRecDepth 4000 in
theorem pX11_see_b0 (X : wCx p s m args meth c RX11 cX11_see 5 D dA b0 ad) (hr : meth.sig.returnType = (some .boolean)) {h : wSt} {x0 : Int32} {x1 : Int32} {x2 : Int32} {x3 : Int32} {K : Bool × wSt → Prop} (hT : ∀ (x : Bool) (h2 : wSt), K (x, h2) → F (some (.int (wb x))) h2) (hf : wok (fX11_see h x0 x1 x2 x3) K) : wM p l e (wR 2) s m args below meth c 0 0 (wE below args s D dA b0 ad S0 F) 5 D dA b0 ad S0 0 [some (.ref 188), some (.int x0), some (.int x1), some (.int x2), some (.int x3)] [] h := by
  unfold fX11_see at hf
  refine w_aload_n X dX11_see_0 rfl rfl rfl ?_
  refine w_iconst X dX11_see_1 rfl ci_0 ?_
  refine w_putI X dX11_see_2 rfl fp_X11_144 S0_188 rfl ?_
  refine w_nmh (fun yh21 eyh21 => ?_)
  have hf := wok_l hf eyh21
  refine w_aload_n X dX11_see_5 rfl rfl rfl ?_
  refine w_iload_n X dX11_see_6 rfl rfl rfl ?_
  obtain ⟨yr22, eyr22, hf⟩ := wok_b hf
  refine w_callV X dX11_see_7 rfl vl_X11_353 (kX11_isSkin l  eyr22) S0_188 (As := [.int x0]) (st := []) rfl rfl (Nat.le_of_ble_eq_true rfl) ⟨Nat.le_of_ble_eq_true rfl, Nat.le_of_ble_eq_true rfl⟩ ⟨Nat.zero_le _, Nat.zero_le _⟩ (fun r h2 hF => ?_)
  obtain ⟨_, rfl, rfl, rfl⟩ := hF
  show wM p l e (wR 2) s m args below meth c 0 0 (wE below args s D dA b0 ad S0 F) 5 D dA b0 ad S0 10 [some (.ref 188), some (.int x0), some (.int x1), some (.int x2), some (.int x3)] [.int (wb yr22)] yh21
  refine w_if_eq X dX11_see_10 rfl (t := 44) rfl (fun hc => ?_) (fun hc => ?_)
  · have hf := wok_f hf (wb_0 hc)
    refine w_iconst X dX11_see_44 rfl ci_0 ?_
    exact w_zret X dX11_see_45 hr rfl (hT false _ (wok_s hf))
  · have hf := wok_t hf (wb_n0 hc)
    refine w_iload_n X dX11_see_13 rfl rfl rfl ?_
    refine w_iconst X dX11_see_14 rfl ci_1 ?_
    refine w_bipush X dX11_see_15 rfl cb_9 ?_
    obtain ⟨yr23, eyr23, hf⟩ := wok_b hf
    refine w_callS X dX11_see_17 rfl sl_X11_265 (kX11_within l  eyr23) (As := [.int x1, .int 1, .int 9]) (st := []) rfl rfl (Nat.le_of_ble_eq_true rfl) ⟨Nat.le_of_ble_eq_true rfl, Nat.le_of_ble_eq_true rfl⟩ ⟨Nat.zero_le _, Nat.zero_le _⟩ (fun r h2 hF => ?_)
    obtain ⟨_, rfl, rfl, rfl⟩ := hF
    show wM p l e (wR 2) s m args below meth c 0 0 (wE below args s D dA b0 ad S0 F) 5 D dA b0 ad S0 20 [some (.ref 188), some (.int x0), some (.int x1), some (.int x2), some (.int x3)] [.int (wb yr23)] yh21
    refine w_if_eq X dX11_see_20 rfl (t := 44) rfl (fun hc => ?_) (fun hc => ?_)
    · have hf := wok_f hf (wb_0 hc)
      refine w_iconst X dX11_see_44 rfl ci_0 ?_
      exact w_zret X dX11_see_45 hr rfl (hT false _ (wok_s hf))
    · have hf := wok_t hf (wb_n0 hc)
      refine w_iload_n X dX11_see_23 rfl rfl rfl ?_
      refine w_iconst X dX11_see_24 rfl ci_0 ?_
      refine w_bipush X dX11_see_25 rfl cb_9 ?_
      obtain ⟨yr24, eyr24, hf⟩ := wok_b hf
      refine w_callS X dX11_see_27 rfl sl_X11_265 (kX11_within l  eyr24) (As := [.int x2, .int 0, .int 9]) (st := []) rfl rfl (Nat.le_of_ble_eq_true rfl) ⟨Nat.le_of_ble_eq_true rfl, Nat.le_of_ble_eq_true rfl⟩ ⟨Nat.zero_le _, Nat.zero_le _⟩ (fun r h2 hF => ?_)
      obtain ⟨_, rfl, rfl, rfl⟩ := hF
      show wM p l e (wR 2) s m args below meth c 0 0 (wE below args s D dA b0 ad S0 F) 5 D dA b0 ad S0 30 [some (.ref 188), some (.int x0), some (.int x1), some (.int x2), some (.int x3)] [.int (wb yr24)] yh21
      refine w_if_eq X dX11_see_30 rfl (t := 44) rfl (fun hc => ?_) (fun hc => ?_)
      · have hf := wok_f hf (wb_0 hc)
        refine w_iconst X dX11_see_44 rfl ci_0 ?_
        exact w_zret X dX11_see_45 hr rfl (hT false _ (wok_s hf))
      · have hf := wok_t hf (wb_n0 hc)
        refine w_aload_n X dX11_see_33 rfl rfl rfl ?_
        refine w_getR X dX11_see_34 rfl fl_X11_105 S0_188 rfl ?_
        refine w_iconst X dX11_see_37 rfl ci_0 ?_
        refine w_iald X dX11_see_38 rfl (j := 0) cn_0 S0_220 (show wib 0 5 by decide) ?_
        refine w_bipush X dX11_see_39 rfl cb_8 ?_
        refine w_icmp_ne X dX11_see_41 rfl (t := 46) rfl (fun hc => ?_) (fun hc => ?_)
        · have hf := wok_f hf hc
          refine w_aload_n X dX11_see_46 rfl rfl rfl ?_
          refine w_getR X dX11_see_47 rfl fl_X11_108 S0_188 rfl ?_
          refine w_aload_n X dX11_see_50 rfl rfl rfl ?_
          refine w_getR X dX11_see_51 rfl fl_X11_105 S0_188 rfl ?_
          refine w_iconst X dX11_see_54 rfl ci_0 ?_
          refine w_iald X dX11_see_55 rfl (j := 0) cn_0 S0_220 (show wib 0 5 by decide) ?_
          refine w_iload_n X dX11_see_56 rfl rfl rfl ?_
          obtain ⟨yhg25, hf⟩ := wok_g hf
          refine w_iast X dX11_see_57 rfl (j := (yh21.1 220 0).toNatClampNeg) rfl S0_221 yhg25 ?_
          refine w_nmh (fun yh26 eyh26 => ?_)
          have hf := wok_l hf eyh26
          refine w_aload_n X dX11_see_58 rfl rfl rfl ?_
          refine w_getR X dX11_see_59 rfl fl_X11_111 S0_188 rfl ?_
          refine w_aload_n X dX11_see_62 rfl rfl rfl ?_
          refine w_getR X dX11_see_63 rfl fl_X11_105 S0_188 rfl ?_
          refine w_iconst X dX11_see_66 rfl ci_0 ?_
          refine w_iald X dX11_see_67 rfl (j := 0) cn_0 S0_220 (show wib 0 5 by decide) ?_
          refine w_iload_n X dX11_see_68 rfl rfl rfl ?_
          obtain ⟨yhg27, hf⟩ := wok_g hf
          refine w_iast X dX11_see_69 rfl (j := (yh26.1 220 0).toNatClampNeg) rfl S0_222 yhg27 ?_
          refine w_nmh (fun yh28 eyh28 => ?_)
          have hf := wok_l hf eyh28
          refine w_aload_n X dX11_see_70 rfl rfl rfl ?_
          refine w_getR X dX11_see_71 rfl fl_X11_114 S0_188 rfl ?_
          refine w_aload_n X dX11_see_74 rfl rfl rfl ?_
          refine w_getR X dX11_see_75 rfl fl_X11_105 S0_188 rfl ?_
          refine w_iconst X dX11_see_78 rfl ci_0 ?_
          refine w_iald X dX11_see_79 rfl (j := 0) cn_0 S0_220 (show wib 0 5 by decide) ?_
          refine w_iload_n X dX11_see_80 rfl rfl rfl ?_
          obtain ⟨yhg29, hf⟩ := wok_g hf
          refine w_iast X dX11_see_81 rfl (j := (yh28.1 220 0).toNatClampNeg) rfl S0_223 yhg29 ?_
          refine w_nmh (fun yh30 eyh30 => ?_)
          have hf := wok_l hf eyh30
          refine w_aload_n X dX11_see_82 rfl rfl rfl ?_
          refine w_getR X dX11_see_83 rfl fl_X11_117 S0_188 rfl ?_
          refine w_aload_n X dX11_see_86 rfl rfl rfl ?_
          refine w_getR X dX11_see_87 rfl fl_X11_105 S0_188 rfl ?_
          refine w_iconst X dX11_see_90 rfl ci_0 ?_
          refine w_iald X dX11_see_91 rfl (j := 0) cn_0 S0_220 (show wib 0 5 by decide) ?_
          refine w_iload X dX11_see_92 rfl rfl ?_
          obtain ⟨yhg31, hf⟩ := wok_g hf
          refine w_zast X dX11_see_94 rfl (j := (yh30.1 220 0).toNatClampNeg) rfl S0_224 yhg31 ?_
          refine w_nmh (fun yh32 eyh32 => ?_)
          have hf := wok_l hf eyh32
          refine w_aload_n X dX11_see_95 rfl rfl rfl ?_
          refine w_getR X dX11_see_96 rfl fl_X11_105 S0_188 rfl ?_
          refine w_iconst X dX11_see_99 rfl ci_0 ?_
          refine w_dup2 X dX11_see_100 rfl rfl rfl ?_
          refine w_iald X dX11_see_101 rfl (j := 0) cn_0 S0_220 (show wib 0 5 by decide) ?_
          refine w_iconst X dX11_see_102 rfl ci_1 ?_
          refine w_iadd X dX11_see_103 rfl ?_
          refine w_iast X dX11_see_104 rfl (j := 0) cn_0 S0_220 (show wib 0 5 by decide) ?_
          refine w_nmh (fun yh33 eyh33 => ?_)
          have hf := wok_l hf eyh33
          refine w_iconst X dX11_see_105 rfl ci_1 ?_
          exact w_zret X dX11_see_106 hr rfl (hT true _ (wok_s hf))
        · have hf := wok_t hf hc
          refine w_iconst X dX11_see_44 rfl ci_0 ?_
          exact w_zret X dX11_see_45 hr rfl (hT false _ (wok_s hf))
set_option maxRecDepth 4000 in
theorem kX11_see (l : Launch) {h : wSt} {x0 : Int32} {x1 : Int32} {x2 : Int32} {x3 : Int32} {res : Bool × wSt} (hf : fX11_see h x0 x1 x2 x3 = some res) : wC l yX11_see cX11_see 5 (some .boolean) 2 S0 [.ref 188, .int x0, .int x1, .int x2, .int x3] h (wFZ (fun a b => res.1 = a ∧ res.2 = b)) := by
  refine w_meth2 0 (by decide) (Nat.le_of_ble_eq_true rfl) (ls := [some (.ref 188), some (.int x0), some (.int x1), some (.int x2), some (.int x3)]) rfl ?_
  intro p e s m args below meth c D dA b0 ad X hr
  exact pX11_see_b0 X hr  (K := fun z => res = z) (fun x h2 hz => ⟨x, rfl, by rw [hz], by rw [hz]⟩) ⟨res, hf, rfl⟩
set_option maxRecDepth 4000 in
theorem pX11_who_b87_24 (X : wCx p s m args meth c RX11 cX11_who 5 D dA b0 ad) (hr : meth.sig.returnType = (some .int)) {h : wSt} {v1 : Int32} {v2 : Int32} {v4 : Int32} {w0 : Int32} {K : (Int32 × Int32 × wSt) ⊕ ((Int32 × wSt)) → Prop} (hN : ∀ (n3 : Int32) (n4 : Int32) (nh : wSt), K (.inl (n3, n4, nh)) → wM p l e (wR 5) s m args below meth c 0 0 (wE below args s D dA b0 ad S0 F) 5 D dA b0 ad S0 24 [some (.ref 188), some (.int v1), some (.int v2), some (.int n3), some (.int n4)] [] nh) (hX0 : ∀ (n3 : Int32) (nh : wSt), K (.inr (n3, nh)) → wM p l e (wR 5) s m args below meth c 0 0 (wE below args s D dA b0 ad S0 F) 5 D dA b0 ad S0 94 [some (.ref 188), some (.int v1), some (.int v2), some (.int n3), none] [] nh) (hf : wok (fX11_who_b87_24 h v1 v2 v4 w0) K) : wM p l e (wR 5) s m args below meth c 0 0 (wE below args s D dA b0 ad S0 F) 5 D dA b0 ad S0 87 [some (.ref 188), some (.int v1), some (.int v2), none, some (.int v4)] [.int w0] h := by
  unfold fX11_who_b87_24 at hf
  refine w_istore_n X dX11_who_87 rfl rfl rfl (Nat.le_of_ble_eq_true rfl) (ls' := [some (.ref 188), some (.int v1), some (.int v2), some (.int w0), some (.int v4)]) rfl ?_
  refine w_iinc X dX11_who_88 rfl (v := (v4 + 1)) rfl rfl (Nat.le_of_ble_eq_true rfl) (cinc_1 _) (ls' := [some (.ref 188), some (.int v1), some (.int v2), some (.int w0), some (.int (v4 + 1))]) rfl ?_
  refine w_goto X dX11_who_91 (t := 24) rfl ?_
  exact hN _ _ _ (wok_s hf)
set_option maxRecDepth 4000 in
theorem pX11_who_b86_24 (X : wCx p s m args meth c RX11 cX11_who 5 D dA b0 ad) (hr : meth.sig.returnType = (some .int)) {h : wSt} {v1 : Int32} {v2 : Int32} {v4 : Int32} {K : (Int32 × Int32 × wSt) ⊕ ((Int32 × wSt)) → Prop} (hN : ∀ (n3 : Int32) (n4 : Int32) (nh : wSt), K (.inl (n3, n4, nh)) → wM p l e (wR 5) s m args below meth c 0 0 (wE below args s D dA b0 ad S0 F) 5 D dA b0 ad S0 24 [some (.ref 188), some (.int v1), some (.int v2), some (.int n3), some (.int n4)] [] nh) (hX0 : ∀ (n3 : Int32) (nh : wSt), K (.inr (n3, nh)) → wM p l e (wR 5) s m args below meth c 0 0 (wE below args s D dA b0 ad S0 F) 5 D dA b0 ad S0 94 [some (.ref 188), some (.int v1), some (.int v2), some (.int n3), none] [] nh) (hf : wok (fX11_who_b86_24 h v1 v2 v4) K) : wM p l e (wR 5) s m args below meth c 0 0 (wE below args s D dA b0 ad S0 F) 5 D dA b0 ad S0 86 [some (.ref 188), some (.int v1), some (.int v2), none, some (.int v4)] [] h := by
  unfold fX11_who_b86_24 at hf
  refine w_iconst X dX11_who_86 rfl ci_0 ?_
  exact pX11_who_b87_24 X hr  hN hX0 hf
set_option maxRecDepth 4000 in
theorem pX11_who_l24b (X : wCx p s m args meth c RX11 cX11_who 5 D dA b0 ad) (hr : meth.sig.returnType = (some .int)) {h : wSt} {v1 : Int32} {v2 : Int32} {v3 : Int32} {v4 : Int32} {K : (Int32 × Int32 × wSt) ⊕ ((Int32 × wSt)) → Prop} (hN : ∀ (n3 : Int32) (n4 : Int32) (nh : wSt), K (.inl (n3, n4, nh)) → wM p l e (wR 5) s m args below meth c 0 0 (wE below args s D dA b0 ad S0 F) 5 D dA b0 ad S0 24 [some (.ref 188), some (.int v1), some (.int v2), some (.int n3), some (.int n4)] [] nh) (hX0 : ∀ (n3 : Int32) (nh : wSt), K (.inr (n3, nh)) → wM p l e (wR 5) s m args below meth c 0 0 (wE below args s D dA b0 ad S0 F) 5 D dA b0 ad S0 94 [some (.ref 188), some (.int v1), some (.int v2), some (.int n3), none] [] nh) (hf : wok (fX11_who_l24 h v1 v2 v3 v4) K) : wM p l e (wR 5) s m args below meth c 0 0 (wE below args s D dA b0 ad S0 F) 5 D dA b0 ad S0 24 [some (.ref 188), some (.int v1), some (.int v2), some (.int v3), some (.int v4)] [] h := by
  unfold fX11_who_l24 at hf
  refine w_iload X dX11_who_24 rfl rfl ?_
  refine w_aload_n X dX11_who_26 rfl rfl rfl ?_
  refine w_getR X dX11_who_27 rfl fl_X11_105 S0_188 rfl ?_
  refine w_iconst X dX11_who_30 rfl ci_0 ?_
  refine w_iald X dX11_who_31 rfl (j := 0) cn_0 S0_220 (show wib 0 5 by decide) ?_
  refine w_icmp_ge X dX11_who_32 rfl (t := 94) rfl (fun hc => ?_) (fun hc => ?_)
  · have hf := wok_t hf hc
    refine w_fg (ls2 := [some (.ref 188), some (.int v1), some (.int v2), some (.int v3), none]) ⟨rfl, rfl, rfl, rfl, trivial⟩ ?_
    exact hX0 _ _ (wok_s hf)
  · have hf := wok_f hf hc
    refine w_iload_n X dX11_who_35 rfl rfl rfl ?_
    refine w_if_eq X dX11_who_36 rfl (t := 86) rfl (fun hc => ?_) (fun hc => ?_)
    · have hf := wok_t hf hc
      refine w_fg (ls2 := [some (.ref 188), some (.int v1), some (.int v2), none, some (.int v4)]) ⟨rfl, rfl, rfl, rfl, trivial⟩ ?_
      exact pX11_who_b86_24 X hr  hN hX0 hf
    · have hf := wok_f hf hc
      refine w_aload_n X dX11_who_39 rfl rfl rfl ?_
      refine w_iload_n X dX11_who_40 rfl rfl rfl ?_
      refine w_aload_n X dX11_who_41 rfl rfl rfl ?_
      refine w_getR X dX11_who_42 rfl fl_X11_111 S0_188 rfl ?_
      refine w_iload X dX11_who_45 rfl rfl ?_
      obtain ⟨yhg22, hf⟩ := wok_g hf
      refine w_iald X dX11_who_47 rfl (j := v4.toNatClampNeg) rfl S0_222 yhg22 ?_
      refine w_aload_n X dX11_who_48 rfl rfl rfl ?_
      refine w_getR X dX11_who_49 rfl fl_X11_120 S0_188 rfl ?_
      refine w_iconst X dX11_who_52 rfl ci_1 ?_
      refine w_aload_n X dX11_who_53 rfl rfl rfl ?_
      refine w_getR X dX11_who_54 rfl fl_X11_108 S0_188 rfl ?_
      refine w_iload X dX11_who_57 rfl rfl ?_
      refine w_iald X dX11_who_59 rfl (j := v4.toNatClampNeg) rfl S0_221 yhg22 ?_
      refine w_iadd X dX11_who_60 rfl ?_
      obtain ⟨yhg23, hf⟩ := wok_g hf
      refine w_iald X dX11_who_61 rfl (j := (1 + (h.1 221 v4.toNatClampNeg)).toNatClampNeg) rfl S0_225 yhg23 ?_
      refine w_aload_n X dX11_who_62 rfl rfl rfl ?_
      refine w_getR X dX11_who_63 rfl fl_X11_114 S0_188 rfl ?_
      refine w_iload X dX11_who_66 rfl rfl ?_
      refine w_iald X dX11_who_68 rfl (j := v4.toNatClampNeg) rfl S0_223 yhg22 ?_
      obtain ⟨yr24, eyr24, hf⟩ := wok_b hf
      refine w_callV X dX11_who_69 rfl vl_X11_359 (kX11_showsBy l  eyr24) S0_188 (As := [.int v2, .int (h.1 222 v4.toNatClampNeg), .int (h.1 225 (1 + (h.1 221 v4.toNatClampNeg)).toNatClampNeg), .int (h.1 223 v4.toNatClampNeg)]) (st := []) rfl rfl (Nat.le_of_ble_eq_true rfl) ⟨Nat.le_of_ble_eq_true rfl, Nat.le_of_ble_eq_true rfl⟩ ⟨Nat.zero_le _, Nat.zero_le _⟩ (fun r h2 hF => ?_)
      obtain ⟨_, rfl, rfl, rfl⟩ := hF
      show wM p l e (wR 5) s m args below meth c 0 0 (wE below args s D dA b0 ad S0 F) 5 D dA b0 ad S0 72 [some (.ref 188), some (.int v1), some (.int v2), some (.int v3), some (.int v4)] [.int (wb yr24.1)] yr24.2
      refine w_aload_n X dX11_who_72 rfl rfl rfl ?_
      refine w_getR X dX11_who_73 rfl fl_X11_117 S0_188 rfl ?_
      refine w_iload X dX11_who_76 rfl rfl ?_
      refine w_zald X dX11_who_78 rfl (j := v4.toNatClampNeg) rfl S0_224 yhg22 ?_
      refine w_icmp_ne X dX11_who_79 rfl (t := 86) rfl (fun hc => ?_) (fun hc => ?_)
      · have hf := wok_f hf hc
        refine w_fg (ls2 := [some (.ref 188), some (.int v1), some (.int v2), none, some (.int v4)]) ⟨rfl, rfl, rfl, rfl, trivial⟩ ?_
        exact pX11_who_b86_24 X hr  hN hX0 hf
      · have hf := wok_t hf hc
        refine w_iconst X dX11_who_82 rfl ci_1 ?_
        refine w_goto X dX11_who_83 (t := 87) rfl ?_
        refine w_fg (ls2 := [some (.ref 188), some (.int v1), some (.int v2), none, some (.int v4)]) ⟨rfl, rfl, rfl, rfl, trivial⟩ ?_
        exact pX11_who_b87_24 X hr  hN hX0 hf
set_option maxRecDepth 4000 in
theorem pX11_who_l24 (X : wCx p s m args meth c RX11 cX11_who 5 D dA b0 ad) (hr : meth.sig.returnType = (some .int))  {v1 : Int32} {v2 : Int32} {KE : (Int32 × wSt) → Prop} (hX0 : ∀ (n3 : Int32) (nh : wSt), KE ((n3, nh)) → wM p l e (wR 5) s m args below meth c 0 0 (wE below args s D dA b0 ad S0 F) 5 D dA b0 ad S0 94 [some (.ref 188), some (.int v1), some (.int v2), some (.int n3), none] [] nh) : ∀ (n : Nat) (v3 : Int32) (v4 : Int32) (h : wSt), wok (wit (fun v : (Int32 × Int32 × wSt) => fX11_who_l24 v.2.2 v1 v2 v.1 v.2.1) n (v3, v4, h)) KE → wM p l e (wR 5) s m args below meth c 0 0 (wE below args s D dA b0 ad S0 F) 5 D dA b0 ad S0 24 [some (.ref 188), some (.int v1), some (.int v2), some (.int v3), some (.int v4)] [] h := by
  have key := wit_M (b := (fun v : (Int32 × Int32 × wSt) => fX11_who_l24 v.2.2 v1 v2 v.1 v.2.1)) (KE := KE) (G := fun v => wM p l e (wR 5) s m args below meth c 0 0 (wE below args s D dA b0 ad S0 F) 5 D dA b0 ad S0 24 [some (.ref 188), some (.int v1), some (.int v2), some (.int v.1), some (.int v.2.1)] [] v.2.2) (fun v K hN hE hf => pX11_who_l24b X hr  (fun n3 n4 nh hz => hN (n3, n4, nh) hz) (fun z0 z1 hz => hX0 z0 z1 (hE _ hz)) hf)
  exact fun n v3 v4 h hf => key n (v3, v4, h) hf
set_option maxRecDepth 4000 in
theorem pX11_who_b106_9 (X : wCx p s m args meth c RX11 cX11_who 5 D dA b0 ad) (hr : meth.sig.returnType = (some .int)) {h : wSt} {v2 : Int32} {w0 : Int32} {w1 : Int32} {K : (Int32 × Int32 × wSt) ⊕ ((Int32 × wSt)) → Prop} (hN : ∀ (n1 : Int32) (n2 : Int32) (nh : wSt), K (.inl (n1, n2, nh)) → wM p l e (wR 5) s m args below meth c 0 0 (wE below args s D dA b0 ad S0 F) 5 D dA b0 ad S0 9 [some (.ref 188), some (.int n1), some (.int n2), none, none] [] nh) (hX0 : ∀ (n1 : Int32) (nh : wSt), K (.inr (n1, nh)) → wM p l e (wR 5) s m args below meth c 0 0 (wE below args s D dA b0 ad S0 F) 5 D dA b0 ad S0 114 [none, some (.int n1), none, none, none] [] nh) (hf : wok (fX11_who_b106_9 h v2 w0 w1) K) : wM p l e (wR 5) s m args below meth c 0 0 (wE below args s D dA b0 ad S0 F) 5 D dA b0 ad S0 106 [some (.ref 188), none, some (.int v2), none, none] [.int w1, .int w0] h := by
  unfold fX11_who_b106_9 at hf
  refine w_ior X dX11_who_106 rfl ?_
  refine w_istore_n X dX11_who_107 rfl rfl rfl (Nat.le_of_ble_eq_true rfl) (ls' := [some (.ref 188), some (.int (w0 ||| w1)), some (.int v2), none, none]) rfl ?_
  refine w_iinc X dX11_who_108 rfl (v := (v2 + 1)) rfl rfl (Nat.le_of_ble_eq_true rfl) (cinc_1 _) (ls' := [some (.ref 188), some (.int (w0 ||| w1)), some (.int (v2 + 1)), none, none]) rfl ?_
  refine w_goto X dX11_who_111 (t := 9) rfl ?_
  exact hN _ _ _ (wok_s hf)
set_option maxRecDepth 4000 in
theorem pX11_who_l9b (X : wCx p s m args meth c RX11 cX11_who 5 D dA b0 ad) (hr : meth.sig.returnType = (some .int)) {h : wSt} {v1 : Int32} {v2 : Int32} {K : (Int32 × Int32 × wSt) ⊕ ((Int32 × wSt)) → Prop} (hN : ∀ (n1 : Int32) (n2 : Int32) (nh : wSt), K (.inl (n1, n2, nh)) → wM p l e (wR 5) s m args below meth c 0 0 (wE below args s D dA b0 ad S0 F) 5 D dA b0 ad S0 9 [some (.ref 188), some (.int n1), some (.int n2), none, none] [] nh) (hX0 : ∀ (n1 : Int32) (nh : wSt), K (.inr (n1, nh)) → wM p l e (wR 5) s m args below meth c 0 0 (wE below args s D dA b0 ad S0 F) 5 D dA b0 ad S0 114 [none, some (.int n1), none, none, none] [] nh) (hf : wok (fX11_who_l9 h v1 v2) K) : wM p l e (wR 5) s m args below meth c 0 0 (wE below args s D dA b0 ad S0 F) 5 D dA b0 ad S0 9 [some (.ref 188), some (.int v1), some (.int v2), none, none] [] h := by
  unfold fX11_who_l9 at hf
  refine w_iload_n X dX11_who_9 rfl rfl rfl ?_
  refine w_aload_n X dX11_who_10 rfl rfl rfl ?_
  refine w_getR X dX11_who_11 rfl fl_X11_13 S0_188 rfl ?_
  refine w_iconst X dX11_who_14 rfl ci_1 ?_
  refine w_iald X dX11_who_15 rfl (j := 1) cn_1 S0_190 (show wib 1 6 by decide) ?_
  refine w_icmp_ge X dX11_who_16 rfl (t := 114) rfl (fun hc => ?_) (fun hc => ?_)
  · have hf := wok_t hf hc
    refine w_fg (ls2 := [none, some (.int v1), none, none, none]) ⟨rfl, trivial⟩ ?_
    exact hX0 _ _ (wok_s hf)
  · have hf := wok_f hf hc
    refine w_iconst X dX11_who_19 rfl ci_1 ?_
    refine w_istore_n X dX11_who_20 rfl rfl rfl (Nat.le_of_ble_eq_true rfl) (ls' := [some (.ref 188), some (.int v1), some (.int v2), some (.int 1), none]) rfl ?_
    refine w_iconst X dX11_who_21 rfl ci_0 ?_
    refine w_istore X dX11_who_22 rfl rfl (Nat.le_of_ble_eq_true rfl) (ls' := [some (.ref 188), some (.int v1), some (.int v2), some (.int 1), some (.int 0)]) rfl ?_
    obtain ⟨ye25, hye25, hf⟩ := wok_b hf
    refine pX11_who_l24 X hr  (KE := fun z => ye25 = z) ?_ 3000 _ _ _ ⟨ye25, hye25, rfl⟩
    · intro yz26 yz27 hz
      subst hz
      refine w_iload_n X dX11_who_94 rfl rfl rfl ?_
      refine w_iload_n X dX11_who_95 rfl rfl rfl ?_
      refine w_if_eq X dX11_who_96 rfl (t := 105) rfl (fun hc => ?_) (fun hc => ?_)
      · have hf := wok_t hf hc
        refine w_iconst X dX11_who_105 rfl ci_0 ?_
        refine w_fg (ls2 := [some (.ref 188), none, some (.int v2), none, none]) ⟨rfl, rfl, trivial⟩ ?_
        exact pX11_who_b106_9 X hr  hN hX0 hf
      · have hf := wok_f hf hc
        refine w_iconst X dX11_who_99 rfl ci_1 ?_
        refine w_iload_n X dX11_who_100 rfl rfl rfl ?_
        refine w_ishl X dX11_who_101 rfl ?_
        refine w_goto X dX11_who_102 (t := 106) rfl ?_
        refine w_fg (ls2 := [some (.ref 188), none, some (.int v2), none, none]) ⟨rfl, rfl, trivial⟩ ?_
        exact pX11_who_b106_9 X hr  hN hX0 hf
set_option maxRecDepth 4000 in
theorem pX11_who_l9 (X : wCx p s m args meth c RX11 cX11_who 5 D dA b0 ad) (hr : meth.sig.returnType = (some .int))  {KE : (Int32 × wSt) → Prop} (hX0 : ∀ (n1 : Int32) (nh : wSt), KE ((n1, nh)) → wM p l e (wR 5) s m args below meth c 0 0 (wE below args s D dA b0 ad S0 F) 5 D dA b0 ad S0 114 [none, some (.int n1), none, none, none] [] nh) : ∀ (n : Nat) (v1 : Int32) (v2 : Int32) (h : wSt), wok (wit (fun v : (Int32 × Int32 × wSt) => fX11_who_l9 v.2.2 v.1 v.2.1) n (v1, v2, h)) KE → wM p l e (wR 5) s m args below meth c 0 0 (wE below args s D dA b0 ad S0 F) 5 D dA b0 ad S0 9 [some (.ref 188), some (.int v1), some (.int v2), none, none] [] h := by
  have key := wit_M (b := (fun v : (Int32 × Int32 × wSt) => fX11_who_l9 v.2.2 v.1 v.2.1)) (KE := KE) (G := fun v => wM p l e (wR 5) s m args below meth c 0 0 (wE below args s D dA b0 ad S0 F) 5 D dA b0 ad S0 9 [some (.ref 188), some (.int v.1), some (.int v.2.1), none, none] [] v.2.2) (fun v K hN hE hf => pX11_who_l9b X hr  (fun n1 n2 nh hz => hN (n1, n2, nh) hz) (fun z0 z1 hz => hX0 z0 z1 (hE _ hz)) hf)
  exact fun n v1 v2 h hf => key n (v1, v2, h) hf
set_option maxRecDepth 4000 in
theorem pX11_who_b0 (X : wCx p s m args meth c RX11 cX11_who 5 D dA b0 ad) (hr : meth.sig.returnType = (some .int)) {h : wSt} {K : Int32 × wSt → Prop} (hT : ∀ (x : Int32) (h2 : wSt), K (x, h2) → F (some (.int x)) h2) (hf : wok (fX11_who h ) K) : wM p l e (wR 5) s m args below meth c 0 0 (wE below args s D dA b0 ad S0 F) 5 D dA b0 ad S0 0 [some (.ref 188), none, none, none, none] [] h := by
  unfold fX11_who at hf
  refine w_aload_n X dX11_who_0 rfl rfl rfl ?_
  refine w_iconst X dX11_who_1 rfl ci_0 ?_
  refine w_putI X dX11_who_2 rfl fp_X11_144 S0_188 rfl ?_
  refine w_nmh (fun yh21 eyh21 => ?_)
  have hf := wok_l hf eyh21
  refine w_iconst X dX11_who_5 rfl ci_0 ?_
  refine w_istore_n X dX11_who_6 rfl rfl rfl (Nat.le_of_ble_eq_true rfl) (ls' := [some (.ref 188), some (.int 0), none, none, none]) rfl ?_
  refine w_iconst X dX11_who_7 rfl ci_0 ?_
  refine w_istore_n X dX11_who_8 rfl rfl rfl (Nat.le_of_ble_eq_true rfl) (ls' := [some (.ref 188), some (.int 0), some (.int 0), none, none]) rfl ?_
  obtain ⟨ye28, hye28, hf⟩ := wok_b hf
  refine pX11_who_l9 X hr  (KE := fun z => ye28 = z) ?_ 3000 _ _ _ ⟨ye28, hye28, rfl⟩
  · intro yz29 yz30 hz
    subst hz
    refine w_iload_n X dX11_who_114 rfl rfl rfl ?_
    exact w_iret X dX11_who_115 hr (hT _ _ (wok_s hf))
set_option maxRecDepth 4000 in
theorem kX11_who (l : Launch) {h : wSt} {res : Int32 × wSt} (hf : fX11_who h  = some res) : wC l yX11_who cX11_who 5 (some .int) 5 S0 [.ref 188] h (wFI (fun a b => res.1 = a ∧ res.2 = b)) := by
  refine w_meth2 4 (by decide) (Nat.le_of_ble_eq_true rfl) (ls := [some (.ref 188), none, none, none, none]) rfl ?_
  intro p e s m args below meth c D dA b0 ad X hr
  exact pX11_who_b0 X hr  (K := fun z => res = z) (fun x h2 hz => ⟨x, rfl, by rw [hz], by rw [hz]⟩) ⟨res, hf, rfl⟩
set_option maxRecDepth 4000 in
theorem pX11_ask_b100_45 (X : wCx p s m args meth c RX11 cX11_ask 8 D dA b0 ad) (hr : meth.sig.returnType = (some .int)) {h : wSt} {v1 : Int32} {v2 : Int32} {v3 : Int32} {v4 : Int32} {v5 : Int32} {v7 : Int32} {w0 : Int32} {w1 : Int32} {K : (Int32 × Int32 × wSt) ⊕ ((Int32 × wSt)) → Prop} (hN : ∀ (n6 : Int32) (n7 : Int32) (nh : wSt), K (.inl (n6, n7, nh)) → wM p l e (wR 6) s m args below meth c 0 0 (wE below args s D dA b0 ad S0 F) 8 D dA b0 ad S0 45 [some (.ref 188), some (.int v1), some (.int v2), some (.int v3), some (.int v4), some (.int v5), some (.int n6), some (.int n7)] [] nh) (hX0 : ∀ (n6 : Int32) (nh : wSt), K (.inr (n6, nh)) → wM p l e (wR 6) s m args below meth c 0 0 (wE below args s D dA b0 ad S0 F) 8 D dA b0 ad S0 109 [some (.ref 188), some (.int v1), some (.int v2), some (.int v3), some (.int v4), some (.int v5), some (.int n6), none] [] nh) (hf : wok (fX11_ask_b100_45 h v1 v2 v3 v4 v5 v7 w0 w1) K) : wM p l e (wR 6) s m args below meth c 0 0 (wE below args s D dA b0 ad S0 F) 8 D dA b0 ad S0 100 [some (.ref 188), some (.int v1), some (.int v2), some (.int v3), some (.int v4), some (.int v5), none, some (.int v7)] [.int w1, .int w0] h := by
  unfold fX11_ask_b100_45 at hf
  refine w_iadd X dX11_ask_100 rfl ?_
  refine w_istore X dX11_ask_101 rfl rfl (Nat.le_of_ble_eq_true rfl) (ls' := [some (.ref 188), some (.int v1), some (.int v2), some (.int v3), some (.int v4), some (.int v5), some (.int (w0 + w1)), some (.int v7)]) rfl ?_
  refine w_iinc X dX11_ask_103 rfl (v := (v7 + 1)) rfl rfl (Nat.le_of_ble_eq_true rfl) (cinc_1 _) (ls' := [some (.ref 188), some (.int v1), some (.int v2), some (.int v3), some (.int v4), some (.int v5), some (.int (w0 + w1)), some (.int (v7 + 1))]) rfl ?_
  refine w_goto X dX11_ask_106 (t := 45) rfl ?_
  exact hN _ _ _ (wok_s hf)
set_option maxRecDepth 4000 in
theorem pX11_ask_b99_45 (X : wCx p s m args meth c RX11 cX11_ask 8 D dA b0 ad) (hr : meth.sig.returnType = (some .int)) {h : wSt} {v1 : Int32} {v2 : Int32} {v3 : Int32} {v4 : Int32} {v5 : Int32} {v7 : Int32} {w0 : Int32} {K : (Int32 × Int32 × wSt) ⊕ ((Int32 × wSt)) → Prop} (hN : ∀ (n6 : Int32) (n7 : Int32) (nh : wSt), K (.inl (n6, n7, nh)) → wM p l e (wR 6) s m args below meth c 0 0 (wE below args s D dA b0 ad S0 F) 8 D dA b0 ad S0 45 [some (.ref 188), some (.int v1), some (.int v2), some (.int v3), some (.int v4), some (.int v5), some (.int n6), some (.int n7)] [] nh) (hX0 : ∀ (n6 : Int32) (nh : wSt), K (.inr (n6, nh)) → wM p l e (wR 6) s m args below meth c 0 0 (wE below args s D dA b0 ad S0 F) 8 D dA b0 ad S0 109 [some (.ref 188), some (.int v1), some (.int v2), some (.int v3), some (.int v4), some (.int v5), some (.int n6), none] [] nh) (hf : wok (fX11_ask_b99_45 h v1 v2 v3 v4 v5 v7 w0) K) : wM p l e (wR 6) s m args below meth c 0 0 (wE below args s D dA b0 ad S0 F) 8 D dA b0 ad S0 99 [some (.ref 188), some (.int v1), some (.int v2), some (.int v3), some (.int v4), some (.int v5), none, some (.int v7)] [.int w0] h := by
  unfold fX11_ask_b99_45 at hf
  refine w_iconst X dX11_ask_99 rfl ci_0 ?_
  exact pX11_ask_b100_45 X hr  hN hX0 hf
set_option maxRecDepth 4000 in
theorem pX11_ask_l45b (X : wCx p s m args meth c RX11 cX11_ask 8 D dA b0 ad) (hr : meth.sig.returnType = (some .int)) {h : wSt} {v1 : Int32} {v2 : Int32} {v3 : Int32} {v4 : Int32} {v5 : Int32} {v6 : Int32} {v7 : Int32} {K : (Int32 × Int32 × wSt) ⊕ ((Int32 × wSt)) → Prop} (hN : ∀ (n6 : Int32) (n7 : Int32) (nh : wSt), K (.inl (n6, n7, nh)) → wM p l e (wR 6) s m args below meth c 0 0 (wE below args s D dA b0 ad S0 F) 8 D dA b0 ad S0 45 [some (.ref 188), some (.int v1), some (.int v2), some (.int v3), some (.int v4), some (.int v5), some (.int n6), some (.int n7)] [] nh) (hX0 : ∀ (n6 : Int32) (nh : wSt), K (.inr (n6, nh)) → wM p l e (wR 6) s m args below meth c 0 0 (wE below args s D dA b0 ad S0 F) 8 D dA b0 ad S0 109 [some (.ref 188), some (.int v1), some (.int v2), some (.int v3), some (.int v4), some (.int v5), some (.int n6), none] [] nh) (hf : wok (fX11_ask_l45 h v1 v2 v3 v4 v5 v6 v7) K) : wM p l e (wR 6) s m args below meth c 0 0 (wE below args s D dA b0 ad S0 F) 8 D dA b0 ad S0 45 [some (.ref 188), some (.int v1), some (.int v2), some (.int v3), some (.int v4), some (.int v5), some (.int v6), some (.int v7)] [] h := by
  unfold fX11_ask_l45 at hf
  refine w_iload X dX11_ask_45 rfl rfl ?_
  refine w_aload_n X dX11_ask_47 rfl rfl rfl ?_
  refine w_getR X dX11_ask_48 rfl fl_X11_13 S0_188 rfl ?_
  refine w_iconst X dX11_ask_51 rfl ci_1 ?_
  refine w_iald X dX11_ask_52 rfl (j := 1) cn_1 S0_190 (show wib 1 6 by decide) ?_
  refine w_icmp_ge X dX11_ask_53 rfl (t := 109) rfl (fun hc => ?_) (fun hc => ?_)
  · have hf := wok_t hf hc
    refine w_fg (ls2 := [some (.ref 188), some (.int v1), some (.int v2), some (.int v3), some (.int v4), some (.int v5), some (.int v6), none]) ⟨rfl, rfl, rfl, rfl, rfl, rfl, rfl, trivial⟩ ?_
    exact hX0 _ _ (wok_s hf)
  · have hf := wok_f hf hc
    refine w_iload X dX11_ask_56 rfl rfl ?_
    refine w_iload_n X dX11_ask_58 rfl rfl rfl ?_
    refine w_iload X dX11_ask_59 rfl rfl ?_
    refine w_ishr X dX11_ask_61 rfl ?_
    refine w_iconst X dX11_ask_62 rfl ci_1 ?_
    refine w_iand X dX11_ask_63 rfl ?_
    refine w_iconst X dX11_ask_64 rfl ci_1 ?_
    refine w_icmp_ne X dX11_ask_65 rfl (t := 99) rfl (fun hc => ?_) (fun hc => ?_)
    · have hf := wok_f hf hc
      refine w_fg (ls2 := [some (.ref 188), some (.int v1), some (.int v2), some (.int v3), some (.int v4), some (.int v5), none, some (.int v7)]) ⟨rfl, rfl, rfl, rfl, rfl, rfl, rfl, trivial⟩ ?_
      exact pX11_ask_b99_45 X hr  hN hX0 hf
    · have hf := wok_t hf hc
      refine w_aload_n X dX11_ask_68 rfl rfl rfl ?_
      refine w_iload X dX11_ask_69 rfl rfl ?_
      refine w_iload X dX11_ask_71 rfl rfl ?_
      refine w_bipush X dX11_ask_73 rfl cb_10 ?_
      refine w_idiv X dX11_ask_75 rfl (by decide) ?_
      refine w_aload_n X dX11_ask_76 rfl rfl rfl ?_
      refine w_getR X dX11_ask_77 rfl fl_X11_120 S0_188 rfl ?_
      refine w_iconst X dX11_ask_80 rfl ci_1 ?_
      refine w_iload_n X dX11_ask_81 rfl rfl rfl ?_
      refine w_iadd X dX11_ask_82 rfl ?_
      obtain ⟨yhg25, hf⟩ := wok_g hf
      refine w_iald X dX11_ask_83 rfl (j := (1 + v1).toNatClampNeg) rfl S0_225 yhg25 ?_
      refine w_iload X dX11_ask_84 rfl rfl ?_
      refine w_bipush X dX11_ask_86 rfl cb_10 ?_
      refine w_irem X dX11_ask_88 rfl (by decide) ?_
      obtain ⟨yr26, eyr26, hf⟩ := wok_b hf
      refine w_callV X dX11_ask_89 rfl vl_X11_359 (kX11_showsBy l  eyr26) S0_188 (As := [.int v7, .int (v5 / 10), .int (h.1 225 (1 + v1).toNatClampNeg), .int (v5 - v5 / 10 * 10)]) (st := [.int v6]) rfl rfl (Nat.le_of_ble_eq_true rfl) ⟨Nat.le_of_ble_eq_true rfl, Nat.le_of_ble_eq_true rfl⟩ ⟨Nat.zero_le _, Nat.zero_le _⟩ (fun r h2 hF => ?_)
      obtain ⟨_, rfl, rfl, rfl⟩ := hF
      show wM p l e (wR 6) s m args below meth c 0 0 (wE below args s D dA b0 ad S0 F) 8 D dA b0 ad S0 92 [some (.ref 188), some (.int v1), some (.int v2), some (.int v3), some (.int v4), some (.int v5), some (.int v6), some (.int v7)] [.int (wb yr26.1), .int v6] yr26.2
      refine w_if_eq X dX11_ask_92 rfl (t := 99) rfl (fun hc => ?_) (fun hc => ?_)
      · have hf := wok_f hf (wb_0 hc)
        refine w_fg (ls2 := [some (.ref 188), some (.int v1), some (.int v2), some (.int v3), some (.int v4), some (.int v5), none, some (.int v7)]) ⟨rfl, rfl, rfl, rfl, rfl, rfl, rfl, trivial⟩ ?_
        exact pX11_ask_b99_45 X hr  hN hX0 hf
      · have hf := wok_t hf (wb_n0 hc)
        refine w_iconst X dX11_ask_95 rfl ci_1 ?_
        refine w_goto X dX11_ask_96 (t := 100) rfl ?_
        refine w_fg (ls2 := [some (.ref 188), some (.int v1), some (.int v2), some (.int v3), some (.int v4), some (.int v5), none, some (.int v7)]) ⟨rfl, rfl, rfl, rfl, rfl, rfl, rfl, trivial⟩ ?_
        exact pX11_ask_b100_45 X hr  hN hX0 hf
set_option maxRecDepth 4000 in
theorem pX11_ask_l45 (X : wCx p s m args meth c RX11 cX11_ask 8 D dA b0 ad) (hr : meth.sig.returnType = (some .int))  {v1 : Int32} {v2 : Int32} {v3 : Int32} {v4 : Int32} {v5 : Int32} {KE : (Int32 × wSt) → Prop} (hX0 : ∀ (n6 : Int32) (nh : wSt), KE ((n6, nh)) → wM p l e (wR 6) s m args below meth c 0 0 (wE below args s D dA b0 ad S0 F) 8 D dA b0 ad S0 109 [some (.ref 188), some (.int v1), some (.int v2), some (.int v3), some (.int v4), some (.int v5), some (.int n6), none] [] nh) : ∀ (n : Nat) (v6 : Int32) (v7 : Int32) (h : wSt), wok (wit (fun v : (Int32 × Int32 × wSt) => fX11_ask_l45 v.2.2 v1 v2 v3 v4 v5 v.1 v.2.1) n (v6, v7, h)) KE → wM p l e (wR 6) s m args below meth c 0 0 (wE below args s D dA b0 ad S0 F) 8 D dA b0 ad S0 45 [some (.ref 188), some (.int v1), some (.int v2), some (.int v3), some (.int v4), some (.int v5), some (.int v6), some (.int v7)] [] h := by
  have key := wit_M (b := (fun v : (Int32 × Int32 × wSt) => fX11_ask_l45 v.2.2 v1 v2 v3 v4 v5 v.1 v.2.1)) (KE := KE) (G := fun v => wM p l e (wR 6) s m args below meth c 0 0 (wE below args s D dA b0 ad S0 F) 8 D dA b0 ad S0 45 [some (.ref 188), some (.int v1), some (.int v2), some (.int v3), some (.int v4), some (.int v5), some (.int v.1), some (.int v.2.1)] [] v.2.2) (fun v K hN hE hf => pX11_ask_l45b X hr  (fun n6 n7 nh hz => hN (n6, n7, nh) hz) (fun z0 z1 hz => hX0 z0 z1 (hE _ hz)) hf)
  exact fun n v6 v7 h hf => key n (v6, v7, h) hf
set_option maxRecDepth 4000 in
theorem pX11_ask_b139_32 (X : wCx p s m args meth c RX11 cX11_ask 8 D dA b0 ad) (hr : meth.sig.returnType = (some .int)) {h : wSt} {v1 : Int32} {v2 : Int32} {v3 : Int32} {v4 : Int32} {v5 : Int32} {K : (Int32 × Int32 × Int32 × wSt) ⊕ ((Int32 × wSt)) → Prop} (hN : ∀ (n3 : Int32) (n4 : Int32) (n5 : Int32) (nh : wSt), K (.inl (n3, n4, n5, nh)) → wM p l e (wR 6) s m args below meth c 0 0 (wE below args s D dA b0 ad S0 F) 8 D dA b0 ad S0 32 [some (.ref 188), some (.int v1), some (.int v2), some (.int n3), some (.int n4), some (.int n5), none, none] [] nh) (hX0 : ∀ (n4 : Int32) (nh : wSt), K (.inr (n4, nh)) → wM p l e (wR 6) s m args below meth c 0 0 (wE below args s D dA b0 ad S0 F) 8 D dA b0 ad S0 145 [none, none, none, none, some (.int n4), none, none, none] [] nh) (hf : wok (fX11_ask_b139_32 h v1 v2 v3 v4 v5) K) : wM p l e (wR 6) s m args below meth c 0 0 (wE below args s D dA b0 ad S0 F) 8 D dA b0 ad S0 139 [some (.ref 188), some (.int v1), some (.int v2), some (.int v3), some (.int v4), some (.int v5), none, none] [] h := by
  unfold fX11_ask_b139_32 at hf
  refine w_iinc X dX11_ask_139 rfl (v := (v5 + 1)) rfl rfl (Nat.le_of_ble_eq_true rfl) (cinc_1 _) (ls' := [some (.ref 188), some (.int v1), some (.int v2), some (.int v3), some (.int v4), some (.int (v5 + 1)), none, none]) rfl ?_
  refine w_goto X dX11_ask_142 (t := 32) rfl ?_
  exact hN _ _ _ _ (wok_s hf)
set_option maxRecDepth 4000 in
theorem pX11_ask_l32b (X : wCx p s m args meth c RX11 cX11_ask 8 D dA b0 ad) (hr : meth.sig.returnType = (some .int)) {h : wSt} {v1 : Int32} {v2 : Int32} {v3 : Int32} {v4 : Int32} {v5 : Int32} {K : (Int32 × Int32 × Int32 × wSt) ⊕ ((Int32 × wSt)) → Prop} (hN : ∀ (n3 : Int32) (n4 : Int32) (n5 : Int32) (nh : wSt), K (.inl (n3, n4, n5, nh)) → wM p l e (wR 6) s m args below meth c 0 0 (wE below args s D dA b0 ad S0 F) 8 D dA b0 ad S0 32 [some (.ref 188), some (.int v1), some (.int v2), some (.int n3), some (.int n4), some (.int n5), none, none] [] nh) (hX0 : ∀ (n4 : Int32) (nh : wSt), K (.inr (n4, nh)) → wM p l e (wR 6) s m args below meth c 0 0 (wE below args s D dA b0 ad S0 F) 8 D dA b0 ad S0 145 [none, none, none, none, some (.int n4), none, none, none] [] nh) (hf : wok (fX11_ask_l32 h v1 v2 v3 v4 v5) K) : wM p l e (wR 6) s m args below meth c 0 0 (wE below args s D dA b0 ad S0 F) 8 D dA b0 ad S0 32 [some (.ref 188), some (.int v1), some (.int v2), some (.int v3), some (.int v4), some (.int v5), none, none] [] h := by
  unfold fX11_ask_l32 at hf
  refine w_iload X dX11_ask_32 rfl rfl ?_
  refine w_bipush X dX11_ask_34 rfl cb_100 ?_
  refine w_icmp_ge X dX11_ask_36 rfl (t := 145) rfl (fun hc => ?_) (fun hc => ?_)
  · have hf := wok_t hf hc
    refine w_fg (ls2 := [none, none, none, none, some (.int v4), none, none, none]) ⟨rfl, trivial⟩ ?_
    exact hX0 _ _ (wok_s hf)
  · have hf := wok_f hf hc
    refine w_iconst X dX11_ask_39 rfl ci_0 ?_
    refine w_istore X dX11_ask_40 rfl rfl (Nat.le_of_ble_eq_true rfl) (ls' := [some (.ref 188), some (.int v1), some (.int v2), some (.int v3), some (.int v4), some (.int v5), some (.int 0), none]) rfl ?_
    refine w_iconst X dX11_ask_42 rfl ci_0 ?_
    refine w_istore X dX11_ask_43 rfl rfl (Nat.le_of_ble_eq_true rfl) (ls' := [some (.ref 188), some (.int v1), some (.int v2), some (.int v3), some (.int v4), some (.int v5), some (.int 0), some (.int 0)]) rfl ?_
    obtain ⟨ye27, hye27, hf⟩ := wok_b hf
    refine pX11_ask_l45 X hr  (KE := fun z => ye27 = z) ?_ 3000 _ _ _ ⟨ye27, hye27, rfl⟩
    · intro yz28 yz29 hz
      subst hz
      refine w_iload X dX11_ask_109 rfl rfl ?_
      refine w_iload_n X dX11_ask_111 rfl rfl rfl ?_
      obtain ⟨yr30, eyr30, hf⟩ := wok_b hf
      refine w_callS X dX11_ask_112 rfl sl_X11_384 (kX11_bits l  eyr30) (As := [.int v2]) (st := [.int yz28]) rfl rfl (Nat.le_of_ble_eq_true rfl) ⟨Nat.le_of_ble_eq_true rfl, Nat.le_of_ble_eq_true rfl⟩ ⟨Nat.zero_le _, Nat.zero_le _⟩ (fun r h2 hF => ?_)
      obtain ⟨_, rfl, rfl, rfl⟩ := hF
      show wM p l e (wR 6) s m args below meth c 0 0 (wE below args s D dA b0 ad S0 F) 8 D dA b0 ad S0 115 [some (.ref 188), some (.int v1), some (.int v2), some (.int v3), some (.int v4), some (.int v5), some (.int yz28), none] [.int yr30, .int yz28] yz29
      refine w_iload X dX11_ask_115 rfl rfl ?_
      refine w_isub X dX11_ask_117 rfl ?_
      refine w_mmax X dX11_ask_118 rfl wd_1748 wd_422 wd_15 wd_423 (Nat.le_of_ble_eq_true rfl) (Nat.le_of_ble_eq_true rfl) (Nat.zero_le _) (Nat.zero_le _) ?_
      refine w_istore X dX11_ask_121 rfl rfl (Nat.le_of_ble_eq_true rfl) (ls' := [some (.ref 188), some (.int v1), some (.int v2), some (.int v3), some (.int v4), some (.int v5), some (.int (wmx yz28 (yr30 - yz28))), none]) rfl ?_
      refine w_iload X dX11_ask_123 rfl rfl ?_
      refine w_iload_n X dX11_ask_125 rfl rfl rfl ?_
      refine w_icmp_lt X dX11_ask_126 rfl (t := 132) rfl (fun hc => ?_) (fun hc => ?_)
      · have hf := wok_t hf hc
        refine w_iload X dX11_ask_132 rfl rfl ?_
        refine w_istore_n X dX11_ask_134 rfl rfl rfl (Nat.le_of_ble_eq_true rfl) (ls' := [some (.ref 188), some (.int v1), some (.int v2), some (.int (wmx yz28 (yr30 - yz28))), some (.int v4), some (.int v5), some (.int (wmx yz28 (yr30 - yz28))), none]) rfl ?_
        refine w_iload X dX11_ask_135 rfl rfl ?_
        refine w_istore X dX11_ask_137 rfl rfl (Nat.le_of_ble_eq_true rfl) (ls' := [some (.ref 188), some (.int v1), some (.int v2), some (.int (wmx yz28 (yr30 - yz28))), some (.int v5), some (.int v5), some (.int (wmx yz28 (yr30 - yz28))), none]) rfl ?_
        refine w_fg (ls2 := [some (.ref 188), some (.int v1), some (.int v2), some (.int (wmx yz28 (yr30 - yz28))), some (.int v5), some (.int v5), none, none]) ⟨rfl, rfl, rfl, rfl, rfl, rfl, trivial⟩ ?_
        exact pX11_ask_b139_32 X hr  hN hX0 hf
      · have hf := wok_f hf hc
        refine w_goto X dX11_ask_129 (t := 139) rfl ?_
        refine w_fg (ls2 := [some (.ref 188), some (.int v1), some (.int v2), some (.int v3), some (.int v4), some (.int v5), none, none]) ⟨rfl, rfl, rfl, rfl, rfl, rfl, trivial⟩ ?_
        exact pX11_ask_b139_32 X hr  hN hX0 hf
set_option maxRecDepth 4000 in
theorem pX11_ask_l32 (X : wCx p s m args meth c RX11 cX11_ask 8 D dA b0 ad) (hr : meth.sig.returnType = (some .int))  {v1 : Int32} {v2 : Int32} {KE : (Int32 × wSt) → Prop} (hX0 : ∀ (n4 : Int32) (nh : wSt), KE ((n4, nh)) → wM p l e (wR 6) s m args below meth c 0 0 (wE below args s D dA b0 ad S0 F) 8 D dA b0 ad S0 145 [none, none, none, none, some (.int n4), none, none, none] [] nh) : ∀ (n : Nat) (v3 : Int32) (v4 : Int32) (v5 : Int32) (h : wSt), wok (wit (fun v : (Int32 × Int32 × Int32 × wSt) => fX11_ask_l32 v.2.2.2 v1 v2 v.1 v.2.1 v.2.2.1) n (v3, v4, v5, h)) KE → wM p l e (wR 6) s m args below meth c 0 0 (wE below args s D dA b0 ad S0 F) 8 D dA b0 ad S0 32 [some (.ref 188), some (.int v1), some (.int v2), some (.int v3), some (.int v4), some (.int v5), none, none] [] h := by
  have key := wit_M (b := (fun v : (Int32 × Int32 × Int32 × wSt) => fX11_ask_l32 v.2.2.2 v1 v2 v.1 v.2.1 v.2.2.1)) (KE := KE) (G := fun v => wM p l e (wR 6) s m args below meth c 0 0 (wE below args s D dA b0 ad S0 F) 8 D dA b0 ad S0 32 [some (.ref 188), some (.int v1), some (.int v2), some (.int v.1), some (.int v.2.1), some (.int v.2.2.1), none, none] [] v.2.2.2) (fun v K hN hE hf => pX11_ask_l32b X hr  (fun n3 n4 n5 nh hz => hN (n3, n4, n5, nh) hz) (fun z0 z1 hz => hX0 z0 z1 (hE _ hz)) hf)
  exact fun n v3 v4 v5 h hf => key n (v3, v4, v5, h) hf
set_option maxRecDepth 4000 in
theorem pX11_ask_b0 (X : wCx p s m args meth c RX11 cX11_ask 8 D dA b0 ad) (hr : meth.sig.returnType = (some .int)) {h : wSt} {x0 : Int32} {K : Int32 × wSt → Prop} (hT : ∀ (x : Int32) (h2 : wSt), K (x, h2) → F (some (.int x)) h2) (hf : wok (fX11_ask h x0) K) : wM p l e (wR 6) s m args below meth c 0 0 (wE below args s D dA b0 ad S0 F) 8 D dA b0 ad S0 0 [some (.ref 188), some (.int x0), none, none, none, none, none, none] [] h := by
  unfold fX11_ask at hf
  refine w_aload_n X dX11_ask_0 rfl rfl rfl ?_
  refine w_iconst X dX11_ask_1 rfl ci_0 ?_
  refine w_putI X dX11_ask_2 rfl fp_X11_144 S0_188 rfl ?_
  refine w_nmh (fun yh21 eyh21 => ?_)
  have hf := wok_l hf eyh21
  refine w_aload_n X dX11_ask_5 rfl rfl rfl ?_
  refine w_iload_n X dX11_ask_6 rfl rfl rfl ?_
  obtain ⟨yr22, eyr22, hf⟩ := wok_b hf
  refine w_callV X dX11_ask_7 rfl vl_X11_353 (kX11_isSkin l  eyr22) S0_188 (As := [.int x0]) (st := []) rfl rfl (Nat.le_of_ble_eq_true rfl) ⟨Nat.le_of_ble_eq_true rfl, Nat.le_of_ble_eq_true rfl⟩ ⟨Nat.zero_le _, Nat.zero_le _⟩ (fun r h2 hF => ?_)
  obtain ⟨_, rfl, rfl, rfl⟩ := hF
  show wM p l e (wR 6) s m args below meth c 0 0 (wE below args s D dA b0 ad S0 F) 8 D dA b0 ad S0 10 [some (.ref 188), some (.int x0), none, none, none, none, none, none] [.int (wb yr22)] yh21
  refine w_if_ne X dX11_ask_10 rfl (t := 15) rfl (fun hc => ?_) (fun hc => ?_)
  · have hf := wok_t hf (wb_n0 hc)
    refine w_aload_n X dX11_ask_15 rfl rfl rfl ?_
    obtain ⟨yr23, eyr23, hf⟩ := wok_b hf
    refine w_callV X dX11_ask_16 rfl vl_X11_448 (kX11_who l  eyr23) S0_188 (As := []) (st := []) rfl rfl (Nat.le_of_ble_eq_true rfl) ⟨Nat.le_of_ble_eq_true rfl, Nat.le_of_ble_eq_true rfl⟩ ⟨Nat.zero_le _, Nat.zero_le _⟩ (fun r h2 hF => ?_)
    obtain ⟨_, rfl, rfl, rfl⟩ := hF
    show wM p l e (wR 6) s m args below meth c 0 0 (wE below args s D dA b0 ad S0 F) 8 D dA b0 ad S0 19 [some (.ref 188), some (.int x0), none, none, none, none, none, none] [.int yr23.1] yr23.2
    refine w_istore_n X dX11_ask_19 rfl rfl rfl (Nat.le_of_ble_eq_true rfl) (ls' := [some (.ref 188), some (.int x0), some (.int yr23.1), none, none, none, none, none]) rfl ?_
    refine w_iload_n X dX11_ask_20 rfl rfl rfl ?_
    obtain ⟨yr24, eyr24, hf⟩ := wok_b hf
    refine w_callS X dX11_ask_21 rfl sl_X11_384 (kX11_bits l  eyr24) (As := [.int yr23.1]) (st := []) rfl rfl (Nat.le_of_ble_eq_true rfl) ⟨Nat.le_of_ble_eq_true rfl, Nat.le_of_ble_eq_true rfl⟩ ⟨Nat.zero_le _, Nat.zero_le _⟩ (fun r h2 hF => ?_)
    obtain ⟨_, rfl, rfl, rfl⟩ := hF
    show wM p l e (wR 6) s m args below meth c 0 0 (wE below args s D dA b0 ad S0 F) 8 D dA b0 ad S0 24 [some (.ref 188), some (.int x0), some (.int yr23.1), none, none, none, none, none] [.int yr24] yr23.2
    refine w_istore_n X dX11_ask_24 rfl rfl rfl (Nat.le_of_ble_eq_true rfl) (ls' := [some (.ref 188), some (.int x0), some (.int yr23.1), some (.int yr24), none, none, none, none]) rfl ?_
    refine w_iconst X dX11_ask_25 rfl ci_m1 ?_
    refine w_istore X dX11_ask_26 rfl rfl (Nat.le_of_ble_eq_true rfl) (ls' := [some (.ref 188), some (.int x0), some (.int yr23.1), some (.int yr24), some (.int (-1)), none, none, none]) rfl ?_
    refine w_bipush X dX11_ask_28 rfl cb_10 ?_
    refine w_istore X dX11_ask_30 rfl rfl (Nat.le_of_ble_eq_true rfl) (ls' := [some (.ref 188), some (.int x0), some (.int yr23.1), some (.int yr24), some (.int (-1)), some (.int 10), none, none]) rfl ?_
    obtain ⟨ye31, hye31, hf⟩ := wok_b hf
    refine pX11_ask_l32 X hr  (KE := fun z => ye31 = z) ?_ 3000 _ _ _ _ ⟨ye31, hye31, rfl⟩
    · intro yz32 yz33 hz
      subst hz
      refine w_iload X dX11_ask_145 rfl rfl ?_
      exact w_iret X dX11_ask_147 hr (hT _ _ (wok_s hf))
  · have hf := wok_f hf (wb_0 hc)
    refine w_iconst X dX11_ask_13 rfl ci_m1 ?_
    exact w_iret X dX11_ask_14 hr (hT _ _ (wok_s hf))
set_option maxRecDepth 4000 in
theorem kX11_ask (l : Launch) {h : wSt} {x0 : Int32} {res : Int32 × wSt} (hf : fX11_ask h x0 = some res) : wC l yX11_ask cX11_ask 8 (some .int) 6 S0 [.ref 188, .int x0] h (wFI (fun a b => res.1 = a ∧ res.2 = b)) := by
  refine w_meth2 6 (by decide) (Nat.le_of_ble_eq_true rfl) (ls := [some (.ref 188), some (.int x0), none, none, none, none, none, none]) rfl ?_
  intro p e s m args below meth c D dA b0 ad X hr
  exact pX11_ask_b0 X hr  (K := fun z => res = z) (fun x h2 hz => ⟨x, rfl, by rw [hz], by rw [hz]⟩) ⟨res, hf, rfl⟩
set_option maxRecDepth 4000 in
theorem pX11_chance_l88b (X : wCx p s m args meth c RX11 cX11_chance 11 D dA b0 ad) (hr : meth.sig.returnType = (some .int)) {h : wSt} {v2 : Int32} {v4 : Int64} {v6 : Int64} {v8 : Int64} {v10 : Int32} {K : (Int64 × Int64 × Int32) ⊕ ((Int64 × Int64)) → Prop} (hN : ∀ (n6 : Int64) (n8 : Int64) (n10 : Int32), K (.inl (n6, n8, n10)) → wM p l e (wR 7) s m args below meth c 0 0 (wE below args s D dA b0 ad S0 F) 11 D dA b0 ad S0 88 [none, none, some (.int v2), none, some (.long v4), none, some (.long n6), none, some (.long n8), none, some (.int n10)] [] h) (hX0 : ∀ (n6 : Int64) (n8 : Int64), K (.inr (n6, n8)) → wM p l e (wR 7) s m args below meth c 0 0 (wE below args s D dA b0 ad S0 F) 11 D dA b0 ad S0 115 [none, none, none, none, none, none, some (.long n6), none, some (.long n8), none, none] [] h) (hf : wok (fX11_chance_l88 h v2 v4 v6 v8 v10) K) : wM p l e (wR 7) s m args below meth c 0 0 (wE below args s D dA b0 ad S0 F) 11 D dA b0 ad S0 88 [none, none, some (.int v2), none, some (.long v4), none, some (.long v6), none, some (.long v8), none, some (.int v10)] [] h := by
  unfold fX11_chance_l88 at hf
  refine w_iload X dX11_chance_88 rfl rfl ?_
  refine w_iload_n X dX11_chance_90 rfl rfl rfl ?_
  refine w_icmp_ge X dX11_chance_91 rfl (t := 115) rfl (fun hc => ?_) (fun hc => ?_)
  · have hf := wok_t hf hc
    refine w_fg (ls2 := [none, none, none, none, none, none, some (.long v6), none, some (.long v8), none, none]) ⟨rfl, rfl, trivial⟩ ?_
    exact hX0 _ _ (wok_s hf)
  · have hf := wok_f hf hc
    refine w_lload X dX11_chance_94 rfl rfl ?_
    refine w_lload X dX11_chance_96 rfl rfl ?_
    refine w_lmul X dX11_chance_98 rfl ?_
    refine w_lstore X dX11_chance_99 rfl rfl (Nat.le_of_ble_eq_true rfl) (ls' := [none, none, some (.int v2), none, some (.long v4), none, some (.long (v6 * v4)), none, some (.long v8), none, some (.int v10)]) rfl ?_
    refine w_lload X dX11_chance_101 rfl rfl ?_
    refine w_ldc2 X dX11_chance_103 rfl wd_1753 ?_
    refine w_lmul X dX11_chance_106 rfl ?_
    refine w_lstore X dX11_chance_107 rfl rfl (Nat.le_of_ble_eq_true rfl) (ls' := [none, none, some (.int v2), none, some (.long v4), none, some (.long (v6 * v4)), none, some (.long (v8 * 10)), none, some (.int v10)]) rfl ?_
    refine w_iinc X dX11_chance_109 rfl (v := (v10 + 1)) rfl rfl (Nat.le_of_ble_eq_true rfl) (cinc_1 _) (ls' := [none, none, some (.int v2), none, some (.long v4), none, some (.long (v6 * v4)), none, some (.long (v8 * 10)), none, some (.int (v10 + 1))]) rfl ?_
    refine w_goto X dX11_chance_112 (t := 88) rfl ?_
    exact hN _ _ _ (wok_s hf)
set_option maxRecDepth 4000 in
theorem pX11_chance_l88 (X : wCx p s m args meth c RX11 cX11_chance 11 D dA b0 ad) (hr : meth.sig.returnType = (some .int)) {h : wSt} {v2 : Int32} {v4 : Int64} {KE : (Int64 × Int64) → Prop} (hX0 : ∀ (n6 : Int64) (n8 : Int64), KE ((n6, n8)) → wM p l e (wR 7) s m args below meth c 0 0 (wE below args s D dA b0 ad S0 F) 11 D dA b0 ad S0 115 [none, none, none, none, none, none, some (.long n6), none, some (.long n8), none, none] [] h) : ∀ (n : Nat) (v6 : Int64) (v8 : Int64) (v10 : Int32), wok (wit (fun v : (Int64 × Int64 × Int32) => fX11_chance_l88 h v2 v4 v.1 v.2.1 v.2.2) n (v6, v8, v10)) KE → wM p l e (wR 7) s m args below meth c 0 0 (wE below args s D dA b0 ad S0 F) 11 D dA b0 ad S0 88 [none, none, some (.int v2), none, some (.long v4), none, some (.long v6), none, some (.long v8), none, some (.int v10)] [] h := by
  have key := wit_M (b := (fun v : (Int64 × Int64 × Int32) => fX11_chance_l88 h v2 v4 v.1 v.2.1 v.2.2)) (KE := KE) (G := fun v => wM p l e (wR 7) s m args below meth c 0 0 (wE below args s D dA b0 ad S0 F) 11 D dA b0 ad S0 88 [none, none, some (.int v2), none, some (.long v4), none, some (.long v.1), none, some (.long v.2.1), none, some (.int v.2.2)] [] h) (fun v K hN hE hf => pX11_chance_l88b X hr  (fun n6 n8 n10 hz => hN (n6, n8, n10) hz) (fun z0 z1 hz => hX0 z0 z1 (hE _ hz)) hf)
  exact fun n v6 v8 v10 hf => key n (v6, v8, v10) hf
set_option maxRecDepth 4000 in
theorem pX11_chance_b75 (X : wCx p s m args meth c RX11 cX11_chance 11 D dA b0 ad) (hr : meth.sig.returnType = (some .int)) {h : wSt} {v2 : Int32} {w0 : Int32} {w1 : Int32} {K : Int32 × wSt → Prop} (hT : ∀ (x : Int32) (h2 : wSt), K (x, h2) → F (some (.int x)) h2)  (hf : wok (fX11_chance_b75 h v2 w0 w1) K) : wM p l e (wR 7) s m args below meth c 0 0 (wE below args s D dA b0 ad S0 F) 11 D dA b0 ad S0 75 [none, none, some (.int v2), none, none, none, none, none, none, none, none] [.int w1, .int w0] h := by
  unfold fX11_chance_b75 at hf
  refine w_iadd X dX11_chance_75 rfl ?_
  refine w_i2l X dX11_chance_76 rfl ?_
  refine w_lstore X dX11_chance_77 rfl rfl (Nat.le_of_ble_eq_true rfl) (ls' := [none, none, some (.int v2), none, some (.long ((w0 + w1).toInt64)), none, none, none, none, none, none]) rfl ?_
  refine w_lconst X dX11_chance_79 rfl rfl ?_
  refine w_lstore X dX11_chance_80 rfl rfl (Nat.le_of_ble_eq_true rfl) (ls' := [none, none, some (.int v2), none, some (.long ((w0 + w1).toInt64)), none, some (.long 1), none, none, none, none]) rfl ?_
  refine w_lconst X dX11_chance_82 rfl rfl ?_
  refine w_lstore X dX11_chance_83 rfl rfl (Nat.le_of_ble_eq_true rfl) (ls' := [none, none, some (.int v2), none, some (.long ((w0 + w1).toInt64)), none, some (.long 1), none, some (.long 1), none, none]) rfl ?_
  refine w_iconst X dX11_chance_85 rfl ci_0 ?_
  refine w_istore X dX11_chance_86 rfl rfl (Nat.le_of_ble_eq_true rfl) (ls' := [none, none, some (.int v2), none, some (.long ((w0 + w1).toInt64)), none, some (.long 1), none, some (.long 1), none, some (.int 0)]) rfl ?_
  obtain ⟨ye27, hye27, hf⟩ := wok_b hf
  refine pX11_chance_l88 X hr  (KE := fun z => ye27 = z) ?_ 3000 _ _ _ ⟨ye27, hye27, rfl⟩
  · intro yz28 yz29 hz
    subst hz
    refine w_lload X dX11_chance_115 rfl rfl ?_
    refine w_lload X dX11_chance_117 rfl rfl ?_
    refine w_lsub X dX11_chance_119 rfl ?_
    refine w_ldc2 X dX11_chance_120 rfl wd_1754 ?_
    refine w_lmul X dX11_chance_123 rfl ?_
    refine w_lload X dX11_chance_124 rfl rfl ?_
    obtain ⟨yhg30, hf⟩ := wok_g hf
    refine w_ldiv X dX11_chance_126 rfl yhg30 ?_
    refine w_l2i X dX11_chance_127 rfl ?_
    exact w_iret X dX11_chance_128 hr (hT _ _ (wok_s hf))
set_option maxRecDepth 4000 in
theorem pX11_chance_b54 (X : wCx p s m args meth c RX11 cX11_chance 11 D dA b0 ad) (hr : meth.sig.returnType = (some .int)) {h : wSt} {v1 : Int32} {v2 : Int32} {v3 : Int32} {w0 : Int32} {K : Int32 × wSt → Prop} (hT : ∀ (x : Int32) (h2 : wSt), K (x, h2) → F (some (.int x)) h2)  (hf : wok (fX11_chance_b54 h v1 v2 v3 w0) K) : wM p l e (wR 7) s m args below meth c 0 0 (wE below args s D dA b0 ad S0 F) 11 D dA b0 ad S0 54 [some (.ref 188), some (.int v1), some (.int v2), some (.int v3), none, none, none, none, none, none, none] [.int w0] h := by
  unfold fX11_chance_b54 at hf
  refine w_aload_n X dX11_chance_54 rfl rfl rfl ?_
  refine w_iconst X dX11_chance_55 rfl ci_0 ?_
  obtain ⟨yr26, eyr26, hf⟩ := wok_b hf
  refine w_callV X dX11_chance_56 rfl vl_X11_370 (kX11_wholeBy l  eyr26) S0_188 (As := [.int 0]) (st := [.int w0]) rfl rfl (Nat.le_of_ble_eq_true rfl) ⟨Nat.le_of_ble_eq_true rfl, Nat.le_of_ble_eq_true rfl⟩ ⟨Nat.zero_le _, Nat.zero_le _⟩ (fun r h2 hF => ?_)
  obtain ⟨_, rfl, rfl, rfl⟩ := hF
  show wM p l e (wR 7) s m args below meth c 0 0 (wE below args s D dA b0 ad S0 F) 11 D dA b0 ad S0 59 [some (.ref 188), some (.int v1), some (.int v2), some (.int v3), none, none, none, none, none, none, none] [.int yr26.1, .int w0] yr26.2
  refine w_iload_n X dX11_chance_59 rfl rfl rfl ?_
  refine w_ishr X dX11_chance_60 rfl ?_
  refine w_iconst X dX11_chance_61 rfl ci_1 ?_
  refine w_iand X dX11_chance_62 rfl ?_
  refine w_iconst X dX11_chance_63 rfl ci_1 ?_
  refine w_icmp_ne X dX11_chance_64 rfl (t := 71) rfl (fun hc => ?_) (fun hc => ?_)
  · have hf := wok_f hf hc
    refine w_bipush X dX11_chance_71 rfl cb_10 ?_
    refine w_iload_n X dX11_chance_73 rfl rfl rfl ?_
    refine w_isub X dX11_chance_74 rfl ?_
    refine w_fg (ls2 := [none, none, some (.int v2), none, none, none, none, none, none, none, none]) ⟨rfl, trivial⟩ ?_
    exact pX11_chance_b75 X hr  hT hf
  · have hf := wok_t hf hc
    refine w_iconst X dX11_chance_67 rfl ci_0 ?_
    refine w_goto X dX11_chance_68 (t := 75) rfl ?_
    refine w_fg (ls2 := [none, none, some (.int v2), none, none, none, none, none, none, none, none]) ⟨rfl, trivial⟩ ?_
    exact pX11_chance_b75 X hr  hT hf
set_option maxRecDepth 4000 in
theorem pX11_chance_b0 (X : wCx p s m args meth c RX11 cX11_chance 11 D dA b0 ad) (hr : meth.sig.returnType = (some .int)) {h : wSt} {x0 : Int32} {x1 : Int32} {x2 : Int32} {K : Int32 × wSt → Prop} (hT : ∀ (x : Int32) (h2 : wSt), K (x, h2) → F (some (.int x)) h2) (hf : wok (fX11_chance h x0 x1 x2) K) : wM p l e (wR 7) s m args below meth c 0 0 (wE below args s D dA b0 ad S0 F) 11 D dA b0 ad S0 0 [some (.ref 188), some (.int x0), some (.int x1), some (.int x2), none, none, none, none, none, none, none] [] h := by
  unfold fX11_chance at hf
  refine w_aload_n X dX11_chance_0 rfl rfl rfl ?_
  refine w_iconst X dX11_chance_1 rfl ci_0 ?_
  refine w_putI X dX11_chance_2 rfl fp_X11_144 S0_188 rfl ?_
  refine w_nmh (fun yh21 eyh21 => ?_)
  have hf := wok_l hf eyh21
  refine w_aload_n X dX11_chance_5 rfl rfl rfl ?_
  refine w_iload_n X dX11_chance_6 rfl rfl rfl ?_
  obtain ⟨yr22, eyr22, hf⟩ := wok_b hf
  refine w_callV X dX11_chance_7 rfl vl_X11_387 (kX11_isText l  eyr22) S0_188 (As := [.int x0]) (st := []) rfl rfl (Nat.le_of_ble_eq_true rfl) ⟨Nat.le_of_ble_eq_true rfl, Nat.le_of_ble_eq_true rfl⟩ ⟨Nat.zero_le _, Nat.zero_le _⟩ (fun r h2 hF => ?_)
  obtain ⟨_, rfl, rfl, rfl⟩ := hF
  show wM p l e (wR 7) s m args below meth c 0 0 (wE below args s D dA b0 ad S0 F) 11 D dA b0 ad S0 10 [some (.ref 188), some (.int x0), some (.int x1), some (.int x2), none, none, none, none, none, none, none] [.int (wb yr22)] yh21
  refine w_if_eq X dX11_chance_10 rfl (t := 33) rfl (fun hc => ?_) (fun hc => ?_)
  · have hf := wok_f hf (wb_0 hc)
    refine w_iconst X dX11_chance_33 rfl ci_m1 ?_
    exact w_iret X dX11_chance_34 hr (hT _ _ (wok_s hf))
  · have hf := wok_t hf (wb_n0 hc)
    refine w_iload_n X dX11_chance_13 rfl rfl rfl ?_
    refine w_iconst X dX11_chance_14 rfl ci_1 ?_
    refine w_bipush X dX11_chance_15 rfl cb_6 ?_
    obtain ⟨yr23, eyr23, hf⟩ := wok_b hf
    refine w_callS X dX11_chance_17 rfl sl_X11_265 (kX11_within l  eyr23) (As := [.int x1, .int 1, .int 6]) (st := []) rfl rfl (Nat.le_of_ble_eq_true rfl) ⟨Nat.le_of_ble_eq_true rfl, Nat.le_of_ble_eq_true rfl⟩ ⟨Nat.zero_le _, Nat.zero_le _⟩ (fun r h2 hF => ?_)
    obtain ⟨_, rfl, rfl, rfl⟩ := hF
    show wM p l e (wR 7) s m args below meth c 0 0 (wE below args s D dA b0 ad S0 F) 11 D dA b0 ad S0 20 [some (.ref 188), some (.int x0), some (.int x1), some (.int x2), none, none, none, none, none, none, none] [.int (wb yr23)] yh21
    refine w_if_eq X dX11_chance_20 rfl (t := 33) rfl (fun hc => ?_) (fun hc => ?_)
    · have hf := wok_f hf (wb_0 hc)
      refine w_iconst X dX11_chance_33 rfl ci_m1 ?_
      exact w_iret X dX11_chance_34 hr (hT _ _ (wok_s hf))
    · have hf := wok_t hf (wb_n0 hc)
      refine w_iload_n X dX11_chance_23 rfl rfl rfl ?_
      refine w_iconst X dX11_chance_24 rfl ci_0 ?_
      refine w_bipush X dX11_chance_25 rfl cb_10 ?_
      obtain ⟨yr24, eyr24, hf⟩ := wok_b hf
      refine w_callS X dX11_chance_27 rfl sl_X11_265 (kX11_within l  eyr24) (As := [.int x2, .int 0, .int 10]) (st := []) rfl rfl (Nat.le_of_ble_eq_true rfl) ⟨Nat.le_of_ble_eq_true rfl, Nat.le_of_ble_eq_true rfl⟩ ⟨Nat.zero_le _, Nat.zero_le _⟩ (fun r h2 hF => ?_)
      obtain ⟨_, rfl, rfl, rfl⟩ := hF
      show wM p l e (wR 7) s m args below meth c 0 0 (wE below args s D dA b0 ad S0 F) 11 D dA b0 ad S0 30 [some (.ref 188), some (.int x0), some (.int x1), some (.int x2), none, none, none, none, none, none, none] [.int (wb yr24)] yh21
      refine w_if_ne X dX11_chance_30 rfl (t := 35) rfl (fun hc => ?_) (fun hc => ?_)
      · have hf := wok_t hf (wb_n0 hc)
        refine w_aload_n X dX11_chance_35 rfl rfl rfl ?_
        refine w_bipush X dX11_chance_36 rfl cb_9 ?_
        obtain ⟨yr25, eyr25, hf⟩ := wok_b hf
        refine w_callV X dX11_chance_38 rfl vl_X11_370 (kX11_wholeBy l  eyr25) S0_188 (As := [.int 9]) (st := []) rfl rfl (Nat.le_of_ble_eq_true rfl) ⟨Nat.le_of_ble_eq_true rfl, Nat.le_of_ble_eq_true rfl⟩ ⟨Nat.zero_le _, Nat.zero_le _⟩ (fun r h2 hF => ?_)
        obtain ⟨_, rfl, rfl, rfl⟩ := hF
        show wM p l e (wR 7) s m args below meth c 0 0 (wE below args s D dA b0 ad S0 F) 11 D dA b0 ad S0 41 [some (.ref 188), some (.int x0), some (.int x1), some (.int x2), none, none, none, none, none, none, none] [.int yr25.1] yr25.2
        refine w_iload_n X dX11_chance_41 rfl rfl rfl ?_
        refine w_ishr X dX11_chance_42 rfl ?_
        refine w_iconst X dX11_chance_43 rfl ci_1 ?_
        refine w_iand X dX11_chance_44 rfl ?_
        refine w_iconst X dX11_chance_45 rfl ci_1 ?_
        refine w_icmp_ne X dX11_chance_46 rfl (t := 53) rfl (fun hc => ?_) (fun hc => ?_)
        · have hf := wok_f hf hc
          refine w_iload_n X dX11_chance_53 rfl rfl rfl ?_
          exact pX11_chance_b54 X hr  hT hf
        · have hf := wok_t hf hc
          refine w_iconst X dX11_chance_49 rfl ci_0 ?_
          refine w_goto X dX11_chance_50 (t := 54) rfl ?_
          exact pX11_chance_b54 X hr  hT hf
      · have hf := wok_f hf (wb_0 hc)
        refine w_iconst X dX11_chance_33 rfl ci_m1 ?_
        exact w_iret X dX11_chance_34 hr (hT _ _ (wok_s hf))
set_option maxRecDepth 4000 in
theorem kX11_chance (l : Launch) {h : wSt} {x0 : Int32} {x1 : Int32} {x2 : Int32} {res : Int32 × wSt} (hf : fX11_chance h x0 x1 x2 = some res) : wC l yX11_chance cX11_chance 11 (some .int) 7 S0 [.ref 188, .int x0, .int x1, .int x2] h (wFI (fun a b => res.1 = a ∧ res.2 = b)) := by
  refine w_meth2 7 (by decide) (Nat.le_of_ble_eq_true rfl) (ls := [some (.ref 188), some (.int x0), some (.int x1), some (.int x2), none, none, none, none, none, none, none]) rfl ?_
  intro p e s m args below meth c D dA b0 ad X hr
  exact pX11_chance_b0 X hr  (K := fun z => res = z) (fun x h2 hz => ⟨x, rfl, by rw [hz], by rw [hz]⟩) ⟨res, hf, rfl⟩
set_option maxRecDepth 4000 in
theorem pX11_getsBy_b0 (X : wCx p s m args meth c RX11 cX11_getsBy 5 D dA b0 ad) (hr : meth.sig.returnType = (some .int)) {h : wSt} {x0 : Int32} {x1 : Int32} {x2 : Int32} {x3 : Int32} {x4 : Int32} {K : Int32 → Prop} (hT : ∀ (x : Int32), K x → F (some (.int x)) h) (hf : wok (fX11_getsBy h x0 x1 x2 x3 x4) K) : wM p l e (wR 1) s m args below meth c 0 0 (wE below args s D dA b0 ad S0 F) 5 D dA b0 ad S0 0 [some (.int x0), some (.int x1), some (.int x2), some (.int x3), some (.int x4)] [] h := by
  unfold fX11_getsBy at hf
  refine w_iload_n X dX11_getsBy_0 rfl rfl rfl ?_
  refine w_iconst X dX11_getsBy_1 rfl ci_1 ?_
  refine w_icmp_ne X dX11_getsBy_2 rfl (t := 20) rfl (fun hc => ?_) (fun hc => ?_)
  · have hf := wok_f hf hc
    refine w_iload X dX11_getsBy_20 rfl rfl ?_
    refine w_iconst X dX11_getsBy_22 rfl ci_1 ?_
    refine w_icmp_ne X dX11_getsBy_23 rfl (t := 30) rfl (fun hc => ?_) (fun hc => ?_)
    · have hf := wok_f hf hc
      refine w_iconst X dX11_getsBy_30 rfl ci_0 ?_
      exact w_iret X dX11_getsBy_31 hr (hT _ (wok_s hf))
    · have hf := wok_t hf hc
      refine w_iload_n X dX11_getsBy_26 rfl rfl rfl ?_
      refine w_goto X dX11_getsBy_27 (t := 31) rfl ?_
      exact w_iret X dX11_getsBy_31 hr (hT _ (wok_s hf))
  · have hf := wok_t hf hc
    refine w_iload X dX11_getsBy_5 rfl rfl ?_
    refine w_iconst X dX11_getsBy_7 rfl ci_1 ?_
    refine w_icmp_ne X dX11_getsBy_8 rfl (t := 16) rfl (fun hc => ?_) (fun hc => ?_)
    · have hf := wok_f hf hc
      refine w_iload_n X dX11_getsBy_16 rfl rfl rfl ?_
      refine w_goto X dX11_getsBy_17 (t := 31) rfl ?_
      exact w_iret X dX11_getsBy_31 hr (hT _ (wok_s hf))
    · have hf := wok_t hf hc
      refine w_iload_n X dX11_getsBy_11 rfl rfl rfl ?_
      refine w_ineg X dX11_getsBy_12 rfl ?_
      refine w_goto X dX11_getsBy_13 (t := 31) rfl ?_
      exact w_iret X dX11_getsBy_31 hr (hT _ (wok_s hf))
set_option maxRecDepth 4000 in
theorem kX11_getsBy (l : Launch) {h : wSt} {x0 : Int32} {x1 : Int32} {x2 : Int32} {x3 : Int32} {x4 : Int32} {res : Int32} (hf : fX11_getsBy h x0 x1 x2 x3 x4 = some res) : wC l yX11_getsBy cX11_getsBy 5 (some .int) 1 S0 [.int x0, .int x1, .int x2, .int x3, .int x4] h (wFI (fun a b => res = a ∧ h = b)) := by
  refine w_meth2 0 (by decide) (Nat.le_of_ble_eq_true rfl) (ls := [some (.int x0), some (.int x1), some (.int x2), some (.int x3), some (.int x4)]) rfl ?_
  intro p e s m args below meth c D dA b0 ad X hr
  exact pX11_getsBy_b0 X hr  (K := fun z => res = z) (fun x hz => ⟨x, rfl, hz, rfl⟩) ⟨res, hf, rfl⟩
set_option maxRecDepth 4000 in
theorem pX11_rests_b145_61 (X : wCx p s m args meth c RX11 cX11_rests 9 D dA b0 ad) (hr : meth.sig.returnType = (some .int)) {h : wSt} {v1 : Int32} {v2 : Int32} {v3 : Int32} {v4 : Int32} {v5 : Int32} {v6 : Int32} {K : (Int32 × Int32) ⊕ ((Int32) ⊕ (Int32 × wSt)) → Prop} (hN : ∀ (n5 : Int32) (n6 : Int32), K (.inl (n5, n6)) → wM p l e (wR 2) s m args below meth c 0 0 (wE below args s D dA b0 ad S0 F) 9 D dA b0 ad S0 61 [some (.ref 188), some (.int v1), some (.int v2), some (.int v3), some (.int v4), some (.int n5), some (.int n6), none, none] [] h) (hX0 : ∀ (n5 : Int32), K (.inr (.inl n5)) → wM p l e (wR 2) s m args below meth c 0 0 (wE below args s D dA b0 ad S0 F) 9 D dA b0 ad S0 151 [some (.ref 188), none, none, none, some (.int v4), some (.int n5), none, none, none] [] h) (hT : ∀ (x : Int32) (h2 : wSt), K (.inr (.inr (x, h2))) → F (some (.int x)) h2) (hf : wok (fX11_rests_b145_61 h v1 v2 v3 v4 v5 v6) K) : wM p l e (wR 2) s m args below meth c 0 0 (wE below args s D dA b0 ad S0 F) 9 D dA b0 ad S0 145 [some (.ref 188), some (.int v1), some (.int v2), some (.int v3), some (.int v4), some (.int v5), some (.int v6), none, none] [] h := by
  unfold fX11_rests_b145_61 at hf
  refine w_iinc X dX11_rests_145 rfl (v := (v6 + 1)) rfl rfl (Nat.le_of_ble_eq_true rfl) (cinc_1 _) (ls' := [some (.ref 188), some (.int v1), some (.int v2), some (.int v3), some (.int v4), some (.int v5), some (.int (v6 + 1)), none, none]) rfl ?_
  refine w_goto X dX11_rests_148 (t := 61) rfl ?_
  exact hN _ _ (wok_s hf)
set_option maxRecDepth 4000 in
theorem pX11_rests_l61b (X : wCx p s m args meth c RX11 cX11_rests 9 D dA b0 ad) (hr : meth.sig.returnType = (some .int)) {h : wSt} {v1 : Int32} {v2 : Int32} {v3 : Int32} {v4 : Int32} {v5 : Int32} {v6 : Int32} {K : (Int32 × Int32) ⊕ ((Int32) ⊕ (Int32 × wSt)) → Prop} (hN : ∀ (n5 : Int32) (n6 : Int32), K (.inl (n5, n6)) → wM p l e (wR 2) s m args below meth c 0 0 (wE below args s D dA b0 ad S0 F) 9 D dA b0 ad S0 61 [some (.ref 188), some (.int v1), some (.int v2), some (.int v3), some (.int v4), some (.int n5), some (.int n6), none, none] [] h) (hX0 : ∀ (n5 : Int32), K (.inr (.inl n5)) → wM p l e (wR 2) s m args below meth c 0 0 (wE below args s D dA b0 ad S0 F) 9 D dA b0 ad S0 151 [some (.ref 188), none, none, none, some (.int v4), some (.int n5), none, none, none] [] h) (hT : ∀ (x : Int32) (h2 : wSt), K (.inr (.inr (x, h2))) → F (some (.int x)) h2) (hf : wok (fX11_rests_l61 h v1 v2 v3 v4 v5 v6) K) : wM p l e (wR 2) s m args below meth c 0 0 (wE below args s D dA b0 ad S0 F) 9 D dA b0 ad S0 61 [some (.ref 188), some (.int v1), some (.int v2), some (.int v3), some (.int v4), some (.int v5), some (.int v6), none, none] [] h := by
  unfold fX11_rests_l61 at hf
  refine w_iload X dX11_rests_61 rfl rfl ?_
  refine w_iconst X dX11_rests_63 rfl ci_4 ?_
  refine w_icmp_ge X dX11_rests_64 rfl (t := 151) rfl (fun hc => ?_) (fun hc => ?_)
  · have hf := wok_t hf hc
    refine w_fg (ls2 := [some (.ref 188), none, none, none, some (.int v4), some (.int v5), none, none, none]) ⟨rfl, rfl, rfl, trivial⟩ ?_
    exact hX0 _ (wok_s hf)
  · have hf := wok_f hf hc
    refine w_iload X dX11_rests_67 rfl rfl ?_
    refine w_iconst X dX11_rests_69 rfl ci_2 ?_
    refine w_idiv X dX11_rests_70 rfl (by decide) ?_
    refine w_istore X dX11_rests_71 rfl rfl (Nat.le_of_ble_eq_true rfl) (ls' := [some (.ref 188), some (.int v1), some (.int v2), some (.int v3), some (.int v4), some (.int v5), some (.int v6), some (.int (v6 / 2)), none]) rfl ?_
    refine w_iload X dX11_rests_73 rfl rfl ?_
    refine w_iconst X dX11_rests_75 rfl ci_2 ?_
    refine w_irem X dX11_rests_76 rfl (by decide) ?_
    refine w_istore X dX11_rests_77 rfl rfl (Nat.le_of_ble_eq_true rfl) (ls' := [some (.ref 188), some (.int v1), some (.int v2), some (.int v3), some (.int v4), some (.int v5), some (.int v6), some (.int (v6 / 2)), some (.int (v6 - v6 / 2 * 2))]) rfl ?_
    refine w_iload_n X dX11_rests_79 rfl rfl rfl ?_
    refine w_iload_n X dX11_rests_80 rfl rfl rfl ?_
    refine w_iload_n X dX11_rests_81 rfl rfl rfl ?_
    refine w_iconst X dX11_rests_82 rfl ci_1 ?_
    refine w_iload X dX11_rests_83 rfl rfl ?_
    refine w_isub X dX11_rests_85 rfl ?_
    refine w_iload X dX11_rests_86 rfl rfl ?_
    obtain ⟨yr23, eyr23, hf⟩ := wok_b hf
    refine w_callS X dX11_rests_88 rfl sl_X11_458 (kX11_getsBy l  eyr23) (As := [.int v1, .int v2, .int v3, .int (1 - (v6 / 2)), .int (v6 - v6 / 2 * 2)]) (st := []) rfl rfl (Nat.le_of_ble_eq_true rfl) ⟨Nat.le_of_ble_eq_true rfl, Nat.le_of_ble_eq_true rfl⟩ ⟨Nat.zero_le _, Nat.zero_le _⟩ (fun r h2 hF => ?_)
    obtain ⟨_, rfl, rfl, rfl⟩ := hF
    show wM p l e (wR 2) s m args below meth c 0 0 (wE below args s D dA b0 ad S0 F) 9 D dA b0 ad S0 91 [some (.ref 188), some (.int v1), some (.int v2), some (.int v3), some (.int v4), some (.int v5), some (.int v6), some (.int (v6 / 2)), some (.int (v6 - v6 / 2 * 2))] [.int yr23] h
    refine w_iload_n X dX11_rests_91 rfl rfl rfl ?_
    refine w_iload_n X dX11_rests_92 rfl rfl rfl ?_
    refine w_iload_n X dX11_rests_93 rfl rfl rfl ?_
    refine w_iload X dX11_rests_94 rfl rfl ?_
    refine w_iload X dX11_rests_96 rfl rfl ?_
    obtain ⟨yr24, eyr24, hf⟩ := wok_b hf
    refine w_callS X dX11_rests_98 rfl sl_X11_458 (kX11_getsBy l  eyr24) (As := [.int v1, .int v2, .int v3, .int (v6 / 2), .int (v6 - v6 / 2 * 2)]) (st := [.int yr23]) rfl rfl (Nat.le_of_ble_eq_true rfl) ⟨Nat.le_of_ble_eq_true rfl, Nat.le_of_ble_eq_true rfl⟩ ⟨Nat.zero_le _, Nat.zero_le _⟩ (fun r h2 hF => ?_)
    obtain ⟨_, rfl, rfl, rfl⟩ := hF
    show wM p l e (wR 2) s m args below meth c 0 0 (wE below args s D dA b0 ad S0 F) 9 D dA b0 ad S0 101 [some (.ref 188), some (.int v1), some (.int v2), some (.int v3), some (.int v4), some (.int v5), some (.int v6), some (.int (v6 / 2)), some (.int (v6 - v6 / 2 * 2))] [.int yr24, .int yr23] h
    refine w_icmp_gt X dX11_rests_101 rfl (t := 145) rfl (fun hc => ?_) (fun hc => ?_)
    · have hf := wok_t hf hc
      refine w_fg (ls2 := [some (.ref 188), some (.int v1), some (.int v2), some (.int v3), some (.int v4), some (.int v5), some (.int v6), none, none]) ⟨rfl, rfl, rfl, rfl, rfl, rfl, rfl, trivial⟩ ?_
      exact pX11_rests_b145_61 X hr  hN hX0 hT hf
    · have hf := wok_f hf hc
      refine w_iload_n X dX11_rests_104 rfl rfl rfl ?_
      refine w_iload_n X dX11_rests_105 rfl rfl rfl ?_
      refine w_iload_n X dX11_rests_106 rfl rfl rfl ?_
      refine w_iconst X dX11_rests_107 rfl ci_1 ?_
      refine w_iload X dX11_rests_108 rfl rfl ?_
      refine w_isub X dX11_rests_110 rfl ?_
      refine w_iload X dX11_rests_111 rfl rfl ?_
      obtain ⟨yr25, eyr25, hf⟩ := wok_b hf
      refine w_callS X dX11_rests_113 rfl sl_X11_458 (kX11_getsBy l  eyr25) (As := [.int v1, .int v2, .int v3, .int (1 - (v6 - v6 / 2 * 2)), .int (v6 / 2)]) (st := []) rfl rfl (Nat.le_of_ble_eq_true rfl) ⟨Nat.le_of_ble_eq_true rfl, Nat.le_of_ble_eq_true rfl⟩ ⟨Nat.zero_le _, Nat.zero_le _⟩ (fun r h2 hF => ?_)
      obtain ⟨_, rfl, rfl, rfl⟩ := hF
      show wM p l e (wR 2) s m args below meth c 0 0 (wE below args s D dA b0 ad S0 F) 9 D dA b0 ad S0 116 [some (.ref 188), some (.int v1), some (.int v2), some (.int v3), some (.int v4), some (.int v5), some (.int v6), some (.int (v6 / 2)), some (.int (v6 - v6 / 2 * 2))] [.int yr25] h
      refine w_iload_n X dX11_rests_116 rfl rfl rfl ?_
      refine w_iload_n X dX11_rests_117 rfl rfl rfl ?_
      refine w_iload_n X dX11_rests_118 rfl rfl rfl ?_
      refine w_iload X dX11_rests_119 rfl rfl ?_
      refine w_iload X dX11_rests_121 rfl rfl ?_
      obtain ⟨yr26, eyr26, hf⟩ := wok_b hf
      refine w_callS X dX11_rests_123 rfl sl_X11_458 (kX11_getsBy l  eyr26) (As := [.int v1, .int v2, .int v3, .int (v6 - v6 / 2 * 2), .int (v6 / 2)]) (st := [.int yr25]) rfl rfl (Nat.le_of_ble_eq_true rfl) ⟨Nat.le_of_ble_eq_true rfl, Nat.le_of_ble_eq_true rfl⟩ ⟨Nat.zero_le _, Nat.zero_le _⟩ (fun r h2 hF => ?_)
      obtain ⟨_, rfl, rfl, rfl⟩ := hF
      show wM p l e (wR 2) s m args below meth c 0 0 (wE below args s D dA b0 ad S0 F) 9 D dA b0 ad S0 126 [some (.ref 188), some (.int v1), some (.int v2), some (.int v3), some (.int v4), some (.int v5), some (.int v6), some (.int (v6 / 2)), some (.int (v6 - v6 / 2 * 2))] [.int yr26, .int yr25] h
      refine w_icmp_le X dX11_rests_126 rfl (t := 132) rfl (fun hc => ?_) (fun hc => ?_)
      · have hf := wok_t hf hc
        refine w_iload X dX11_rests_132 rfl rfl ?_
        refine w_iload X dX11_rests_134 rfl rfl ?_
        refine w_icmp_ne X dX11_rests_136 rfl (t := 142) rfl (fun hc => ?_) (fun hc => ?_)
        · have hf := wok_f hf hc
          refine w_iinc X dX11_rests_142 rfl (v := (v5 + 1)) rfl rfl (Nat.le_of_ble_eq_true rfl) (cinc_1 _) (ls' := [some (.ref 188), some (.int v1), some (.int v2), some (.int v3), some (.int v4), some (.int (v5 + 1)), some (.int v6), some (.int (v6 / 2)), some (.int (v6 - v6 / 2 * 2))]) rfl ?_
          refine w_fg (ls2 := [some (.ref 188), some (.int v1), some (.int v2), some (.int v3), some (.int v4), some (.int (v5 + 1)), some (.int v6), none, none]) ⟨rfl, rfl, rfl, rfl, rfl, rfl, rfl, trivial⟩ ?_
          exact pX11_rests_b145_61 X hr  hN hX0 hT hf
        · have hf := wok_t hf hc
          refine w_iload X dX11_rests_139 rfl rfl ?_
          exact w_iret X dX11_rests_141 hr (hT _ _ (wok_s hf))
      · have hf := wok_f hf hc
        refine w_goto X dX11_rests_129 (t := 145) rfl ?_
        refine w_fg (ls2 := [some (.ref 188), some (.int v1), some (.int v2), some (.int v3), some (.int v4), some (.int v5), some (.int v6), none, none]) ⟨rfl, rfl, rfl, rfl, rfl, rfl, rfl, trivial⟩ ?_
        exact pX11_rests_b145_61 X hr  hN hX0 hT hf
set_option maxRecDepth 4000 in
theorem pX11_rests_l61 (X : wCx p s m args meth c RX11 cX11_rests 9 D dA b0 ad) (hr : meth.sig.returnType = (some .int)) {h : wSt} {v1 : Int32} {v2 : Int32} {v3 : Int32} {v4 : Int32} {KE : (Int32) ⊕ (Int32 × wSt) → Prop} (hX0 : ∀ (n5 : Int32), KE ((.inl n5)) → wM p l e (wR 2) s m args below meth c 0 0 (wE below args s D dA b0 ad S0 F) 9 D dA b0 ad S0 151 [some (.ref 188), none, none, none, some (.int v4), some (.int n5), none, none, none] [] h) (hT : ∀ (x : Int32) (h2 : wSt), KE ((.inr (x, h2))) → F (some (.int x)) h2) : ∀ (n : Nat) (v5 : Int32) (v6 : Int32), wok (wit (fun v : (Int32 × Int32) => fX11_rests_l61 h v1 v2 v3 v4 v.1 v.2) n (v5, v6)) KE → wM p l e (wR 2) s m args below meth c 0 0 (wE below args s D dA b0 ad S0 F) 9 D dA b0 ad S0 61 [some (.ref 188), some (.int v1), some (.int v2), some (.int v3), some (.int v4), some (.int v5), some (.int v6), none, none] [] h := by
  have key := wit_M (b := (fun v : (Int32 × Int32) => fX11_rests_l61 h v1 v2 v3 v4 v.1 v.2)) (KE := KE) (G := fun v => wM p l e (wR 2) s m args below meth c 0 0 (wE below args s D dA b0 ad S0 F) 9 D dA b0 ad S0 61 [some (.ref 188), some (.int v1), some (.int v2), some (.int v3), some (.int v4), some (.int v.1), some (.int v.2), none, none] [] h) (fun v K hN hE hf => pX11_rests_l61b X hr  (fun n5 n6 hz => hN (n5, n6) hz) (fun z0 hz => hX0 z0 (hE _ hz)) (fun z0 z1 hz => hT z0 z1 (hE _ hz)) hf)
  exact fun n v5 v6 hf => key n (v5, v6) hf
set_option maxRecDepth 4000 in
theorem pX11_rests_b163 (X : wCx p s m args meth c RX11 cX11_rests 9 D dA b0 ad) (hr : meth.sig.returnType = (some .int)) {h : wSt} {v4 : Int32} {v5 : Int32} {w1 : Int32} {K : Int32 × wSt → Prop} (hT : ∀ (x : Int32) (h2 : wSt), K (x, h2) → F (some (.int x)) h2)  (hf : wok (fX11_rests_b163 h v4 v5 w1) K) : wM p l e (wR 2) s m args below meth c 0 0 (wE below args s D dA b0 ad S0 F) 9 D dA b0 ad S0 163 [none, none, none, none, some (.int v4), some (.int v5), none, none, none] [.int w1, .ref 188] h := by
  unfold fX11_rests_b163 at hf
  refine w_putI X dX11_rests_163 rfl fp_X11_144 S0_188 rfl ?_
  refine w_nmh (fun yh29 eyh29 => ?_)
  have hf := wok_l hf eyh29
  refine w_iload X dX11_rests_166 rfl rfl ?_
  refine w_iconst X dX11_rests_168 rfl ci_m1 ?_
  refine w_icmp_ne X dX11_rests_169 rfl (t := 177) rfl (fun hc => ?_) (fun hc => ?_)
  · have hf := wok_f hf hc
    refine w_iconst X dX11_rests_177 rfl ci_0 ?_
    exact w_iret X dX11_rests_178 hr (hT _ _ (wok_s hf))
  · have hf := wok_t hf hc
    refine w_iload X dX11_rests_172 rfl rfl ?_
    refine w_goto X dX11_rests_174 (t := 178) rfl ?_
    exact w_iret X dX11_rests_178 hr (hT _ _ (wok_s hf))
set_option maxRecDepth 4000 in
theorem pX11_rests_b42 (X : wCx p s m args meth c RX11 cX11_rests 9 D dA b0 ad) (hr : meth.sig.returnType = (some .int)) {h : wSt} {v1 : Int32} {v2 : Int32} {v3 : Int32} {v4 : Int32} {w1 : Int32} {K : Int32 × wSt → Prop} (hT : ∀ (x : Int32) (h2 : wSt), K (x, h2) → F (some (.int x)) h2)  (hf : wok (fX11_rests_b42 h v1 v2 v3 v4 w1) K) : wM p l e (wR 2) s m args below meth c 0 0 (wE below args s D dA b0 ad S0 F) 9 D dA b0 ad S0 42 [some (.ref 188), some (.int v1), some (.int v2), some (.int v3), some (.int v4), none, none, none, none] [.int w1, .ref 188] h := by
  unfold fX11_rests_b42 at hf
  refine w_putI X dX11_rests_42 rfl fp_X11_144 S0_188 rfl ?_
  refine w_nmh (fun yh22 eyh22 => ?_)
  have hf := wok_l hf eyh22
  refine w_aload_n X dX11_rests_45 rfl rfl rfl ?_
  refine w_getI X dX11_rests_46 rfl fl_X11_144 S0_188 rfl ?_
  refine w_iconst X dX11_rests_49 rfl ci_1 ?_
  refine w_icmp_ne X dX11_rests_50 rfl (t := 55) rfl (fun hc => ?_) (fun hc => ?_)
  · have hf := wok_f hf hc
    refine w_iconst X dX11_rests_55 rfl ci_0 ?_
    refine w_istore X dX11_rests_56 rfl rfl (Nat.le_of_ble_eq_true rfl) (ls' := [some (.ref 188), some (.int v1), some (.int v2), some (.int v3), some (.int v4), some (.int 0), none, none, none]) rfl ?_
    refine w_iconst X dX11_rests_58 rfl ci_0 ?_
    refine w_istore X dX11_rests_59 rfl rfl (Nat.le_of_ble_eq_true rfl) (ls' := [some (.ref 188), some (.int v1), some (.int v2), some (.int v3), some (.int v4), some (.int 0), some (.int 0), none, none]) rfl ?_
    obtain ⟨ye27, hye27, hf⟩ := wok_b hf
    refine pX11_rests_l61 X hr  (KE := fun z => ye27 = z) ?_ ?_ 3000 _ _ ⟨ye27, hye27, rfl⟩
    · intro yz28 hz
      subst hz
      refine w_aload_n X dX11_rests_151 rfl rfl rfl ?_
      refine w_iload X dX11_rests_152 rfl rfl ?_
      refine w_iconst X dX11_rests_154 rfl ci_m1 ?_
      refine w_icmp_ne X dX11_rests_155 rfl (t := 162) rfl (fun hc => ?_) (fun hc => ?_)
      · have hf := wok_f hf hc
        refine w_iconst X dX11_rests_162 rfl ci_1 ?_
        refine w_fg (ls2 := [none, none, none, none, some (.int v4), some (.int yz28), none, none, none]) ⟨rfl, rfl, trivial⟩ ?_
        exact pX11_rests_b163 X hr  hT hf
      · have hf := wok_t hf hc
        refine w_iconst X dX11_rests_158 rfl ci_0 ?_
        refine w_goto X dX11_rests_159 (t := 163) rfl ?_
        refine w_fg (ls2 := [none, none, none, none, some (.int v4), some (.int yz28), none, none, none]) ⟨rfl, rfl, trivial⟩ ?_
        exact pX11_rests_b163 X hr  hT hf
    · intro z zh hz
      subst hz
      exact hT _ _ (wok_s hf)
  · have hf := wok_t hf hc
    refine w_iconst X dX11_rests_53 rfl ci_0 ?_
    exact w_iret X dX11_rests_54 hr (hT _ _ (wok_s hf))
set_option maxRecDepth 4000 in
theorem pX11_rests_b41 (X : wCx p s m args meth c RX11 cX11_rests 9 D dA b0 ad) (hr : meth.sig.returnType = (some .int)) {h : wSt} {v1 : Int32} {v2 : Int32} {v3 : Int32} {v4 : Int32} {K : Int32 × wSt → Prop} (hT : ∀ (x : Int32) (h2 : wSt), K (x, h2) → F (some (.int x)) h2)  (hf : wok (fX11_rests_b41 h v1 v2 v3 v4) K) : wM p l e (wR 2) s m args below meth c 0 0 (wE below args s D dA b0 ad S0 F) 9 D dA b0 ad S0 41 [some (.ref 188), some (.int v1), some (.int v2), some (.int v3), some (.int v4), none, none, none, none] [.ref 188] h := by
  unfold fX11_rests_b41 at hf
  refine w_iconst X dX11_rests_41 rfl ci_1 ?_
  exact pX11_rests_b42 X hr  hT hf
set_option maxRecDepth 4000 in
theorem pX11_rests_b0 (X : wCx p s m args meth c RX11 cX11_rests 9 D dA b0 ad) (hr : meth.sig.returnType = (some .int)) {h : wSt} {x0 : Int32} {x1 : Int32} {x2 : Int32} {x3 : Int32} {K : Int32 × wSt → Prop} (hT : ∀ (x : Int32) (h2 : wSt), K (x, h2) → F (some (.int x)) h2) (hf : wok (fX11_rests h x0 x1 x2 x3) K) : wM p l e (wR 2) s m args below meth c 0 0 (wE below args s D dA b0 ad S0 F) 9 D dA b0 ad S0 0 [some (.ref 188), some (.int x0), some (.int x1), some (.int x2), some (.int x3), none, none, none, none] [] h := by
  unfold fX11_rests at hf
  refine w_aload_n X dX11_rests_0 rfl rfl rfl ?_
  refine w_iload_n X dX11_rests_1 rfl rfl rfl ?_
  refine w_iconst X dX11_rests_2 rfl ci_0 ?_
  refine w_bipush X dX11_rests_3 rfl cb_9 ?_
  obtain ⟨yr21, eyr21, hf⟩ := wok_b hf
  refine w_callS X dX11_rests_5 rfl sl_X11_265 (kX11_within l  eyr21) (As := [.int x0, .int 0, .int 9]) (st := [.ref 188]) rfl rfl (Nat.le_of_ble_eq_true rfl) ⟨Nat.le_of_ble_eq_true rfl, Nat.le_of_ble_eq_true rfl⟩ ⟨Nat.zero_le _, Nat.zero_le _⟩ (fun r h2 hF => ?_)
  obtain ⟨_, rfl, rfl, rfl⟩ := hF
  show wM p l e (wR 2) s m args below meth c 0 0 (wE below args s D dA b0 ad S0 F) 9 D dA b0 ad S0 8 [some (.ref 188), some (.int x0), some (.int x1), some (.int x2), some (.int x3), none, none, none, none] [.int (wb yr21), .ref 188] h
  refine w_if_eq X dX11_rests_8 rfl (t := 41) rfl (fun hc => ?_) (fun hc => ?_)
  · have hf := wok_f hf (wb_0 hc)
    exact pX11_rests_b41 X hr  hT hf
  · have hf := wok_t hf (wb_n0 hc)
    refine w_iload_n X dX11_rests_11 rfl rfl rfl ?_
    refine w_iconst X dX11_rests_12 rfl ci_0 ?_
    refine w_bipush X dX11_rests_13 rfl cb_9 ?_
    obtain ⟨yr30, eyr30, hf⟩ := wok_b hf
    refine w_callS X dX11_rests_15 rfl sl_X11_265 (kX11_within l  eyr30) (As := [.int x1, .int 0, .int 9]) (st := [.ref 188]) rfl rfl (Nat.le_of_ble_eq_true rfl) ⟨Nat.le_of_ble_eq_true rfl, Nat.le_of_ble_eq_true rfl⟩ ⟨Nat.zero_le _, Nat.zero_le _⟩ (fun r h2 hF => ?_)
    obtain ⟨_, rfl, rfl, rfl⟩ := hF
    show wM p l e (wR 2) s m args below meth c 0 0 (wE below args s D dA b0 ad S0 F) 9 D dA b0 ad S0 18 [some (.ref 188), some (.int x0), some (.int x1), some (.int x2), some (.int x3), none, none, none, none] [.int (wb yr30), .ref 188] h
    refine w_if_eq X dX11_rests_18 rfl (t := 41) rfl (fun hc => ?_) (fun hc => ?_)
    · have hf := wok_f hf (wb_0 hc)
      exact pX11_rests_b41 X hr  hT hf
    · have hf := wok_t hf (wb_n0 hc)
      refine w_iload_n X dX11_rests_21 rfl rfl rfl ?_
      refine w_iconst X dX11_rests_22 rfl ci_0 ?_
      refine w_bipush X dX11_rests_23 rfl cb_9 ?_
      obtain ⟨yr31, eyr31, hf⟩ := wok_b hf
      refine w_callS X dX11_rests_25 rfl sl_X11_265 (kX11_within l  eyr31) (As := [.int x2, .int 0, .int 9]) (st := [.ref 188]) rfl rfl (Nat.le_of_ble_eq_true rfl) ⟨Nat.le_of_ble_eq_true rfl, Nat.le_of_ble_eq_true rfl⟩ ⟨Nat.zero_le _, Nat.zero_le _⟩ (fun r h2 hF => ?_)
      obtain ⟨_, rfl, rfl, rfl⟩ := hF
      show wM p l e (wR 2) s m args below meth c 0 0 (wE below args s D dA b0 ad S0 F) 9 D dA b0 ad S0 28 [some (.ref 188), some (.int x0), some (.int x1), some (.int x2), some (.int x3), none, none, none, none] [.int (wb yr31), .ref 188] h
      refine w_if_eq X dX11_rests_28 rfl (t := 41) rfl (fun hc => ?_) (fun hc => ?_)
      · have hf := wok_f hf (wb_0 hc)
        exact pX11_rests_b41 X hr  hT hf
      · have hf := wok_t hf (wb_n0 hc)
        refine w_iload X dX11_rests_31 rfl rfl ?_
        refine w_iconst X dX11_rests_33 rfl ci_m1 ?_
        refine w_icmp_lt X dX11_rests_34 rfl (t := 41) rfl (fun hc => ?_) (fun hc => ?_)
        · have hf := wok_t hf hc
          exact pX11_rests_b41 X hr  hT hf
        · have hf := wok_f hf hc
          refine w_iconst X dX11_rests_37 rfl ci_0 ?_
          refine w_goto X dX11_rests_38 (t := 42) rfl ?_
          exact pX11_rests_b42 X hr  hT hf
set_option maxRecDepth 4000 in
theorem kX11_rests (l : Launch) {h : wSt} {x0 : Int32} {x1 : Int32} {x2 : Int32} {x3 : Int32} {res : Int32 × wSt} (hf : fX11_rests h x0 x1 x2 x3 = some res) : wC l yX11_rests cX11_rests 9 (some .int) 2 S0 [.ref 188, .int x0, .int x1, .int x2, .int x3] h (wFI (fun a b => res.1 = a ∧ res.2 = b)) := by
  refine w_meth2 4 (by decide) (Nat.le_of_ble_eq_true rfl) (ls := [some (.ref 188), some (.int x0), some (.int x1), some (.int x2), some (.int x3), none, none, none, none]) rfl ?_
  intro p e s m args below meth c D dA b0 ad X hr
  exact pX11_rests_b0 X hr  (K := fun z => res = z) (fun x h2 hz => ⟨x, rfl, by rw [hz], by rw [hz]⟩) ⟨res, hf, rfl⟩
set_option maxRecDepth 4000 in
theorem pX11_draws_b0 (X : wCx p s m args meth c RX11 cX11_draws 2 D dA b0 ad) (hr : meth.sig.returnType = (some .int)) {h : wSt} {x0 : Int32} {K : Int32 × wSt → Prop} (hT : ∀ (x : Int32) (h2 : wSt), K (x, h2) → F (some (.int x)) h2) (hf : wok (fX11_draws h x0) K) : wM p l e (wR 1) s m args below meth c 0 0 (wE below args s D dA b0 ad S0 F) 2 D dA b0 ad S0 0 [some (.ref 188), some (.int x0)] [] h := by
  unfold fX11_draws at hf
  refine w_aload_n X dX11_draws_0 rfl rfl rfl ?_
  refine w_aload_n X dX11_draws_1 rfl rfl rfl ?_
  refine w_getJ X dX11_draws_2 rfl fl_X11_462 S0_188 rfl ?_
  refine w_ldc2 X dX11_draws_5 rfl wd_1774 ?_
  refine w_lmul X dX11_draws_8 rfl ?_
  refine w_ldc2 X dX11_draws_9 rfl wd_1775 ?_
  refine w_ladd X dX11_draws_12 rfl ?_
  refine w_ldc2 X dX11_draws_13 rfl wd_1776 ?_
  refine w_lrem X dX11_draws_16 rfl (by decide) ?_
  refine w_putJ X dX11_draws_17 rfl fp_X11_462 S0_188 rfl ?_
  refine w_nmh (fun yh21 eyh21 => ?_)
  have hf := wok_l hf eyh21
  refine w_aload_n X dX11_draws_20 rfl rfl rfl ?_
  refine w_getJ X dX11_draws_21 rfl fl_X11_462 S0_188 rfl ?_
  refine w_ldc2 X dX11_draws_24 rfl wd_1777 ?_
  refine w_ldiv X dX11_draws_27 rfl (by decide) ?_
  refine w_iload_n X dX11_draws_28 rfl rfl rfl ?_
  refine w_i2l X dX11_draws_29 rfl ?_
  obtain ⟨yhg22, hf⟩ := wok_g hf
  refine w_lrem X dX11_draws_30 rfl yhg22 ?_
  refine w_l2i X dX11_draws_31 rfl ?_
  exact w_iret X dX11_draws_32 hr (hT _ _ (wok_s hf))
set_option maxRecDepth 4000 in
theorem kX11_draws (l : Launch) {h : wSt} {x0 : Int32} {res : Int32 × wSt} (hf : fX11_draws h x0 = some res) : wC l yX11_draws cX11_draws 2 (some .int) 1 S0 [.ref 188, .int x0] h (wFI (fun a b => res.1 = a ∧ res.2 = b)) := by
  refine w_meth2 0 (by decide) (Nat.le_of_ble_eq_true rfl) (ls := [some (.ref 188), some (.int x0)]) rfl ?_
  intro p e s m args below meth c D dA b0 ad X hr
  exact pX11_draws_b0 X hr  (K := fun z => res = z) (fun x h2 hz => ⟨x, rfl, by rw [hz], by rw [hz]⟩) ⟨res, hf, rfl⟩
set_option maxRecDepth 4000 in
theorem pX11_livesWeek_b129 (X : wCx p s m args meth c RX11 cX11_livesWeek 6 D dA b0 ad) (hr : meth.sig.returnType = (some .boolean)) {h : wSt} {v1 : Int32} {K : Bool × wSt → Prop} (hT : ∀ (x : Bool) (h2 : wSt), K (x, h2) → F (some (.int (wb x))) h2)  (hf : wok (fX11_livesWeek_b129 h v1) K) : wM p l e (wR 3) s m args below meth c 0 0 (wE below args s D dA b0 ad S0 F) 6 D dA b0 ad S0 129 [some (.ref 188), some (.int v1), none, none, none, none] [] h := by
  unfold fX11_livesWeek_b129 at hf
  refine w_aload_n X dX11_livesWeek_129 rfl rfl rfl ?_
  refine w_getR X dX11_livesWeek_130 rfl fl_X11_120 S0_188 rfl ?_
  refine w_iconst X dX11_livesWeek_133 rfl ci_0 ?_
  refine w_dup2 X dX11_livesWeek_134 rfl rfl rfl ?_
  refine w_iald X dX11_livesWeek_135 rfl (j := 0) cn_0 S0_225 (show wib 0 25 by decide) ?_
  refine w_iconst X dX11_livesWeek_136 rfl ci_1 ?_
  refine w_iadd X dX11_livesWeek_137 rfl ?_
  refine w_iast X dX11_livesWeek_138 rfl (j := 0) cn_0 S0_225 (show wib 0 25 by decide) ?_
  refine w_nmh (fun yh21 eyh21 => ?_)
  have hf := wok_l hf eyh21
  refine w_iload_n X dX11_livesWeek_139 rfl rfl rfl ?_
  obtain ⟨yhg22, hf⟩ := wok_g hf
  exact w_zret X dX11_livesWeek_140 hr (by rw [wb_i yhg22]; exact wb_n _) (by rw [wb_i yhg22]; exact hT _ _ (wok_s hf))
set_option maxRecDepth 4000 in
theorem pX11_livesWeek_b126 (X : wCx p s m args meth c RX11 cX11_livesWeek 6 D dA b0 ad) (hr : meth.sig.returnType = (some .boolean)) {h : wSt} {v1 : Int32} {w1 : Int32} {w2 : Int32} {K : Bool × wSt → Prop} (hT : ∀ (x : Bool) (h2 : wSt), K (x, h2) → F (some (.int (wb x))) h2)  (hf : wok (fX11_livesWeek_b126 h v1 w1 w2) K) : wM p l e (wR 3) s m args below meth c 0 0 (wE below args s D dA b0 ad S0 F) 6 D dA b0 ad S0 126 [some (.ref 188), some (.int v1), none, none, none, none] [.int w2, .int w1, .ref 188] h := by
  unfold fX11_livesWeek_b126 at hf
  obtain ⟨yr29, eyr29, hf⟩ := wok_b hf
  refine w_callV X dX11_livesWeek_126 rfl vl_X11_416 (kX11_scrapes l  eyr29) S0_188 (As := [.int w1, .int w2]) (st := []) rfl rfl (Nat.le_of_ble_eq_true rfl) ⟨Nat.le_of_ble_eq_true rfl, Nat.le_of_ble_eq_true rfl⟩ ⟨Nat.zero_le _, Nat.zero_le _⟩ (fun r h2 hF => ?_)
  obtain ⟨rfl, rfl⟩ := hF
  show wM p l e (wR 3) s m args below meth c 0 0 (wE below args s D dA b0 ad S0 F) 6 D dA b0 ad S0 129 [some (.ref 188), some (.int v1), none, none, none, none] [] yr29
  exact pX11_livesWeek_b129 X hr  hT hf
set_option maxRecDepth 4000 in
theorem pX11_livesWeek_b106 (X : wCx p s m args meth c RX11 cX11_livesWeek 6 D dA b0 ad) (hr : meth.sig.returnType = (some .boolean)) {h : wSt} {v1 : Int32} {v3 : Int32} {v5 : Int32} {w1 : Int32} {w2 : Int32} {K : Bool × wSt → Prop} (hT : ∀ (x : Bool) (h2 : wSt), K (x, h2) → F (some (.int (wb x))) h2)  (hf : wok (fX11_livesWeek_b106 h v1 v3 v5 w1 w2) K) : wM p l e (wR 3) s m args below meth c 0 0 (wE below args s D dA b0 ad S0 F) 6 D dA b0 ad S0 106 [some (.ref 188), some (.int v1), none, some (.int v3), none, some (.int v5)] [.int w2, .int w1, .ref 188] h := by
  unfold fX11_livesWeek_b106 at hf
  obtain ⟨yr28, eyr28, hf⟩ := wok_b hf
  refine w_callV X dX11_livesWeek_106 rfl vl_X11_374 (kX11_scrapedBy l  eyr28) S0_188 (As := [.int w1, .int w2]) (st := []) rfl rfl (Nat.le_of_ble_eq_true rfl) ⟨Nat.le_of_ble_eq_true rfl, Nat.le_of_ble_eq_true rfl⟩ ⟨Nat.zero_le _, Nat.zero_le _⟩ (fun r h2 hF => ?_)
  obtain ⟨_, rfl, rfl, rfl⟩ := hF
  show wM p l e (wR 3) s m args below meth c 0 0 (wE below args s D dA b0 ad S0 F) 6 D dA b0 ad S0 109 [some (.ref 188), some (.int v1), none, some (.int v3), none, some (.int v5)] [.int yr28] h
  refine w_if_le X dX11_livesWeek_109 rfl (t := 129) rfl (fun hc => ?_) (fun hc => ?_)
  · have hf := wok_t hf hc
    refine w_fg (ls2 := [some (.ref 188), some (.int v1), none, none, none, none]) ⟨rfl, rfl, trivial⟩ ?_
    exact pX11_livesWeek_b129 X hr  hT hf
  · have hf := wok_f hf hc
    refine w_aload_n X dX11_livesWeek_112 rfl rfl rfl ?_
    refine w_iload_n X dX11_livesWeek_113 rfl rfl rfl ?_
    refine w_iload X dX11_livesWeek_114 rfl rfl ?_
    refine w_if_ne X dX11_livesWeek_116 rfl (t := 124) rfl (fun hc => ?_) (fun hc => ?_)
    · have hf := wok_f hf hc
      refine w_bipush X dX11_livesWeek_124 rfl cb_9 ?_
      refine w_fg (ls2 := [some (.ref 188), some (.int v1), none, none, none, none]) ⟨rfl, rfl, trivial⟩ ?_
      exact pX11_livesWeek_b126 X hr  hT hf
    · have hf := wok_t hf hc
      refine w_bipush X dX11_livesWeek_119 rfl cb_63 ?_
      refine w_goto X dX11_livesWeek_121 (t := 126) rfl ?_
      refine w_fg (ls2 := [some (.ref 188), some (.int v1), none, none, none, none]) ⟨rfl, rfl, trivial⟩ ?_
      exact pX11_livesWeek_b126 X hr  hT hf
set_option maxRecDepth 4000 in
theorem pX11_livesWeek_b86 (X : wCx p s m args meth c RX11 cX11_livesWeek 6 D dA b0 ad) (hr : meth.sig.returnType = (some .boolean)) {h : wSt} {v1 : Int32} {v3 : Int32} {v5 : Int32} {K : Bool × wSt → Prop} (hT : ∀ (x : Bool) (h2 : wSt), K (x, h2) → F (some (.int (wb x))) h2)  (hf : wok (fX11_livesWeek_b86 h v1 v3 v5) K) : wM p l e (wR 3) s m args below meth c 0 0 (wE below args s D dA b0 ad S0 F) 6 D dA b0 ad S0 86 [some (.ref 188), some (.int v1), none, some (.int v3), none, some (.int v5)] [] h := by
  unfold fX11_livesWeek_b86 at hf
  refine w_iload X dX11_livesWeek_86 rfl rfl ?_
  refine w_iconst X dX11_livesWeek_88 rfl ci_2 ?_
  refine w_icmp_ge X dX11_livesWeek_89 rfl (t := 129) rfl (fun hc => ?_) (fun hc => ?_)
  · have hf := wok_t hf hc
    refine w_fg (ls2 := [some (.ref 188), some (.int v1), none, none, none, none]) ⟨rfl, rfl, trivial⟩ ?_
    exact pX11_livesWeek_b129 X hr  hT hf
  · have hf := wok_f hf hc
    refine w_aload_n X dX11_livesWeek_92 rfl rfl rfl ?_
    refine w_iload_n X dX11_livesWeek_93 rfl rfl rfl ?_
    refine w_iload X dX11_livesWeek_94 rfl rfl ?_
    refine w_if_ne X dX11_livesWeek_96 rfl (t := 104) rfl (fun hc => ?_) (fun hc => ?_)
    · have hf := wok_f hf hc
      refine w_bipush X dX11_livesWeek_104 rfl cb_9 ?_
      exact pX11_livesWeek_b106 X hr  hT hf
    · have hf := wok_t hf hc
      refine w_bipush X dX11_livesWeek_99 rfl cb_63 ?_
      refine w_goto X dX11_livesWeek_101 (t := 106) rfl ?_
      exact pX11_livesWeek_b106 X hr  hT hf
set_option maxRecDepth 4000 in
theorem pX11_livesWeek_b72 (X : wCx p s m args meth c RX11 cX11_livesWeek 6 D dA b0 ad) (hr : meth.sig.returnType = (some .boolean)) {h : wSt} {v1 : Int32} {v2 : Int32} {v3 : Int32} {v4 : Int32} {w0 : Int32} {K : Bool × wSt → Prop} (hT : ∀ (x : Bool) (h2 : wSt), K (x, h2) → F (some (.int (wb x))) h2)  (hf : wok (fX11_livesWeek_b72 h v1 v2 v3 v4 w0) K) : wM p l e (wR 3) s m args below meth c 0 0 (wE below args s D dA b0 ad S0 F) 6 D dA b0 ad S0 72 [some (.ref 188), some (.int v1), some (.int v2), some (.int v3), some (.int v4), none] [.int w0] h := by
  unfold fX11_livesWeek_b72 at hf
  refine w_istore X dX11_livesWeek_72 rfl rfl (Nat.le_of_ble_eq_true rfl) (ls' := [some (.ref 188), some (.int v1), some (.int v2), some (.int v3), some (.int v4), some (.int w0)]) rfl ?_
  refine w_iload_n X dX11_livesWeek_74 rfl rfl rfl ?_
  refine w_if_eq X dX11_livesWeek_75 rfl (t := 86) rfl (fun hc => ?_) (fun hc => ?_)
  · have hf := wok_t hf hc
    refine w_fg (ls2 := [some (.ref 188), some (.int v1), none, some (.int v3), none, some (.int w0)]) ⟨rfl, rfl, rfl, rfl, trivial⟩ ?_
    exact pX11_livesWeek_b86 X hr  hT hf
  · have hf := wok_f hf hc
    refine w_aload_n X dX11_livesWeek_78 rfl rfl rfl ?_
    refine w_iload_n X dX11_livesWeek_79 rfl rfl rfl ?_
    refine w_iload_n X dX11_livesWeek_80 rfl rfl rfl ?_
    refine w_iload X dX11_livesWeek_81 rfl rfl ?_
    obtain ⟨yr30, eyr30, hf⟩ := wok_b hf
    refine w_callV X dX11_livesWeek_83 rfl vl_X11_412 (kX11_writes l  eyr30) S0_188 (As := [.int v2, .int v3, .int v4]) (st := []) rfl rfl (Nat.le_of_ble_eq_true rfl) ⟨Nat.le_of_ble_eq_true rfl, Nat.le_of_ble_eq_true rfl⟩ ⟨Nat.zero_le _, Nat.zero_le _⟩ (fun r h2 hF => ?_)
    obtain ⟨rfl, rfl⟩ := hF
    show wM p l e (wR 3) s m args below meth c 0 0 (wE below args s D dA b0 ad S0 F) 6 D dA b0 ad S0 86 [some (.ref 188), some (.int v1), some (.int v2), some (.int v3), some (.int v4), some (.int w0)] [] yr30
    refine w_fg (ls2 := [some (.ref 188), some (.int v1), none, some (.int v3), none, some (.int w0)]) ⟨rfl, rfl, rfl, rfl, trivial⟩ ?_
    exact pX11_livesWeek_b86 X hr  hT hf
set_option maxRecDepth 4000 in
theorem pX11_livesWeek_b0 (X : wCx p s m args meth c RX11 cX11_livesWeek 6 D dA b0 ad) (hr : meth.sig.returnType = (some .boolean)) {h : wSt} {K : Bool × wSt → Prop} (hT : ∀ (x : Bool) (h2 : wSt), K (x, h2) → F (some (.int (wb x))) h2) (hf : wok (fX11_livesWeek h ) K) : wM p l e (wR 3) s m args below meth c 0 0 (wE below args s D dA b0 ad S0 F) 6 D dA b0 ad S0 0 [some (.ref 188), none, none, none, none, none] [] h := by
  unfold fX11_livesWeek at hf
  refine w_iconst X dX11_livesWeek_0 rfl ci_0 ?_
  refine w_istore_n X dX11_livesWeek_1 rfl rfl rfl (Nat.le_of_ble_eq_true rfl) (ls' := [some (.ref 188), some (.int 0), none, none, none, none]) rfl ?_
  refine w_aload_n X dX11_livesWeek_2 rfl rfl rfl ?_
  refine w_getR X dX11_livesWeek_3 rfl fl_X11_13 S0_188 rfl ?_
  refine w_iconst X dX11_livesWeek_6 rfl ci_1 ?_
  refine w_iald X dX11_livesWeek_7 rfl (j := 1) cn_1 S0_190 (show wib 1 6 by decide) ?_
  refine w_if_le X dX11_livesWeek_8 rfl (t := 129) rfl (fun hc => ?_) (fun hc => ?_)
  · have hf := wok_t hf hc
    exact pX11_livesWeek_b129 X hr  hT hf
  · have hf := wok_f hf hc
    refine w_aload_n X dX11_livesWeek_11 rfl rfl rfl ?_
    refine w_getR X dX11_livesWeek_12 rfl fl_X11_13 S0_188 rfl ?_
    refine w_iconst X dX11_livesWeek_15 rfl ci_0 ?_
    refine w_iald X dX11_livesWeek_16 rfl (j := 0) cn_0 S0_190 (show wib 0 6 by decide) ?_
    refine w_if_le X dX11_livesWeek_17 rfl (t := 129) rfl (fun hc => ?_) (fun hc => ?_)
    · have hf := wok_t hf hc
      exact pX11_livesWeek_b129 X hr  hT hf
    · have hf := wok_f hf hc
      refine w_aload_n X dX11_livesWeek_20 rfl rfl rfl ?_
      refine w_aload_n X dX11_livesWeek_21 rfl rfl rfl ?_
      refine w_getR X dX11_livesWeek_22 rfl fl_X11_13 S0_188 rfl ?_
      refine w_iconst X dX11_livesWeek_25 rfl ci_1 ?_
      refine w_iald X dX11_livesWeek_26 rfl (j := 1) cn_1 S0_190 (show wib 1 6 by decide) ?_
      obtain ⟨yr23, eyr23, hf⟩ := wok_b hf
      refine w_callV X dX11_livesWeek_27 rfl vl_X11_473 (kX11_draws l  eyr23) S0_188 (As := [.int (h.1 190 1)]) (st := []) rfl rfl (Nat.le_of_ble_eq_true rfl) ⟨Nat.le_of_ble_eq_true rfl, Nat.le_of_ble_eq_true rfl⟩ ⟨Nat.zero_le _, Nat.zero_le _⟩ (fun r h2 hF => ?_)
      obtain ⟨_, rfl, rfl, rfl⟩ := hF
      show wM p l e (wR 3) s m args below meth c 0 0 (wE below args s D dA b0 ad S0 F) 6 D dA b0 ad S0 30 [some (.ref 188), some (.int 0), none, none, none, none] [.int yr23.1] yr23.2
      refine w_istore_n X dX11_livesWeek_30 rfl rfl rfl (Nat.le_of_ble_eq_true rfl) (ls' := [some (.ref 188), some (.int 0), some (.int yr23.1), none, none, none]) rfl ?_
      refine w_aload_n X dX11_livesWeek_31 rfl rfl rfl ?_
      refine w_aload_n X dX11_livesWeek_32 rfl rfl rfl ?_
      refine w_getR X dX11_livesWeek_33 rfl fl_X11_13 S0_188 rfl ?_
      refine w_iconst X dX11_livesWeek_36 rfl ci_0 ?_
      refine w_iald X dX11_livesWeek_37 rfl (j := 0) cn_0 S0_190 (show wib 0 6 by decide) ?_
      obtain ⟨yr24, eyr24, hf⟩ := wok_b hf
      refine w_callV X dX11_livesWeek_38 rfl vl_X11_473 (kX11_draws l  eyr24) S0_188 (As := [.int (yr23.2.1 190 0)]) (st := []) rfl rfl (Nat.le_of_ble_eq_true rfl) ⟨Nat.le_of_ble_eq_true rfl, Nat.le_of_ble_eq_true rfl⟩ ⟨Nat.zero_le _, Nat.zero_le _⟩ (fun r h2 hF => ?_)
      obtain ⟨_, rfl, rfl, rfl⟩ := hF
      show wM p l e (wR 3) s m args below meth c 0 0 (wE below args s D dA b0 ad S0 F) 6 D dA b0 ad S0 41 [some (.ref 188), some (.int 0), some (.int yr23.1), none, none, none] [.int yr24.1] yr24.2
      refine w_istore_n X dX11_livesWeek_41 rfl rfl rfl (Nat.le_of_ble_eq_true rfl) (ls' := [some (.ref 188), some (.int 0), some (.int yr23.1), some (.int yr24.1), none, none]) rfl ?_
      refine w_aload_n X dX11_livesWeek_42 rfl rfl rfl ?_
      refine w_bipush X dX11_livesWeek_43 rfl cb_6 ?_
      obtain ⟨yr25, eyr25, hf⟩ := wok_b hf
      refine w_callV X dX11_livesWeek_45 rfl vl_X11_473 (kX11_draws l  eyr25) S0_188 (As := [.int 6]) (st := []) rfl rfl (Nat.le_of_ble_eq_true rfl) ⟨Nat.le_of_ble_eq_true rfl, Nat.le_of_ble_eq_true rfl⟩ ⟨Nat.zero_le _, Nat.zero_le _⟩ (fun r h2 hF => ?_)
      obtain ⟨_, rfl, rfl, rfl⟩ := hF
      show wM p l e (wR 3) s m args below meth c 0 0 (wE below args s D dA b0 ad S0 F) 6 D dA b0 ad S0 48 [some (.ref 188), some (.int 0), some (.int yr23.1), some (.int yr24.1), none, none] [.int yr25.1] yr25.2
      refine w_istore X dX11_livesWeek_48 rfl rfl (Nat.le_of_ble_eq_true rfl) (ls' := [some (.ref 188), some (.int 0), some (.int yr23.1), some (.int yr24.1), some (.int yr25.1), none]) rfl ?_
      refine w_aload_n X dX11_livesWeek_50 rfl rfl rfl ?_
      refine w_iload_n X dX11_livesWeek_51 rfl rfl rfl ?_
      refine w_iload_n X dX11_livesWeek_52 rfl rfl rfl ?_
      refine w_iload X dX11_livesWeek_53 rfl rfl ?_
      obtain ⟨yr26, eyr26, hf⟩ := wok_b hf
      refine w_callV X dX11_livesWeek_55 rfl vl_X11_378 (kX11_canWrite l  eyr26) S0_188 (As := [.int yr23.1, .int yr24.1, .int yr25.1]) (st := []) rfl rfl (Nat.le_of_ble_eq_true rfl) ⟨Nat.le_of_ble_eq_true rfl, Nat.le_of_ble_eq_true rfl⟩ ⟨Nat.zero_le _, Nat.zero_le _⟩ (fun r h2 hF => ?_)
      obtain ⟨_, rfl, rfl, rfl⟩ := hF
      show wM p l e (wR 3) s m args below meth c 0 0 (wE below args s D dA b0 ad S0 F) 6 D dA b0 ad S0 58 [some (.ref 188), some (.int 0), some (.int yr23.1), some (.int yr24.1), some (.int yr25.1), none] [.int (wb yr26)] yr25.2
      refine w_istore_n X dX11_livesWeek_58 rfl rfl rfl (Nat.le_of_ble_eq_true rfl) (ls' := [some (.ref 188), some (.int (wb yr26)), some (.int yr23.1), some (.int yr24.1), some (.int yr25.1), none]) rfl ?_
      refine w_iload_n X dX11_livesWeek_59 rfl rfl rfl ?_
      refine w_if_eq X dX11_livesWeek_60 rfl (t := 67) rfl (fun hc => ?_) (fun hc => ?_)
      · have hf := wok_f hf (wb_0 hc)
        refine w_aload_n X dX11_livesWeek_67 rfl rfl rfl ?_
        refine w_iconst X dX11_livesWeek_68 rfl ci_3 ?_
        obtain ⟨yr27, eyr27, hf⟩ := wok_b hf
        refine w_callV X dX11_livesWeek_69 rfl vl_X11_473 (kX11_draws l  eyr27) S0_188 (As := [.int 3]) (st := []) rfl rfl (Nat.le_of_ble_eq_true rfl) ⟨Nat.le_of_ble_eq_true rfl, Nat.le_of_ble_eq_true rfl⟩ ⟨Nat.zero_le _, Nat.zero_le _⟩ (fun r h2 hF => ?_)
        obtain ⟨_, rfl, rfl, rfl⟩ := hF
        show wM p l e (wR 3) s m args below meth c 0 0 (wE below args s D dA b0 ad S0 F) 6 D dA b0 ad S0 72 [some (.ref 188), some (.int (wb yr26)), some (.int yr23.1), some (.int yr24.1), some (.int yr25.1), none] [.int yr27.1] yr27.2
        exact pX11_livesWeek_b72 X hr  hT hf
      · have hf := wok_t hf (wb_n0 hc)
        refine w_iconst X dX11_livesWeek_63 rfl ci_2 ?_
        refine w_goto X dX11_livesWeek_64 (t := 72) rfl ?_
        exact pX11_livesWeek_b72 X hr  hT hf
set_option maxRecDepth 4000 in
theorem kX11_livesWeek (l : Launch) {h : wSt} {res : Bool × wSt} (hf : fX11_livesWeek h  = some res) : wC l yX11_livesWeek cX11_livesWeek 6 (some .boolean) 3 S0 [.ref 188] h (wFZ (fun a b => res.1 = a ∧ res.2 = b)) := by
  refine w_meth2 5 (by decide) (Nat.le_of_ble_eq_true rfl) (ls := [some (.ref 188), none, none, none, none, none]) rfl ?_
  intro p e s m args below meth c D dA b0 ad X hr
  exact pX11_livesWeek_b0 X hr  (K := fun z => res = z) (fun x h2 hz => ⟨x, rfl, by rw [hz], by rw [hz]⟩) ⟨res, hf, rfl⟩
set_option maxRecDepth 4000 in
theorem pX11_allThick_b0 (X : wCx p s m args meth c RX11 cX11_allThick 1 D dA b0 ad) (hr : meth.sig.returnType = (some .int)) {h : wSt} {K : Int32 → Prop} (hT : ∀ (x : Int32), K x → F (some (.int x)) h) (hf : wok (fX11_allThick h ) K) : wM p l e (wR 1) s m args below meth c 0 0 (wE below args s D dA b0 ad S0 F) 1 D dA b0 ad S0 0 [some (.ref 188)] [] h := by
  unfold fX11_allThick at hf
  refine w_aload_n X dX11_allThick_0 rfl rfl rfl ?_
  refine w_getR X dX11_allThick_1 rfl fl_X11_120 S0_188 rfl ?_
  refine w_iconst X dX11_allThick_4 rfl ci_1 ?_
  refine w_iald X dX11_allThick_5 rfl (j := 1) cn_1 S0_225 (show wib 1 25 by decide) ?_
  refine w_aload_n X dX11_allThick_6 rfl rfl rfl ?_
  refine w_getR X dX11_allThick_7 rfl fl_X11_120 S0_188 rfl ?_
  refine w_iconst X dX11_allThick_10 rfl ci_2 ?_
  refine w_iald X dX11_allThick_11 rfl (j := 2) cn_2 S0_225 (show wib 2 25 by decide) ?_
  refine w_iadd X dX11_allThick_12 rfl ?_
  refine w_aload_n X dX11_allThick_13 rfl rfl rfl ?_
  refine w_getR X dX11_allThick_14 rfl fl_X11_120 S0_188 rfl ?_
  refine w_iconst X dX11_allThick_17 rfl ci_3 ?_
  refine w_iald X dX11_allThick_18 rfl (j := 3) cn_3 S0_225 (show wib 3 25 by decide) ?_
  refine w_iadd X dX11_allThick_19 rfl ?_
  exact w_iret X dX11_allThick_20 hr (hT _ (wok_s hf))
set_option maxRecDepth 4000 in
theorem kX11_allThick (l : Launch) {h : wSt} {res : Int32} (hf : fX11_allThick h  = some res) : wC l yX11_allThick cX11_allThick 1 (some .int) 1 S0 [.ref 188] h (wFI (fun a b => res = a ∧ h = b)) := by
  refine w_meth2 0 (by decide) (Nat.le_of_ble_eq_true rfl) (ls := [some (.ref 188)]) rfl ?_
  intro p e s m args below meth c D dA b0 ad X hr
  exact pX11_allThick_b0 X hr  (K := fun z => res = z) (fun x hz => ⟨x, rfl, hz, rfl⟩) ⟨res, hf, rfl⟩
set_option maxRecDepth 4000 in
theorem pX11_years_b82_62 (X : wCx p s m args meth c RX11 cX11_years 7 D dA b0 ad) (hr : meth.sig.returnType = (some .int)) {h : wSt} {v2 : Int32} {v3 : Int32} {v5 : Int32} {w0 : Int32} {w1 : Int32} {K : (Int32 × Int32 × wSt) ⊕ ((Int32 × wSt)) → Prop} (hN : ∀ (n4 : Int32) (n5 : Int32) (nh : wSt), K (.inl (n4, n5, nh)) → wM p l e (wR 8) s m args below meth c 0 0 (wE below args s D dA b0 ad S0 F) 7 D dA b0 ad S0 62 [some (.ref 188), none, some (.int v2), some (.int v3), some (.int n4), some (.int n5), none] [] nh) (hX0 : ∀ (n4 : Int32) (nh : wSt), K (.inr (n4, nh)) → wM p l e (wR 8) s m args below meth c 0 0 (wE below args s D dA b0 ad S0 F) 7 D dA b0 ad S0 91 [some (.ref 188), none, none, some (.int v3), some (.int n4), none, none] [] nh) (hf : wok (fX11_years_b82_62 h v2 v3 v5 w0 w1) K) : wM p l e (wR 8) s m args below meth c 0 0 (wE below args s D dA b0 ad S0 F) 7 D dA b0 ad S0 82 [some (.ref 188), none, some (.int v2), some (.int v3), none, some (.int v5), none] [.int w1, .int w0] h := by
  unfold fX11_years_b82_62 at hf
  refine w_iadd X dX11_years_82 rfl ?_
  refine w_istore X dX11_years_83 rfl rfl (Nat.le_of_ble_eq_true rfl) (ls' := [some (.ref 188), none, some (.int v2), some (.int v3), some (.int (w0 + w1)), some (.int v5), none]) rfl ?_
  refine w_iinc X dX11_years_85 rfl (v := (v5 + 1)) rfl rfl (Nat.le_of_ble_eq_true rfl) (cinc_1 _) (ls' := [some (.ref 188), none, some (.int v2), some (.int v3), some (.int (w0 + w1)), some (.int (v5 + 1)), none]) rfl ?_
  refine w_goto X dX11_years_88 (t := 62) rfl ?_
  exact hN _ _ _ (wok_s hf)
set_option maxRecDepth 4000 in
theorem pX11_years_l62b (X : wCx p s m args meth c RX11 cX11_years 7 D dA b0 ad) (hr : meth.sig.returnType = (some .int)) {h : wSt} {v2 : Int32} {v3 : Int32} {v4 : Int32} {v5 : Int32} {K : (Int32 × Int32 × wSt) ⊕ ((Int32 × wSt)) → Prop} (hN : ∀ (n4 : Int32) (n5 : Int32) (nh : wSt), K (.inl (n4, n5, nh)) → wM p l e (wR 8) s m args below meth c 0 0 (wE below args s D dA b0 ad S0 F) 7 D dA b0 ad S0 62 [some (.ref 188), none, some (.int v2), some (.int v3), some (.int n4), some (.int n5), none] [] nh) (hX0 : ∀ (n4 : Int32) (nh : wSt), K (.inr (n4, nh)) → wM p l e (wR 8) s m args below meth c 0 0 (wE below args s D dA b0 ad S0 F) 7 D dA b0 ad S0 91 [some (.ref 188), none, none, some (.int v3), some (.int n4), none, none] [] nh) (hf : wok (fX11_years_l62 h v2 v3 v4 v5) K) : wM p l e (wR 8) s m args below meth c 0 0 (wE below args s D dA b0 ad S0 F) 7 D dA b0 ad S0 62 [some (.ref 188), none, some (.int v2), some (.int v3), some (.int v4), some (.int v5), none] [] h := by
  unfold fX11_years_l62 at hf
  refine w_iload X dX11_years_62 rfl rfl ?_
  refine w_iload_n X dX11_years_64 rfl rfl rfl ?_
  refine w_icmp_ge X dX11_years_65 rfl (t := 91) rfl (fun hc => ?_) (fun hc => ?_)
  · have hf := wok_t hf hc
    refine w_fg (ls2 := [some (.ref 188), none, none, some (.int v3), some (.int v4), none, none]) ⟨rfl, rfl, rfl, trivial⟩ ?_
    exact hX0 _ _ (wok_s hf)
  · have hf := wok_f hf hc
    refine w_iload X dX11_years_68 rfl rfl ?_
    refine w_aload_n X dX11_years_70 rfl rfl rfl ?_
    obtain ⟨yr27, eyr27, hf⟩ := wok_b hf
    refine w_callV X dX11_years_71 rfl vl_X11_476 (kX11_livesWeek l  eyr27) S0_188 (As := []) (st := [.int v4]) rfl rfl (Nat.le_of_ble_eq_true rfl) ⟨Nat.le_of_ble_eq_true rfl, Nat.le_of_ble_eq_true rfl⟩ ⟨Nat.zero_le _, Nat.zero_le _⟩ (fun r h2 hF => ?_)
    obtain ⟨_, rfl, rfl, rfl⟩ := hF
    show wM p l e (wR 8) s m args below meth c 0 0 (wE below args s D dA b0 ad S0 F) 7 D dA b0 ad S0 74 [some (.ref 188), none, some (.int v2), some (.int v3), some (.int v4), some (.int v5), none] [.int (wb yr27.1), .int v4] yr27.2
    refine w_if_eq X dX11_years_74 rfl (t := 81) rfl (fun hc => ?_) (fun hc => ?_)
    · have hf := wok_f hf (wb_0 hc)
      refine w_iconst X dX11_years_81 rfl ci_0 ?_
      refine w_fg (ls2 := [some (.ref 188), none, some (.int v2), some (.int v3), none, some (.int v5), none]) ⟨rfl, rfl, rfl, rfl, trivial⟩ ?_
      exact pX11_years_b82_62 X hr  hN hX0 hf
    · have hf := wok_t hf (wb_n0 hc)
      refine w_iconst X dX11_years_77 rfl ci_1 ?_
      refine w_goto X dX11_years_78 (t := 82) rfl ?_
      refine w_fg (ls2 := [some (.ref 188), none, some (.int v2), some (.int v3), none, some (.int v5), none]) ⟨rfl, rfl, rfl, rfl, trivial⟩ ?_
      exact pX11_years_b82_62 X hr  hN hX0 hf
set_option maxRecDepth 4000 in
theorem pX11_years_l62 (X : wCx p s m args meth c RX11 cX11_years 7 D dA b0 ad) (hr : meth.sig.returnType = (some .int))  {v2 : Int32} {v3 : Int32} {KE : (Int32 × wSt) → Prop} (hX0 : ∀ (n4 : Int32) (nh : wSt), KE ((n4, nh)) → wM p l e (wR 8) s m args below meth c 0 0 (wE below args s D dA b0 ad S0 F) 7 D dA b0 ad S0 91 [some (.ref 188), none, none, some (.int v3), some (.int n4), none, none] [] nh) : ∀ (n : Nat) (v4 : Int32) (v5 : Int32) (h : wSt), wok (wit (fun v : (Int32 × Int32 × wSt) => fX11_years_l62 v.2.2 v2 v3 v.1 v.2.1) n (v4, v5, h)) KE → wM p l e (wR 8) s m args below meth c 0 0 (wE below args s D dA b0 ad S0 F) 7 D dA b0 ad S0 62 [some (.ref 188), none, some (.int v2), some (.int v3), some (.int v4), some (.int v5), none] [] h := by
  have key := wit_M (b := (fun v : (Int32 × Int32 × wSt) => fX11_years_l62 v.2.2 v2 v3 v.1 v.2.1)) (KE := KE) (G := fun v => wM p l e (wR 8) s m args below meth c 0 0 (wE below args s D dA b0 ad S0 F) 7 D dA b0 ad S0 62 [some (.ref 188), none, some (.int v2), some (.int v3), some (.int v.1), some (.int v.2.1), none] [] v.2.2) (fun v K hN hE hf => pX11_years_l62b X hr  (fun n4 n5 nh hz => hN (n4, n5, nh) hz) (fun z0 z1 hz => hX0 z0 z1 (hE _ hz)) hf)
  exact fun n v4 v5 h hf => key n (v4, v5, h) hf
set_option maxRecDepth 4000 in
theorem pX11_years_b0 (X : wCx p s m args meth c RX11 cX11_years 7 D dA b0 ad) (hr : meth.sig.returnType = (some .int)) {h : wSt} {x0 : Int32} {x1 : Int32} {x2 : Int32} {K : Int32 × wSt → Prop} (hT : ∀ (x : Int32) (h2 : wSt), K (x, h2) → F (some (.int x)) h2) (hf : wok (fX11_years h x0 x1 x2) K) : wM p l e (wR 8) s m args below meth c 0 0 (wE below args s D dA b0 ad S0 F) 7 D dA b0 ad S0 0 [some (.ref 188), some (.int x0), some (.int x1), some (.int x2), none, none, none] [] h := by
  unfold fX11_years at hf
  refine w_aload_n X dX11_years_0 rfl rfl rfl ?_
  refine w_iconst X dX11_years_1 rfl ci_0 ?_
  refine w_putI X dX11_years_2 rfl fp_X11_144 S0_188 rfl ?_
  refine w_nmh (fun yh21 eyh21 => ?_)
  have hf := wok_l hf eyh21
  refine w_iload_n X dX11_years_5 rfl rfl rfl ?_
  refine w_iconst X dX11_years_6 rfl ci_0 ?_
  refine w_sipush X dX11_years_7 rfl cs_9999 ?_
  obtain ⟨yr22, eyr22, hf⟩ := wok_b hf
  refine w_callS X dX11_years_10 rfl sl_X11_265 (kX11_within l  eyr22) (As := [.int x0, .int 0, .int 9999]) (st := []) rfl rfl (Nat.le_of_ble_eq_true rfl) ⟨Nat.le_of_ble_eq_true rfl, Nat.le_of_ble_eq_true rfl⟩ ⟨Nat.zero_le _, Nat.zero_le _⟩ (fun r h2 hF => ?_)
  obtain ⟨_, rfl, rfl, rfl⟩ := hF
  show wM p l e (wR 8) s m args below meth c 0 0 (wE below args s D dA b0 ad S0 F) 7 D dA b0 ad S0 13 [some (.ref 188), some (.int x0), some (.int x1), some (.int x2), none, none, none] [.int (wb yr22)] yh21
  refine w_if_eq X dX11_years_13 rfl (t := 35) rfl (fun hc => ?_) (fun hc => ?_)
  · have hf := wok_f hf (wb_0 hc)
    refine w_iconst X dX11_years_35 rfl ci_m1 ?_
    exact w_iret X dX11_years_36 hr (hT _ _ (wok_s hf))
  · have hf := wok_t hf (wb_n0 hc)
    refine w_iload_n X dX11_years_16 rfl rfl rfl ?_
    refine w_iconst X dX11_years_17 rfl ci_1 ?_
    refine w_bipush X dX11_years_18 rfl cb_99 ?_
    obtain ⟨yr23, eyr23, hf⟩ := wok_b hf
    refine w_callS X dX11_years_20 rfl sl_X11_265 (kX11_within l  eyr23) (As := [.int x1, .int 1, .int 99]) (st := []) rfl rfl (Nat.le_of_ble_eq_true rfl) ⟨Nat.le_of_ble_eq_true rfl, Nat.le_of_ble_eq_true rfl⟩ ⟨Nat.zero_le _, Nat.zero_le _⟩ (fun r h2 hF => ?_)
    obtain ⟨_, rfl, rfl, rfl⟩ := hF
    show wM p l e (wR 8) s m args below meth c 0 0 (wE below args s D dA b0 ad S0 F) 7 D dA b0 ad S0 23 [some (.ref 188), some (.int x0), some (.int x1), some (.int x2), none, none, none] [.int (wb yr23)] yh21
    refine w_if_eq X dX11_years_23 rfl (t := 35) rfl (fun hc => ?_) (fun hc => ?_)
    · have hf := wok_f hf (wb_0 hc)
      refine w_iconst X dX11_years_35 rfl ci_m1 ?_
      exact w_iret X dX11_years_36 hr (hT _ _ (wok_s hf))
    · have hf := wok_t hf (wb_n0 hc)
      refine w_iload_n X dX11_years_26 rfl rfl rfl ?_
      refine w_iconst X dX11_years_27 rfl ci_0 ?_
      refine w_iconst X dX11_years_28 rfl ci_2 ?_
      obtain ⟨yr24, eyr24, hf⟩ := wok_b hf
      refine w_callS X dX11_years_29 rfl sl_X11_265 (kX11_within l  eyr24) (As := [.int x2, .int 0, .int 2]) (st := []) rfl rfl (Nat.le_of_ble_eq_true rfl) ⟨Nat.le_of_ble_eq_true rfl, Nat.le_of_ble_eq_true rfl⟩ ⟨Nat.zero_le _, Nat.zero_le _⟩ (fun r h2 hF => ?_)
      obtain ⟨_, rfl, rfl, rfl⟩ := hF
      show wM p l e (wR 8) s m args below meth c 0 0 (wE below args s D dA b0 ad S0 F) 7 D dA b0 ad S0 32 [some (.ref 188), some (.int x0), some (.int x1), some (.int x2), none, none, none] [.int (wb yr24)] yh21
      refine w_if_ne X dX11_years_32 rfl (t := 37) rfl (fun hc => ?_) (fun hc => ?_)
      · have hf := wok_t hf (wb_n0 hc)
        refine w_aload_n X dX11_years_37 rfl rfl rfl ?_
        refine w_iload_n X dX11_years_38 rfl rfl rfl ?_
        refine w_i2l X dX11_years_39 rfl ?_
        refine w_putJ X dX11_years_40 rfl fp_X11_462 S0_188 rfl ?_
        refine w_nmh (fun yh25 eyh25 => ?_)
        have hf := wok_l hf eyh25
        refine w_aload_n X dX11_years_43 rfl rfl rfl ?_
        refine w_getR X dX11_years_44 rfl fl_X11_120 S0_188 rfl ?_
        refine w_iconst X dX11_years_47 rfl ci_0 ?_
        refine w_aload_n X dX11_years_48 rfl rfl rfl ?_
        refine w_getR X dX11_years_49 rfl fl_X11_123 S0_188 rfl ?_
        refine w_iconst X dX11_years_52 rfl ci_0 ?_
        obtain ⟨yr26, eyr26, hf⟩ := wok_b hf
        refine w_callS X dX11_years_53 rfl sl_X11_405 (kX11_copies l S0_225 S0_226 eyr26) (As := [.ref 225, .int 0, .ref 226, .int 0]) (st := []) rfl rfl (Nat.le_of_ble_eq_true rfl) ⟨Nat.le_of_ble_eq_true rfl, Nat.le_of_ble_eq_true rfl⟩ ⟨Nat.zero_le _, Nat.zero_le _⟩ (fun r h2 hF => ?_)
        obtain ⟨rfl, rfl⟩ := hF
        show wM p l e (wR 8) s m args below meth c 0 0 (wE below args s D dA b0 ad S0 F) 7 D dA b0 ad S0 56 [some (.ref 188), some (.int x0), some (.int x1), some (.int x2), none, none, none] [] yr26
        refine w_iconst X dX11_years_56 rfl ci_0 ?_
        refine w_istore X dX11_years_57 rfl rfl (Nat.le_of_ble_eq_true rfl) (ls' := [some (.ref 188), some (.int x0), some (.int x1), some (.int x2), some (.int 0), none, none]) rfl ?_
        refine w_iconst X dX11_years_59 rfl ci_0 ?_
        refine w_istore X dX11_years_60 rfl rfl (Nat.le_of_ble_eq_true rfl) (ls' := [some (.ref 188), some (.int x0), some (.int x1), some (.int x2), some (.int 0), some (.int 0), none]) rfl ?_
        refine w_fg (ls2 := [some (.ref 188), none, some (.int x1), some (.int x2), some (.int 0), some (.int 0), none]) ⟨rfl, rfl, rfl, rfl, rfl, trivial⟩ ?_
        obtain ⟨ye28, hye28, hf⟩ := wok_b hf
        refine pX11_years_l62 X hr  (KE := fun z => ye28 = z) ?_ 3000 _ _ _ ⟨ye28, hye28, rfl⟩
        · intro yz29 yz30 hz
          subst hz
          refine w_aload_n X dX11_years_91 rfl rfl rfl ?_
          obtain ⟨yr31, eyr31, hf⟩ := wok_b hf
          refine w_callV X dX11_years_92 rfl vl_X11_390 (kX11_wholeNow l  eyr31) S0_188 (As := []) (st := []) rfl rfl (Nat.le_of_ble_eq_true rfl) ⟨Nat.le_of_ble_eq_true rfl, Nat.le_of_ble_eq_true rfl⟩ ⟨Nat.zero_le _, Nat.zero_le _⟩ (fun r h2 hF => ?_)
          obtain ⟨_, rfl, rfl, rfl⟩ := hF
          show wM p l e (wR 8) s m args below meth c 0 0 (wE below args s D dA b0 ad S0 F) 7 D dA b0 ad S0 95 [some (.ref 188), none, none, some (.int x2), some (.int yz29), none, none] [.int yr31.1] yr31.2
          refine w_istore X dX11_years_95 rfl rfl (Nat.le_of_ble_eq_true rfl) (ls' := [some (.ref 188), none, none, some (.int x2), some (.int yz29), some (.int yr31.1), none]) rfl ?_
          refine w_aload_n X dX11_years_97 rfl rfl rfl ?_
          obtain ⟨yr32, eyr32, hf⟩ := wok_b hf
          refine w_callV X dX11_years_98 rfl vl_X11_479 (kX11_allThick l  eyr32) S0_188 (As := []) (st := []) rfl rfl (Nat.le_of_ble_eq_true rfl) ⟨Nat.le_of_ble_eq_true rfl, Nat.le_of_ble_eq_true rfl⟩ ⟨Nat.zero_le _, Nat.zero_le _⟩ (fun r h2 hF => ?_)
          obtain ⟨_, rfl, rfl, rfl⟩ := hF
          show wM p l e (wR 8) s m args below meth c 0 0 (wE below args s D dA b0 ad S0 F) 7 D dA b0 ad S0 101 [some (.ref 188), none, none, some (.int x2), some (.int yz29), some (.int yr31.1), none] [.int yr32] yr31.2
          refine w_istore X dX11_years_101 rfl rfl (Nat.le_of_ble_eq_true rfl) (ls' := [some (.ref 188), none, none, some (.int x2), some (.int yz29), some (.int yr31.1), some (.int yr32)]) rfl ?_
          refine w_aload_n X dX11_years_103 rfl rfl rfl ?_
          refine w_getR X dX11_years_104 rfl fl_X11_123 S0_188 rfl ?_
          refine w_iconst X dX11_years_107 rfl ci_0 ?_
          refine w_aload_n X dX11_years_108 rfl rfl rfl ?_
          refine w_getR X dX11_years_109 rfl fl_X11_120 S0_188 rfl ?_
          refine w_iconst X dX11_years_112 rfl ci_0 ?_
          obtain ⟨yr33, eyr33, hf⟩ := wok_b hf
          refine w_callS X dX11_years_113 rfl sl_X11_405 (kX11_copies l S0_226 S0_225 eyr33) (As := [.ref 226, .int 0, .ref 225, .int 0]) (st := []) rfl rfl (Nat.le_of_ble_eq_true rfl) ⟨Nat.le_of_ble_eq_true rfl, Nat.le_of_ble_eq_true rfl⟩ ⟨Nat.zero_le _, Nat.zero_le _⟩ (fun r h2 hF => ?_)
          obtain ⟨rfl, rfl⟩ := hF
          show wM p l e (wR 8) s m args below meth c 0 0 (wE below args s D dA b0 ad S0 F) 7 D dA b0 ad S0 116 [some (.ref 188), none, none, some (.int x2), some (.int yz29), some (.int yr31.1), some (.int yr32)] [] yr33
          refine w_iload_n X dX11_years_116 rfl rfl rfl ?_
          refine w_if_ne X dX11_years_117 rfl (t := 125) rfl (fun hc => ?_) (fun hc => ?_)
          · have hf := wok_f hf hc
            refine w_iload_n X dX11_years_125 rfl rfl rfl ?_
            refine w_iconst X dX11_years_126 rfl ci_1 ?_
            refine w_icmp_ne X dX11_years_127 rfl (t := 135) rfl (fun hc => ?_) (fun hc => ?_)
            · have hf := wok_f hf hc
              refine w_iload X dX11_years_135 rfl rfl ?_
              exact w_iret X dX11_years_137 hr (hT _ _ (wok_s hf))
            · have hf := wok_t hf hc
              refine w_iload X dX11_years_130 rfl rfl ?_
              refine w_goto X dX11_years_132 (t := 137) rfl ?_
              exact w_iret X dX11_years_137 hr (hT _ _ (wok_s hf))
          · have hf := wok_t hf hc
            refine w_iload X dX11_years_120 rfl rfl ?_
            refine w_goto X dX11_years_122 (t := 137) rfl ?_
            exact w_iret X dX11_years_137 hr (hT _ _ (wok_s hf))
      · have hf := wok_f hf (wb_0 hc)
        refine w_iconst X dX11_years_35 rfl ci_m1 ?_
        exact w_iret X dX11_years_36 hr (hT _ _ (wok_s hf))
set_option maxRecDepth 4000 in
theorem kX11_years (l : Launch) {h : wSt} {x0 : Int32} {x1 : Int32} {x2 : Int32} {res : Int32 × wSt} (hf : fX11_years h x0 x1 x2 = some res) : wC l yX11_years cX11_years 7 (some .int) 8 S0 [.ref 188, .int x0, .int x1, .int x2] h (wFI (fun a b => res.1 = a ∧ res.2 = b)) := by
  refine w_meth2 3 (by decide) (Nat.le_of_ble_eq_true rfl) (ls := [some (.ref 188), some (.int x0), some (.int x1), some (.int x2), none, none, none]) rfl ?_
  intro p e s m args below meth c D dA b0 ad X hr
  exact pX11_years_b0 X hr  (K := fun z => res = z) (fun x h2 hz => ⟨x, rfl, by rw [hz], by rw [hz]⟩) ⟨res, hf, rfl⟩
set_option maxRecDepth 4000 in
theorem pX11_mark_b59 (X : wCx p s m args meth c RX11 cX11_mark 5 D dA b0 ad) (hr : meth.sig.returnType = (some .boolean)) {h : wSt} {v1 : Int32} {v2 : Int32} {v3 : Int32} {w0 : Int32} {K : Bool × wSt → Prop} (hT : ∀ (x : Bool) (h2 : wSt), K (x, h2) → F (some (.int (wb x))) h2)  (hf : wok (fX11_mark_b59 h v1 v2 v3 w0) K) : wM p l e (wR 2) s m args below meth c 0 0 (wE below args s D dA b0 ad S0 F) 5 D dA b0 ad S0 59 [some (.ref 188), some (.int v1), some (.int v2), some (.int v3), none] [.int w0] h := by
  unfold fX11_mark_b59 at hf
  refine w_istore X dX11_mark_59 rfl rfl (Nat.le_of_ble_eq_true rfl) (ls' := [some (.ref 188), some (.int v1), some (.int v2), some (.int v3), some (.int w0)]) rfl ?_
  refine w_aload_n X dX11_mark_61 rfl rfl rfl ?_
  refine w_iload_n X dX11_mark_62 rfl rfl rfl ?_
  refine w_iload X dX11_mark_63 rfl rfl ?_
  obtain ⟨yr25, eyr25, hf⟩ := wok_b hf
  refine w_callV X dX11_mark_65 rfl vl_X11_349 (kX11_laysLines l  eyr25) S0_188 (As := [.int v3, .int w0]) (st := []) rfl rfl (Nat.le_of_ble_eq_true rfl) ⟨Nat.le_of_ble_eq_true rfl, Nat.le_of_ble_eq_true rfl⟩ ⟨Nat.zero_le _, Nat.zero_le _⟩ (fun r h2 hF => ?_)
  obtain ⟨rfl, rfl⟩ := hF
  show wM p l e (wR 2) s m args below meth c 0 0 (wE below args s D dA b0 ad S0 F) 5 D dA b0 ad S0 68 [some (.ref 188), some (.int v1), some (.int v2), some (.int v3), some (.int w0)] [] yr25
  refine w_aload_n X dX11_mark_68 rfl rfl rfl ?_
  refine w_iload_n X dX11_mark_69 rfl rfl rfl ?_
  refine w_iload X dX11_mark_70 rfl rfl ?_
  obtain ⟨yr26, eyr26, hf⟩ := wok_b hf
  refine w_callV X dX11_mark_72 rfl vl_X11_482 (kX11_laysSeen l  eyr26) S0_188 (As := [.int v3, .int w0]) (st := []) rfl rfl (Nat.le_of_ble_eq_true rfl) ⟨Nat.le_of_ble_eq_true rfl, Nat.le_of_ble_eq_true rfl⟩ ⟨Nat.zero_le _, Nat.zero_le _⟩ (fun r h2 hF => ?_)
  obtain ⟨rfl, rfl⟩ := hF
  show wM p l e (wR 2) s m args below meth c 0 0 (wE below args s D dA b0 ad S0 F) 5 D dA b0 ad S0 75 [some (.ref 188), some (.int v1), some (.int v2), some (.int v3), some (.int w0)] [] yr26
  refine w_iload_n X dX11_mark_75 rfl rfl rfl ?_
  refine w_if_eq X dX11_mark_76 rfl (t := 103) rfl (fun hc => ?_) (fun hc => ?_)
  · have hf := wok_t hf hc
    refine w_aload_n X dX11_mark_103 rfl rfl rfl ?_
    refine w_getR X dX11_mark_104 rfl fl_X11_120 S0_188 rfl ?_
    refine w_iconst X dX11_mark_107 rfl ci_0 ?_
    refine w_aload_n X dX11_mark_108 rfl rfl rfl ?_
    refine w_getR X dX11_mark_109 rfl fl_X11_129 S0_188 rfl ?_
    refine w_bipush X dX11_mark_112 rfl cb_25 ?_
    refine w_iload_n X dX11_mark_114 rfl rfl rfl ?_
    refine w_imul X dX11_mark_115 rfl ?_
    obtain ⟨yr27, eyr27, hf⟩ := wok_b hf
    refine w_callS X dX11_mark_116 rfl sl_X11_405 (kX11_copies l S0_225 S0_228 eyr27) (As := [.ref 225, .int 0, .ref 228, .int (25 * v1)]) (st := []) rfl rfl (Nat.le_of_ble_eq_true rfl) ⟨Nat.le_of_ble_eq_true rfl, Nat.le_of_ble_eq_true rfl⟩ ⟨Nat.zero_le _, Nat.zero_le _⟩ (fun r h2 hF => ?_)
    obtain ⟨rfl, rfl⟩ := hF
    show wM p l e (wR 2) s m args below meth c 0 0 (wE below args s D dA b0 ad S0 F) 5 D dA b0 ad S0 119 [some (.ref 188), some (.int v1), some (.int v2), some (.int v3), some (.int w0)] [] yr27
    refine w_iconst X dX11_mark_119 rfl ci_1 ?_
    exact w_zret X dX11_mark_120 hr rfl (hT true _ (wok_s hf))
  · have hf := wok_f hf hc
    refine w_aload_n X dX11_mark_79 rfl rfl rfl ?_
    refine w_getR X dX11_mark_80 rfl fl_X11_129 S0_188 rfl ?_
    refine w_bipush X dX11_mark_83 rfl cb_25 ?_
    refine w_iload_n X dX11_mark_85 rfl rfl rfl ?_
    refine w_imul X dX11_mark_86 rfl ?_
    refine w_aload_n X dX11_mark_87 rfl rfl rfl ?_
    refine w_getR X dX11_mark_88 rfl fl_X11_120 S0_188 rfl ?_
    refine w_iconst X dX11_mark_91 rfl ci_0 ?_
    obtain ⟨yr28, eyr28, hf⟩ := wok_b hf
    refine w_callS X dX11_mark_92 rfl sl_X11_405 (kX11_copies l S0_228 S0_225 eyr28) (As := [.ref 228, .int (25 * v1), .ref 225, .int 0]) (st := []) rfl rfl (Nat.le_of_ble_eq_true rfl) ⟨Nat.le_of_ble_eq_true rfl, Nat.le_of_ble_eq_true rfl⟩ ⟨Nat.zero_le _, Nat.zero_le _⟩ (fun r h2 hF => ?_)
    obtain ⟨rfl, rfl⟩ := hF
    show wM p l e (wR 2) s m args below meth c 0 0 (wE below args s D dA b0 ad S0 F) 5 D dA b0 ad S0 95 [some (.ref 188), some (.int v1), some (.int v2), some (.int v3), some (.int w0)] [] yr28
    refine w_aload_n X dX11_mark_95 rfl rfl rfl ?_
    refine w_iconst X dX11_mark_96 rfl ci_0 ?_
    refine w_putI X dX11_mark_97 rfl fp_X11_343 S0_188 rfl ?_
    refine w_nmh (fun yh29 eyh29 => ?_)
    have hf := wok_l hf eyh29
    refine w_goto X dX11_mark_100 (t := 119) rfl ?_
    refine w_iconst X dX11_mark_119 rfl ci_1 ?_
    exact w_zret X dX11_mark_120 hr rfl (hT true _ (wok_s hf))
set_option maxRecDepth 4000 in
theorem pX11_mark_b47 (X : wCx p s m args meth c RX11 cX11_mark 5 D dA b0 ad) (hr : meth.sig.returnType = (some .boolean)) {h : wSt} {v1 : Int32} {v2 : Int32} {w0 : Int32} {K : Bool × wSt → Prop} (hT : ∀ (x : Bool) (h2 : wSt), K (x, h2) → F (some (.int (wb x))) h2)  (hf : wok (fX11_mark_b47 h v1 v2 w0) K) : wM p l e (wR 2) s m args below meth c 0 0 (wE below args s D dA b0 ad S0 F) 5 D dA b0 ad S0 47 [some (.ref 188), some (.int v1), some (.int v2), none, none] [.int w0] h := by
  unfold fX11_mark_b47 at hf
  refine w_istore_n X dX11_mark_47 rfl rfl rfl (Nat.le_of_ble_eq_true rfl) (ls' := [some (.ref 188), some (.int v1), some (.int v2), some (.int w0), none]) rfl ?_
  refine w_iload_n X dX11_mark_48 rfl rfl rfl ?_
  refine w_if_eq X dX11_mark_49 rfl (t := 56) rfl (fun hc => ?_) (fun hc => ?_)
  · have hf := wok_t hf hc
    refine w_iconst X dX11_mark_56 rfl ci_1 ?_
    refine w_iload_n X dX11_mark_57 rfl rfl rfl ?_
    refine w_iadd X dX11_mark_58 rfl ?_
    exact pX11_mark_b59 X hr  hT hf
  · have hf := wok_f hf hc
    refine w_iconst X dX11_mark_52 rfl ci_0 ?_
    refine w_goto X dX11_mark_53 (t := 59) rfl ?_
    exact pX11_mark_b59 X hr  hT hf
set_option maxRecDepth 4000 in
theorem pX11_mark_b29 (X : wCx p s m args meth c RX11 cX11_mark 5 D dA b0 ad) (hr : meth.sig.returnType = (some .boolean)) {h : wSt} {v1 : Int32} {v2 : Int32} {K : Bool × wSt → Prop} (hT : ∀ (x : Bool) (h2 : wSt), K (x, h2) → F (some (.int (wb x))) h2)  (hf : wok (fX11_mark_b29 h v1 v2) K) : wM p l e (wR 2) s m args below meth c 0 0 (wE below args s D dA b0 ad S0 F) 5 D dA b0 ad S0 29 [some (.ref 188), some (.int v1), some (.int v2), none, none] [] h := by
  unfold fX11_mark_b29 at hf
  refine w_aload_n X dX11_mark_29 rfl rfl rfl ?_
  refine w_getR X dX11_mark_30 rfl fl_X11_135 S0_188 rfl ?_
  refine w_iload_n X dX11_mark_33 rfl rfl rfl ?_
  refine w_iconst X dX11_mark_34 rfl ci_1 ?_
  obtain ⟨yhg23, hf⟩ := wok_g hf
  refine w_zast X dX11_mark_35 rfl (j := v1.toNatClampNeg) rfl S0_230 yhg23 ?_
  refine w_nmh (fun yh24 eyh24 => ?_)
  have hf := wok_l hf eyh24
  refine w_iload_n X dX11_mark_36 rfl rfl rfl ?_
  refine w_if_eq X dX11_mark_37 rfl (t := 46) rfl (fun hc => ?_) (fun hc => ?_)
  · have hf := wok_t hf hc
    refine w_iconst X dX11_mark_46 rfl ci_0 ?_
    exact pX11_mark_b47 X hr  hT hf
  · have hf := wok_f hf hc
    refine w_iconst X dX11_mark_40 rfl ci_1 ?_
    refine w_iload_n X dX11_mark_41 rfl rfl rfl ?_
    refine w_iadd X dX11_mark_42 rfl ?_
    refine w_goto X dX11_mark_43 (t := 47) rfl ?_
    exact pX11_mark_b47 X hr  hT hf
set_option maxRecDepth 4000 in
theorem pX11_mark_b0 (X : wCx p s m args meth c RX11 cX11_mark 5 D dA b0 ad) (hr : meth.sig.returnType = (some .boolean)) {h : wSt} {x0 : Int32} {x1 : Int32} {K : Bool × wSt → Prop} (hT : ∀ (x : Bool) (h2 : wSt), K (x, h2) → F (some (.int (wb x))) h2) (hf : wok (fX11_mark h x0 x1) K) : wM p l e (wR 2) s m args below meth c 0 0 (wE below args s D dA b0 ad S0 F) 5 D dA b0 ad S0 0 [some (.ref 188), some (.int x0), some (.int x1), none, none] [] h := by
  unfold fX11_mark at hf
  refine w_aload_n X dX11_mark_0 rfl rfl rfl ?_
  refine w_iconst X dX11_mark_1 rfl ci_0 ?_
  refine w_putI X dX11_mark_2 rfl fp_X11_144 S0_188 rfl ?_
  refine w_nmh (fun yh21 eyh21 => ?_)
  have hf := wok_l hf eyh21
  refine w_iload_n X dX11_mark_5 rfl rfl rfl ?_
  refine w_iconst X dX11_mark_6 rfl ci_0 ?_
  refine w_iconst X dX11_mark_7 rfl ci_3 ?_
  obtain ⟨yr22, eyr22, hf⟩ := wok_b hf
  refine w_callS X dX11_mark_8 rfl sl_X11_265 (kX11_within l  eyr22) (As := [.int x0, .int 0, .int 3]) (st := []) rfl rfl (Nat.le_of_ble_eq_true rfl) ⟨Nat.le_of_ble_eq_true rfl, Nat.le_of_ble_eq_true rfl⟩ ⟨Nat.zero_le _, Nat.zero_le _⟩ (fun r h2 hF => ?_)
  obtain ⟨_, rfl, rfl, rfl⟩ := hF
  show wM p l e (wR 2) s m args below meth c 0 0 (wE below args s D dA b0 ad S0 F) 5 D dA b0 ad S0 11 [some (.ref 188), some (.int x0), some (.int x1), none, none] [.int (wb yr22)] yh21
  refine w_if_eq X dX11_mark_11 rfl (t := 27) rfl (fun hc => ?_) (fun hc => ?_)
  · have hf := wok_f hf (wb_0 hc)
    refine w_iconst X dX11_mark_27 rfl ci_0 ?_
    exact w_zret X dX11_mark_28 hr rfl (hT false _ (wok_s hf))
  · have hf := wok_t hf (wb_n0 hc)
    refine w_iload_n X dX11_mark_14 rfl rfl rfl ?_
    refine w_if_eq X dX11_mark_15 rfl (t := 29) rfl (fun hc => ?_) (fun hc => ?_)
    · have hf := wok_t hf hc
      exact pX11_mark_b29 X hr  hT hf
    · have hf := wok_f hf hc
      refine w_aload_n X dX11_mark_18 rfl rfl rfl ?_
      refine w_getR X dX11_mark_19 rfl fl_X11_135 S0_188 rfl ?_
      refine w_iload_n X dX11_mark_22 rfl rfl rfl ?_
      obtain ⟨yhg30, hf⟩ := wok_g hf
      refine w_zald X dX11_mark_23 rfl (j := x0.toNatClampNeg) rfl S0_230 yhg30 ?_
      refine w_if_ne X dX11_mark_24 rfl (t := 29) rfl (fun hc => ?_) (fun hc => ?_)
      · have hf := wok_f hf hc
        exact pX11_mark_b29 X hr  hT hf
      · have hf := wok_t hf hc
        refine w_iconst X dX11_mark_27 rfl ci_0 ?_
        exact w_zret X dX11_mark_28 hr rfl (hT false _ (wok_s hf))
set_option maxRecDepth 4000 in
theorem kX11_mark (l : Launch) {h : wSt} {x0 : Int32} {x1 : Int32} {res : Bool × wSt} (hf : fX11_mark h x0 x1 = some res) : wC l yX11_mark cX11_mark 5 (some .boolean) 2 S0 [.ref 188, .int x0, .int x1] h (wFZ (fun a b => res.1 = a ∧ res.2 = b)) := by
  refine w_meth2 2 (by decide) (Nat.le_of_ble_eq_true rfl) (ls := [some (.ref 188), some (.int x0), some (.int x1), none, none]) rfl ?_
  intro p e s m args below meth c D dA b0 ad X hr
  exact pX11_mark_b0 X hr  (K := fun z => res = z) (fun x h2 hz => ⟨x, rfl, by rw [hz], by rw [hz]⟩) ⟨res, hf, rfl⟩
set_option maxRecDepth 4000 in
theorem pX11_allLayers_l4b (X : wCx p s m args meth c RX11 cX11_allLayers 3 D dA b0 ad) (hr : meth.sig.returnType = (some .int)) {h : wSt} {v1 : Int32} {v2 : Int32} {K : (Int32 × Int32) ⊕ ((Int32)) → Prop} (hN : ∀ (n1 : Int32) (n2 : Int32), K (.inl (n1, n2)) → wM p l e (wR 2) s m args below meth c 0 0 (wE below args s D dA b0 ad S0 F) 3 D dA b0 ad S0 4 [some (.ref 188), some (.int n1), some (.int n2)] [] h) (hX0 : ∀ (n1 : Int32), K (.inr n1) → wM p l e (wR 2) s m args below meth c 0 0 (wE below args s D dA b0 ad S0 F) 3 D dA b0 ad S0 31 [none, some (.int n1), none] [] h) (hf : wok (fX11_allLayers_l4 h v1 v2) K) : wM p l e (wR 2) s m args below meth c 0 0 (wE below args s D dA b0 ad S0 F) 3 D dA b0 ad S0 4 [some (.ref 188), some (.int v1), some (.int v2)] [] h := by
  unfold fX11_allLayers_l4 at hf
  refine w_iload_n X dX11_allLayers_4 rfl rfl rfl ?_
  refine w_bipush X dX11_allLayers_5 rfl cb_18 ?_
  refine w_icmp_ge X dX11_allLayers_7 rfl (t := 31) rfl (fun hc => ?_) (fun hc => ?_)
  · have hf := wok_t hf hc
    refine w_fg (ls2 := [none, some (.int v1), none]) ⟨rfl, trivial⟩ ?_
    exact hX0 _ (wok_s hf)
  · have hf := wok_f hf hc
    refine w_iload_n X dX11_allLayers_10 rfl rfl rfl ?_
    refine w_aload_n X dX11_allLayers_11 rfl rfl rfl ?_
    refine w_getR X dX11_allLayers_12 rfl fl_X11_120 S0_188 rfl ?_
    refine w_bipush X dX11_allLayers_15 rfl cb_7 ?_
    refine w_iload_n X dX11_allLayers_17 rfl rfl rfl ?_
    refine w_iadd X dX11_allLayers_18 rfl ?_
    obtain ⟨yhg21, hf⟩ := wok_g hf
    refine w_iald X dX11_allLayers_19 rfl (j := (7 + v2).toNatClampNeg) rfl S0_225 yhg21 ?_
    obtain ⟨yr22, eyr22, hf⟩ := wok_b hf
    refine w_callS X dX11_allLayers_20 rfl sl_X11_399 (kX11_deepOf l  eyr22) (As := [.int (h.1 225 (7 + v2).toNatClampNeg)]) (st := [.int v1]) rfl rfl (Nat.le_of_ble_eq_true rfl) ⟨Nat.le_of_ble_eq_true rfl, Nat.le_of_ble_eq_true rfl⟩ ⟨Nat.zero_le _, Nat.zero_le _⟩ (fun r h2 hF => ?_)
    obtain ⟨_, rfl, rfl, rfl⟩ := hF
    show wM p l e (wR 2) s m args below meth c 0 0 (wE below args s D dA b0 ad S0 F) 3 D dA b0 ad S0 23 [some (.ref 188), some (.int v1), some (.int v2)] [.int yr22, .int v1] h
    refine w_iadd X dX11_allLayers_23 rfl ?_
    refine w_istore_n X dX11_allLayers_24 rfl rfl rfl (Nat.le_of_ble_eq_true rfl) (ls' := [some (.ref 188), some (.int (v1 + yr22)), some (.int v2)]) rfl ?_
    refine w_iinc X dX11_allLayers_25 rfl (v := (v2 + 1)) rfl rfl (Nat.le_of_ble_eq_true rfl) (cinc_1 _) (ls' := [some (.ref 188), some (.int (v1 + yr22)), some (.int (v2 + 1))]) rfl ?_
    refine w_goto X dX11_allLayers_28 (t := 4) rfl ?_
    exact hN _ _ (wok_s hf)
set_option maxRecDepth 4000 in
theorem pX11_allLayers_l4 (X : wCx p s m args meth c RX11 cX11_allLayers 3 D dA b0 ad) (hr : meth.sig.returnType = (some .int)) {h : wSt} {KE : (Int32) → Prop} (hX0 : ∀ (n1 : Int32), KE (n1) → wM p l e (wR 2) s m args below meth c 0 0 (wE below args s D dA b0 ad S0 F) 3 D dA b0 ad S0 31 [none, some (.int n1), none] [] h) : ∀ (n : Nat) (v1 : Int32) (v2 : Int32), wok (wit (fun v : (Int32 × Int32) => fX11_allLayers_l4 h v.1 v.2) n (v1, v2)) KE → wM p l e (wR 2) s m args below meth c 0 0 (wE below args s D dA b0 ad S0 F) 3 D dA b0 ad S0 4 [some (.ref 188), some (.int v1), some (.int v2)] [] h := by
  have key := wit_M (b := (fun v : (Int32 × Int32) => fX11_allLayers_l4 h v.1 v.2)) (KE := KE) (G := fun v => wM p l e (wR 2) s m args below meth c 0 0 (wE below args s D dA b0 ad S0 F) 3 D dA b0 ad S0 4 [some (.ref 188), some (.int v.1), some (.int v.2)] [] h) (fun v K hN hE hf => pX11_allLayers_l4b X hr  (fun n1 n2 hz => hN (n1, n2) hz) (fun z0 hz => hX0 z0 (hE _ hz)) hf)
  exact fun n v1 v2 hf => key n (v1, v2) hf
set_option maxRecDepth 4000 in
theorem pX11_allLayers_b0 (X : wCx p s m args meth c RX11 cX11_allLayers 3 D dA b0 ad) (hr : meth.sig.returnType = (some .int)) {h : wSt} {K : Int32 → Prop} (hT : ∀ (x : Int32), K x → F (some (.int x)) h) (hf : wok (fX11_allLayers h ) K) : wM p l e (wR 2) s m args below meth c 0 0 (wE below args s D dA b0 ad S0 F) 3 D dA b0 ad S0 0 [some (.ref 188), none, none] [] h := by
  unfold fX11_allLayers at hf
  refine w_iconst X dX11_allLayers_0 rfl ci_0 ?_
  refine w_istore_n X dX11_allLayers_1 rfl rfl rfl (Nat.le_of_ble_eq_true rfl) (ls' := [some (.ref 188), some (.int 0), none]) rfl ?_
  refine w_iconst X dX11_allLayers_2 rfl ci_0 ?_
  refine w_istore_n X dX11_allLayers_3 rfl rfl rfl (Nat.le_of_ble_eq_true rfl) (ls' := [some (.ref 188), some (.int 0), some (.int 0)]) rfl ?_
  obtain ⟨ye23, hye23, hf⟩ := wok_b hf
  refine pX11_allLayers_l4 X hr  (KE := fun z => ye23 = z) ?_ 3000 _ _ ⟨ye23, hye23, rfl⟩
  · intro yz24 hz
    subst hz
    refine w_iload_n X dX11_allLayers_31 rfl rfl rfl ?_
    exact w_iret X dX11_allLayers_32 hr (hT _ (wok_s hf))
set_option maxRecDepth 4000 in
theorem kX11_allLayers (l : Launch) {h : wSt} {res : Int32} (hf : fX11_allLayers h  = some res) : wC l yX11_allLayers cX11_allLayers 3 (some .int) 2 S0 [.ref 188] h (wFI (fun a b => res = a ∧ h = b)) := by
  refine w_meth2 2 (by decide) (Nat.le_of_ble_eq_true rfl) (ls := [some (.ref 188), none, none]) rfl ?_
  intro p e s m args below meth c D dA b0 ad X hr
  exact pX11_allLayers_b0 X hr  (K := fun z => res = z) (fun x hz => ⟨x, rfl, hz, rfl⟩) ⟨res, hf, rfl⟩
set_option maxRecDepth 4000 in
theorem pX11_count_b0 (X : wCx p s m args meth c RX11 cX11_count 2 D dA b0 ad) (hr : meth.sig.returnType = (some .int)) {h : wSt} {x0 : Int32} {K : Int32 × wSt → Prop} (hT : ∀ (x : Int32) (h2 : wSt), K (x, h2) → F (some (.int x)) h2) (hf : wok (fX11_count h x0) K) : wM p l e (wR 8) s m args below meth c 0 0 (wE below args s D dA b0 ad S0 F) 2 D dA b0 ad S0 0 [some (.ref 188), some (.int x0)] [] h := by
  unfold fX11_count at hf
  refine w_aload_n X dX11_count_0 rfl rfl rfl ?_
  refine w_iconst X dX11_count_1 rfl ci_0 ?_
  refine w_putI X dX11_count_2 rfl fp_X11_144 S0_188 rfl ?_
  refine w_nmh (fun yh21 eyh21 => ?_)
  have hf := wok_l hf eyh21
  refine w_iload_n X dX11_count_5 rfl rfl rfl ?_
  refine w_iconst X dX11_count_6 rfl ci_0 ?_
  refine w_bipush X dX11_count_7 rfl cb_11 ?_
  obtain ⟨yr22, eyr22, hf⟩ := wok_b hf
  refine w_callS X dX11_count_9 rfl sl_X11_265 (kX11_within l  eyr22) (As := [.int x0, .int 0, .int 11]) (st := []) rfl rfl (Nat.le_of_ble_eq_true rfl) ⟨Nat.le_of_ble_eq_true rfl, Nat.le_of_ble_eq_true rfl⟩ ⟨Nat.zero_le _, Nat.zero_le _⟩ (fun r h2 hF => ?_)
  obtain ⟨_, rfl, rfl, rfl⟩ := hF
  show wM p l e (wR 8) s m args below meth c 0 0 (wE below args s D dA b0 ad S0 F) 2 D dA b0 ad S0 12 [some (.ref 188), some (.int x0)] [.int (wb yr22)] yh21
  refine w_if_ne X dX11_count_12 rfl (t := 17) rfl (fun hc => ?_) (fun hc => ?_)
  · have hf := wok_t hf (wb_n0 hc)
    refine w_iload_n X dX11_count_17 rfl rfl rfl ?_
    refine w_iconst X dX11_count_18 rfl ci_2 ?_
    refine w_icmp_ge X dX11_count_19 rfl (t := 29) rfl (fun hc => ?_) (fun hc => ?_)
    · have hf := wok_t hf hc
      refine w_iload_n X dX11_count_29 rfl rfl rfl ?_
      refine w_iconst X dX11_count_30 rfl ci_5 ?_
      refine w_icmp_ge X dX11_count_31 rfl (t := 71) rfl (fun hc => ?_) (fun hc => ?_)
      · have hf := wok_t hf hc
        refine w_iload_n X dX11_count_71 rfl rfl rfl ?_
        refine w_bipush X dX11_count_72 rfl cb_8 ?_
        refine w_icmp_ge X dX11_count_74 rfl (t := 107) rfl (fun hc => ?_) (fun hc => ?_)
        · have hf := wok_t hf hc
          refine w_iload_n X dX11_count_107 rfl rfl rfl ?_
          refine w_bipush X dX11_count_108 rfl cb_10 ?_
          refine w_icmp_ge X dX11_count_110 rfl (t := 135) rfl (fun hc => ?_) (fun hc => ?_)
          · have hf := wok_t hf hc
            refine w_iload_n X dX11_count_135 rfl rfl rfl ?_
            refine w_bipush X dX11_count_136 rfl cb_10 ?_
            refine w_icmp_ne X dX11_count_138 rfl (t := 148) rfl (fun hc => ?_) (fun hc => ?_)
            · have hf := wok_f hf hc
              refine w_aload_n X dX11_count_148 rfl rfl rfl ?_
              refine w_getI X dX11_count_149 rfl fl_X11_150 S0_188 rfl ?_
              exact w_iret X dX11_count_152 hr (hT _ _ (wok_s hf))
            · have hf := wok_t hf hc
              refine w_aload_n X dX11_count_141 rfl rfl rfl ?_
              refine w_getI X dX11_count_142 rfl fl_X11_343 S0_188 rfl ?_
              refine w_goto X dX11_count_145 (t := 152) rfl ?_
              exact w_iret X dX11_count_152 hr (hT _ _ (wok_s hf))
          · have hf := wok_f hf hc
            refine w_iload_n X dX11_count_113 rfl rfl rfl ?_
            refine w_bipush X dX11_count_114 rfl cb_8 ?_
            refine w_icmp_ne X dX11_count_116 rfl (t := 128) rfl (fun hc => ?_) (fun hc => ?_)
            · have hf := wok_f hf hc
              refine w_aload_n X dX11_count_128 rfl rfl rfl ?_
              refine w_getR X dX11_count_129 rfl fl_X11_105 S0_188 rfl ?_
              refine w_iconst X dX11_count_132 rfl ci_0 ?_
              refine w_iald X dX11_count_133 rfl (j := 0) cn_0 S0_220 (show wib 0 5 by decide) ?_
              exact w_iret X dX11_count_134 hr (hT _ _ (wok_s hf))
            · have hf := wok_t hf hc
              refine w_aload_n X dX11_count_119 rfl rfl rfl ?_
              refine w_getR X dX11_count_120 rfl fl_X11_90 S0_188 rfl ?_
              refine w_iconst X dX11_count_123 rfl ci_0 ?_
              refine w_iald X dX11_count_124 rfl (j := 0) cn_0 S0_215 (show wib 0 6 by decide) ?_
              refine w_goto X dX11_count_125 (t := 134) rfl ?_
              exact w_iret X dX11_count_134 hr (hT _ _ (wok_s hf))
        · have hf := wok_f hf hc
          refine w_iload_n X dX11_count_77 rfl rfl rfl ?_
          refine w_iconst X dX11_count_78 rfl ci_5 ?_
          refine w_icmp_ne X dX11_count_79 rfl (t := 89) rfl (fun hc => ?_) (fun hc => ?_)
          · have hf := wok_f hf hc
            refine w_iload_n X dX11_count_89 rfl rfl rfl ?_
            refine w_bipush X dX11_count_90 rfl cb_6 ?_
            refine w_icmp_ne X dX11_count_92 rfl (t := 102) rfl (fun hc => ?_) (fun hc => ?_)
            · have hf := wok_f hf hc
              refine w_aload_n X dX11_count_102 rfl rfl rfl ?_
              obtain ⟨yr23, eyr23, hf⟩ := wok_b hf
              refine w_callV X dX11_count_103 rfl vl_X11_390 (kX11_wholeNow l  eyr23) S0_188 (As := []) (st := []) rfl rfl (Nat.le_of_ble_eq_true rfl) ⟨Nat.le_of_ble_eq_true rfl, Nat.le_of_ble_eq_true rfl⟩ ⟨Nat.zero_le _, Nat.zero_le _⟩ (fun r h2 hF => ?_)
              obtain ⟨_, rfl, rfl, rfl⟩ := hF
              show wM p l e (wR 8) s m args below meth c 0 0 (wE below args s D dA b0 ad S0 F) 2 D dA b0 ad S0 106 [some (.ref 188), some (.int x0)] [.int yr23.1] yr23.2
              exact w_iret X dX11_count_106 hr (hT _ _ (wok_s hf))
            · have hf := wok_t hf hc
              refine w_aload_n X dX11_count_95 rfl rfl rfl ?_
              obtain ⟨yr24, eyr24, hf⟩ := wok_b hf
              refine w_callV X dX11_count_96 rfl vl_X11_485 (kX11_allLayers l  eyr24) S0_188 (As := []) (st := []) rfl rfl (Nat.le_of_ble_eq_true rfl) ⟨Nat.le_of_ble_eq_true rfl, Nat.le_of_ble_eq_true rfl⟩ ⟨Nat.zero_le _, Nat.zero_le _⟩ (fun r h2 hF => ?_)
              obtain ⟨_, rfl, rfl, rfl⟩ := hF
              show wM p l e (wR 8) s m args below meth c 0 0 (wE below args s D dA b0 ad S0 F) 2 D dA b0 ad S0 99 [some (.ref 188), some (.int x0)] [.int yr24] yh21
              refine w_goto X dX11_count_99 (t := 106) rfl ?_
              exact w_iret X dX11_count_106 hr (hT _ _ (wok_s hf))
          · have hf := wok_t hf hc
            refine w_aload_n X dX11_count_82 rfl rfl rfl ?_
            obtain ⟨yr25, eyr25, hf⟩ := wok_b hf
            refine w_callV X dX11_count_83 rfl vl_X11_422 (kX11_gones l  eyr25) S0_188 (As := []) (st := []) rfl rfl (Nat.le_of_ble_eq_true rfl) ⟨Nat.le_of_ble_eq_true rfl, Nat.le_of_ble_eq_true rfl⟩ ⟨Nat.zero_le _, Nat.zero_le _⟩ (fun r h2 hF => ?_)
            obtain ⟨_, rfl, rfl, rfl⟩ := hF
            show wM p l e (wR 8) s m args below meth c 0 0 (wE below args s D dA b0 ad S0 F) 2 D dA b0 ad S0 86 [some (.ref 188), some (.int x0)] [.int yr25] yh21
            refine w_goto X dX11_count_86 (t := 106) rfl ?_
            exact w_iret X dX11_count_106 hr (hT _ _ (wok_s hf))
      · have hf := wok_f hf hc
        refine w_iload_n X dX11_count_34 rfl rfl rfl ?_
        refine w_iconst X dX11_count_35 rfl ci_2 ?_
        refine w_icmp_ne X dX11_count_36 rfl (t := 48) rfl (fun hc => ?_) (fun hc => ?_)
        · have hf := wok_f hf hc
          refine w_iload_n X dX11_count_48 rfl rfl rfl ?_
          refine w_iconst X dX11_count_49 rfl ci_3 ?_
          refine w_icmp_ne X dX11_count_50 rfl (t := 66) rfl (fun hc => ?_) (fun hc => ?_)
          · have hf := wok_f hf hc
            refine w_aload_n X dX11_count_66 rfl rfl rfl ?_
            obtain ⟨yr26, eyr26, hf⟩ := wok_b hf
            refine w_callV X dX11_count_67 rfl vl_X11_479 (kX11_allThick l  eyr26) S0_188 (As := []) (st := []) rfl rfl (Nat.le_of_ble_eq_true rfl) ⟨Nat.le_of_ble_eq_true rfl, Nat.le_of_ble_eq_true rfl⟩ ⟨Nat.zero_le _, Nat.zero_le _⟩ (fun r h2 hF => ?_)
            obtain ⟨_, rfl, rfl, rfl⟩ := hF
            show wM p l e (wR 8) s m args below meth c 0 0 (wE below args s D dA b0 ad S0 F) 2 D dA b0 ad S0 70 [some (.ref 188), some (.int x0)] [.int yr26] yh21
            exact w_iret X dX11_count_70 hr (hT _ _ (wok_s hf))
          · have hf := wok_t hf hc
            refine w_aload_n X dX11_count_53 rfl rfl rfl ?_
            refine w_aload_n X dX11_count_54 rfl rfl rfl ?_
            refine w_getR X dX11_count_55 rfl fl_X11_120 S0_188 rfl ?_
            refine w_iconst X dX11_count_58 rfl ci_0 ?_
            refine w_iald X dX11_count_59 rfl (j := 0) cn_0 S0_225 (show wib 0 25 by decide) ?_
            obtain ⟨yr27, eyr27, hf⟩ := wok_b hf
            refine w_callV X dX11_count_60 rfl vl_X11_367 (kX11_dampOf l  eyr27) S0_188 (As := [.int (yh21.1 225 0)]) (st := []) rfl rfl (Nat.le_of_ble_eq_true rfl) ⟨Nat.le_of_ble_eq_true rfl, Nat.le_of_ble_eq_true rfl⟩ ⟨Nat.zero_le _, Nat.zero_le _⟩ (fun r h2 hF => ?_)
            obtain ⟨_, rfl, rfl, rfl⟩ := hF
            show wM p l e (wR 8) s m args below meth c 0 0 (wE below args s D dA b0 ad S0 F) 2 D dA b0 ad S0 63 [some (.ref 188), some (.int x0)] [.int yr27] yh21
            refine w_goto X dX11_count_63 (t := 70) rfl ?_
            exact w_iret X dX11_count_70 hr (hT _ _ (wok_s hf))
        · have hf := wok_t hf hc
          refine w_aload_n X dX11_count_39 rfl rfl rfl ?_
          refine w_getR X dX11_count_40 rfl fl_X11_120 S0_188 rfl ?_
          refine w_iconst X dX11_count_43 rfl ci_0 ?_
          refine w_iald X dX11_count_44 rfl (j := 0) cn_0 S0_225 (show wib 0 25 by decide) ?_
          refine w_goto X dX11_count_45 (t := 70) rfl ?_
          exact w_iret X dX11_count_70 hr (hT _ _ (wok_s hf))
    · have hf := wok_f hf hc
      refine w_aload_n X dX11_count_22 rfl rfl rfl ?_
      refine w_getR X dX11_count_23 rfl fl_X11_13 S0_188 rfl ?_
      refine w_iload_n X dX11_count_26 rfl rfl rfl ?_
      obtain ⟨yhg28, hf⟩ := wok_g hf
      refine w_iald X dX11_count_27 rfl (j := x0.toNatClampNeg) rfl S0_190 yhg28 ?_
      exact w_iret X dX11_count_28 hr (hT _ _ (wok_s hf))
  · have hf := wok_f hf (wb_0 hc)
    refine w_iconst X dX11_count_15 rfl ci_m1 ?_
    exact w_iret X dX11_count_16 hr (hT _ _ (wok_s hf))
set_option maxRecDepth 4000 in
theorem kX11_count (l : Launch) {h : wSt} {x0 : Int32} {res : Int32 × wSt} (hf : fX11_count h x0 = some res) : wC l yX11_count cX11_count 2 (some .int) 8 S0 [.ref 188, .int x0] h (wFI (fun a b => res.1 = a ∧ res.2 = b)) := by
  refine w_meth2 0 (by decide) (Nat.le_of_ble_eq_true rfl) (ls := [some (.ref 188), some (.int x0)]) rfl ?_
  intro p e s m args below meth c D dA b0 ad X hr
  exact pX11_count_b0 X hr  (K := fun z => res = z) (fun x h2 hz => ⟨x, rfl, by rw [hz], by rw [hz]⟩) ⟨res, hf, rfl⟩
end WX

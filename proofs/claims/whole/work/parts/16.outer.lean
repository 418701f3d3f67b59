def fX10_feed (h : wSt) (x0 : Int64) (x1 : Int64) (x2 : Int64) : Option (Int32 × wSt) :=
(fX7_addBytes h x0).bind (fun yr21 =>
(fX7_addBytes yr21 x1).bind (fun yr22 =>
(fX7_addBytes yr22 x2).bind (fun yr23 =>
some ((yr23.1 1 1), yr23))))
def fX10_library_l66 (h : wSt) (v2 : Int32) : Option ((Int32 × wSt) ⊕ ((wSt))) :=
if 4 ≤ v2 then
some (.inr h)
else
if wib v2 4 then
wlet (wuI h (136 + 13 * v2.toNatClampNeg) 0 0) (fun yh29 =>
some (.inl ((v2 + 1), yh29)))
else none
def fX10_library (h : wSt) : Option (Int32 × wSt) :=
(fX4_readFrom h 16).bind (fun yr21 =>
(fX7_clear yr21.2 ).bind (fun yr22 =>
if yr21.1 = 0 then
(fX4_copyFrom yr22 3 16).bind (fun yr23 =>
(fX6_begin yr23 29).bind (fun yr24 =>
(fX9_clear yr24 39).bind (fun yr25 =>
(fX5_clear yr25 43).bind (fun yr26 =>
(fX8_clear yr26 ).bind (fun yr27 =>
(wit (fun v : (Int32 × wSt) => fX10_library_l66 v.2 v.1) 3000 ((0 : Int32), yr27)).bind (fun ye30 =>
some ((0 : Int32), ye30)))))))
else
some (yr21.1, yr22)))
def fX10_year (h : wSt) : Option (Int32 × wSt) :=
(fX9_readFrom h 41 3).bind (fun yr21 =>
(fX7_clear yr21.2 ).bind (fun yr22 =>
if yr21.1 = 0 then
(fX9_copyFrom yr22 39 41).bind (fun yr23 =>
some (yr21.1, yr23))
else
some (yr21.1, yr22)))
def fX10_skin (h : wSt) (x0 : Int32) (x1 : Int32) : Option (Int32 × wSt) :=
(fX4_hasSkin h 3 x0).bind (fun yr21 =>
if yr21 = true then
if x1 = 0 then
if wib x0 3 then
some ((h.1 5 x0.toNatClampNeg), h)
else none
else if x1 = 1 then
if wib x0 3 then
some ((h.1 30 x0.toNatClampNeg), h)
else none
else if x1 = 2 then
if wib x0 3 then
some ((h.1 7 x0.toNatClampNeg), h)
else none
else if x1 = 3 then
if wib x0 3 then
some ((h.1 31 x0.toNatClampNeg), h)
else none
else if x1 = 4 then
(fX6_damp h 29).bind (fun yr31 =>
(fX6_shownLines h 29 x0 yr31).bind (fun yr32 =>
some (yr32.1, yr32.2)))
else 
some ((-1 : Int32), h)
else
some ((-1 : Int32), h))
def fX10_text (h : wSt) (x0 : Int32) (x1 : Int32) : Option (Int32 × wSt) :=
(fX4_hasText h 3 x0).bind (fun yr21 =>
if yr21 = true then
if x1 = 0 then
if wib x0 6 then
some ((h.1 9 x0.toNatClampNeg), h)
else none
else if x1 = 1 then
if wib x0 6 then
some ((h.1 10 x0.toNatClampNeg), h)
else none
else if x1 = 2 then
if wib x0 6 then
some ((h.1 11 x0.toNatClampNeg), h)
else none
else if x1 = 3 then
(fX6_damp h 29).bind (fun yr29 =>
(fX6_isWhole h 29 x0 yr29).bind (fun yr30 =>
if yr30.1 = true then
some ((1 : Int32), yr30.2)
else
some ((0 : Int32), yr30.2)))
else if x1 = 4 then
(fX6_damp h 29).bind (fun yr32 =>
(fX6_made h 29 x0 yr32).bind (fun yr33 =>
some (yr33.1, yr33.2)))
else 
some ((-2 : Int32), h)
else
some ((-2 : Int32), h))
def fX10_layers (h : wSt) (x0 : Int32) (x1 : Int32) : Option (Int32) :=
(fX4_hasLine h 3 x0 x1).bind (fun yr21 =>
if yr21 = true then
if wib ((6 * x0) + x1) 18 then
some (h.1 32 ((6 * x0) + x1).toNatClampNeg)
else none
else
some (-1 : Int32))
def fX10_layer (h : wSt) (x0 : Int32) (x1 : Int32) (x2 : Int32) : Option (Int32) :=
(fX4_hasLine h 3 x0 x1).bind (fun yr21 =>
if yr21 = true then
if x2 < 0 then
some (-1 : Int32)
else
if wib ((6 * x0) + x1) 18 then
if x2 < (h.1 32 ((6 * x0) + x1).toNatClampNeg) then
(fX6_layerAt h 29 ((6 * x0) + x1) x2).bind (fun yr23 =>
some yr23)
else
some (-1 : Int32)
else none
else
some (-1 : Int32))
def fX10_read (h : wSt) (x0 : Int32) (x1 : Int32) : Option (Int32 × wSt) :=
(fX4_hasLine h 3 x0 x1).bind (fun yr21 =>
if yr21 = true then
(fX6_damp h 29).bind (fun yr22 =>
(fX6_shown h 29 x0 x1 yr22).bind (fun yr23 =>
some (yr23.1, yr23.2)))
else
some ((-1 : Int32), h))
def fX10_write (h : wSt) (x0 : Int32) (x1 : Int32) (x2 : Int32) : Option (Bool × wSt) :=
(fX4_hasText h 3 x0).bind (fun yr21 =>
if yr21 = true then
(fX4_hasSkin h 3 x1).bind (fun yr22 =>
if yr22 = true then
(fX6_canWrite h 29 x0 x1 x2).bind (fun yr23 =>
if yr23 = true then
(fX8_keep h 29).bind (fun yr24 =>
(fX6_put yr24 29 x0 x1 x2).bind (fun yr25 =>
some (true, yr25)))
else
some (false, h))
else
some (false, h))
else
some (false, h))
def fX10_rubByHand (h : wSt) (x0 : Int32) (x1 : Int32) : Option (Int32 × wSt) :=
(fX4_hasSkin h 3 x0).bind (fun yr21 =>
if yr21 = true then
(fX6_canRub h 29 x0 x1).bind (fun yr22 =>
if yr22 = true then
(fX8_keep h 29).bind (fun yr23 =>
(fX6_rub yr23 29 x0 x1).bind (fun yr24 =>
if wib x0 3 then
some ((yr24.2.1 30 x0.toNatClampNeg), yr24.2)
else none))
else
some ((-1 : Int32), h))
else
some ((-1 : Int32), h))
def fX10_scrape (h : wSt) (x0 : Int32) : Option (Int32 × wSt) :=
(fX10_rubByHand h x0 (63 : Int32)).bind (fun yr21 =>
some (yr21.1, yr21.2))
def fX10_third (h : wSt) (x0 : Int32) : Option (Int32 × wSt) :=
(fX10_rubByHand h x0 (9 : Int32)).bind (fun yr21 =>
some (yr21.1, yr21.2))
def fX10_week (h : wSt) : Option (Int32 × wSt) :=
(fX8_keep h 29).bind (fun yr21 =>
wlet (wuI yr21 29 1 ((yr21.1 29 1) + 1)) (fun yh22 =>
some ((yh22.1 29 1), yh22)))
def fX10_undo (h : wSt) : Option (Bool × wSt) :=
(fX8_takeBack h 29).bind (fun yr21 =>
some (yr21.1, yr21.2))
def fX10_judged_b99_26 (h : wSt) (v1 : Int32) (v2 : Int32) (v3 : Int32) (v4 : Int32) : Option ((Int32 × Int32 × Int32 × wSt) ⊕ ((Int32 × Int32 × wSt))) :=
some (.inl (v2, v3, (v4 + 1), h))
def fX10_judged_b79_26 (h : wSt) (v1 : Int32) (v2 : Int32) (v3 : Int32) (v4 : Int32) (v5 : Int32) : Option ((Int32 × Int32 × Int32 × wSt) ⊕ ((Int32 × Int32 × wSt))) :=
(fX6_goneSkins h 34).bind (fun yr25 =>
if yr25 = v5 then
fX10_judged_b99_26 h v1 v2 v3 v4
else
if v3 = (-1) then
fX10_judged_b99_26 h v1 v2 v4 v4
else
fX10_judged_b99_26 h v1 v2 v3 v4)
def fX10_judged_l26 (h : wSt) (v1 : Int32) (v2 : Int32) (v3 : Int32) (v4 : Int32) : Option ((Int32 × Int32 × Int32 × wSt) ⊕ ((Int32 × Int32 × wSt))) :=
if (h.1 39 0) ≤ v4 then
some (.inr (v2, v3, h))
else
(fX6_goneSkins h 34).bind (fun yr22 =>
if wib v4 40 then
(fX6_follow h 34 (h.1 40 v4.toNatClampNeg)).bind (fun yr24 =>
if yr24.1 = true then
fX10_judged_b79_26 yr24.2 v1 v2 v3 v4 yr22
else
if v2 = (-1) then
fX10_judged_b79_26 yr24.2 v1 v4 v3 v4 yr22
else
fX10_judged_b79_26 yr24.2 v1 v2 v3 v4 yr22)
else none)
def fX10_judged (h : wSt) (x0 : Int32) : Option (Int32 × wSt) :=
if x0 < 0 then
some ((-2 : Int32), h)
else
if x0 ≤ 2 then
(fX6_begin h 34).bind (fun yr21 =>
(wit (fun v : (Int32 × Int32 × Int32 × wSt) => fX10_judged_l26 v.2.2.2 x0 v.1 v.2.1 v.2.2.1) 3000 ((-1 : Int32), (-1 : Int32), (0 : Int32), yr21)).bind (fun ye26 =>
if x0 = 2 then
(fX6_damp ye26.2.2 34).bind (fun yr30 =>
(fX6_wholeTexts ye26.2.2 34 yr30).bind (fun yr31 =>
(fJ6_bitCount_0f7a4 yr31.2 yr31.1).bind (fun yr32 =>
some (yr32, yr31.2))))
else
if x0 = 0 then
some (ye26.1, ye26.2.2)
else
some (ye26.2.1, ye26.2.2)))
else
some ((-2 : Int32), h)
def fX10_later (h : wSt) (x0 : Int32) (x1 : Int32) (x2 : Int32) : Option (Int32 × wSt) :=
(fX4_hasLine h 3 x0 x1).bind (fun yr21 =>
if yr21 = true then
if x2 < 0 then
some ((-1 : Int32), h)
else
if x2 ≤ 40 then
(fX4_dampOf h 3 ((h.1 29 1) + x2)).bind (fun yr22 =>
(fX6_shown h 29 x0 x1 yr22).bind (fun yr23 =>
some (yr23.1, yr23.2)))
else
some ((-1 : Int32), h)
else
some ((-1 : Int32), h))
def fX10_when_l27 (h : wSt) (v1 : Int32) (v2 : Int32) (v3 : Int32) : Option ((Int32 × wSt) ⊕ ((wSt) ⊕ (Int32 × wSt))) :=
if v2 ≤ v3 then
some (.inr (.inl h))
else
if 40 < v3 then
some (.inr (.inl h))
else
(fX4_dampOf h 3 ((h.1 29 1) + v3)).bind (fun yr22 =>
(fX6_isWhole h 29 v1 yr22).bind (fun yr23 =>
if yr23.1 = true then
some (.inr (.inr (v3, yr23.2)))
else
some (.inl ((v3 + 1), yr23.2))))
def fX10_when (h : wSt) (x0 : Int32) : Option (Int32 × wSt) :=
(fX4_hasText h 3 x0).bind (fun yr21 =>
if yr21 = true then
(wit (fun v : (Int32 × wSt) => fX10_when_l27 v.2 x0 (wmx (1 : Int32) (h.1 3 10)) v.1) 3000 ((0 : Int32), h)).bind (fun ye24 => match ye24 with
| .inl ye24v =>
some ((-1 : Int32), ye24v)
| .inr ye24r =>
some ye24r)
else
some ((-1 : Int32), h))
def fX10_need_l15 (h : wSt) (v1 : Int32) (v2 : Int32) : Option ((Int32 × wSt) ⊕ ((wSt) ⊕ (Int32 × wSt))) :=
if 9 < v2 then
some (.inr (.inl h))
else
(fX6_isWhole h 29 v1 v2).bind (fun yr22 =>
if yr22.1 = true then
some (.inr (.inr (v2, yr22.2)))
else
some (.inl ((v2 + 1), yr22.2)))
def fX10_need (h : wSt) (x0 : Int32) : Option (Int32 × wSt) :=
(fX4_hasText h 3 x0).bind (fun yr21 =>
if yr21 = true then
(wit (fun v : (Int32 × wSt) => fX10_need_l15 v.2 x0 v.1) 3000 ((0 : Int32), h)).bind (fun ye23 => match ye23 with
| .inl ye23v =>
some ((-1 : Int32), ye23v)
| .inr ye23r =>
some ye23r)
else
some ((-1 : Int32), h))
def fX10_lost_l10 (h : wSt) (v1 : Int32) (v2 : Int32) : Option ((Int32 × Int32 × wSt) ⊕ ((Int32 × wSt))) :=
if 9 < v2 then
some (.inr (v1, h))
else
if v1 = 0 then
some (.inr (v1, h))
else
(fX6_shownTexts h 29 v2).bind (fun yr22 =>
some (.inl ((v1 &&& (yr22.1 ^^^ (-1))), (v2 + 1), yr22.2)))
def fX10_lost (h : wSt) : Option (Int32 × wSt) :=
(fX6_textsLaid h 29).bind (fun yr21 =>
(wit (fun v : (Int32 × Int32 × wSt) => fX10_lost_l10 v.2.2 v.1 v.2.1) 3000 (yr21, (0 : Int32), h)).bind (fun ye23 =>
some (ye23.1, ye23.2)))
def fX10_place (h : wSt) (x0 : Int32) (x1 : Int32) : Option (Int32) :=
(fX4_hasText h 3 x0).bind (fun yr21 =>
if yr21 = true then
(fX4_hasSkin h 3 x1).bind (fun yr22 =>
if yr22 = true then
(fX6_firstPlace h 29 x0 x1).bind (fun yr23 =>
some yr23)
else
some (-1 : Int32))
else
some (-1 : Int32))
def fX10_costOfRubbing (h : wSt) (x0 : Int32) (x1 : Int32) (x2 : Int32) : Option (Int32 × wSt) :=
(fX6_canRub h 29 x1 x2).bind (fun yr21 =>
if yr21 = true then
(fX6_copyFrom h 34 29).bind (fun yr22 =>
(fX6_rub yr22 34 x1 x2).bind (fun yr23 =>
(fX6_firstPlace yr23.2 34 x0 x1).bind (fun yr24 =>
if yr24 = (-1) then
some ((-1 : Int32), yr23.2)
else
if wib x1 3 then
some (((yr23.2.1 30 x1.toNatClampNeg) - (yr23.2.1 35 x1.toNatClampNeg)), yr23.2)
else none)))
else
some ((-1 : Int32), h))
def fX10_cost_b69 (h : wSt) (v3 : Int32) (v4 : Int32) : Option (Int32 × wSt) :=
some ((wmx v3 v4), h)
def fX10_cost (h : wSt) (x0 : Int32) (x1 : Int32) : Option (Int32 × wSt) :=
(fX4_hasText h 3 x0).bind (fun yr21 =>
if yr21 = true then
(fX4_hasSkin h 3 x1).bind (fun yr22 =>
if yr22 = true then
(fX6_firstPlace h 29 x0 x1).bind (fun yr23 =>
if yr23 = (-1) then
(fX10_costOfRubbing h x0 x1 (9 : Int32)).bind (fun yr24 =>
(fX10_costOfRubbing yr24.2 x0 x1 (63 : Int32)).bind (fun yr25 =>
if yr24.1 = (-1) then
fX10_cost_b69 yr25.2 yr24.1 yr25.1
else
if yr25.1 = (-1) then
fX10_cost_b69 yr25.2 yr24.1 yr25.1
else
some ((wmn yr24.1 yr25.1), yr25.2)))
else
some ((0 : Int32), h))
else
some ((-1 : Int32), h))
else
some ((-1 : Int32), h))
def fX10_lay_b19 (h : wSt) (v1 : Int32) : Option (Int32 × wSt) :=
(fX6_freeLines h 29).bind (fun yr21 =>
(fX3_find h yr21).bind (fun yr22 =>
if v1 = (-1) then
some ((yr22.1 130 1), yr22)
else
if wib v1 6 then
some ((yr22.1 131 v1.toNatClampNeg), yr22)
else none))
def fX10_lay (h : wSt) (x0 : Int32) : Option (Int32 × wSt) :=
if x0 = (-1) then
fX10_lay_b19 h x0
else
(fX4_hasText h 3 x0).bind (fun yr24 =>
if yr24 = true then
fX10_lay_b19 h x0
else
some ((-2 : Int32), h))
def fX10_bears_l51 (h : wSt) (v1 : Int32) (v2 : Int32) (v4 : Int32) (v3 : Int32) (v5 : Int32) : Option ((Int32 × Int32 × wSt) ⊕ ((Int32 × wSt))) :=
if v4 ≤ v5 then
some (.inr (v3, h))
else
(fX6_firstPlace h 34 v2 v1).bind (fun yr25 =>
if yr25 = (-1) then
some (.inr (v3, h))
else
(fX6_put h 34 v2 v1 yr25).bind (fun yr26 =>
(fX6_rub yr26 34 v1 (63 : Int32)).bind (fun yr27 =>
some (.inl ((v3 + 1), (v5 + 1), yr27.2)))))
def fX10_bears (h : wSt) (x0 : Int32) (x1 : Int32) : Option (Int32 × wSt) :=
(fX4_hasSkin h 3 x0).bind (fun yr21 =>
if yr21 = true then
(fX4_hasText h 3 x1).bind (fun yr22 =>
if yr22 = true then
(fX6_copyFrom h 34 29).bind (fun yr23 =>
if wib x0 3 then
(wit (fun v : (Int32 × Int32 × wSt) => fX10_bears_l51 v.2.2 x0 x1 (yr23.1 30 x0.toNatClampNeg) v.1 v.2.1) 3000 ((0 : Int32), (0 : Int32), yr23)).bind (fun ye28 =>
some (ye28.1, ye28.2))
else none)
else
some ((-1 : Int32), h))
else
some ((-1 : Int32), h))
def fX10_over (h : wSt) (x0 : Int32) : Option (Int32) :=
(fX4_hasText h 3 x0).bind (fun yr21 =>
if yr21 = true then
(fX6_textsOver h 29 x0).bind (fun yr22 =>
some yr22)
else
some (-1 : Int32))
def fX10_deepest_b63_17 (h : wSt) (v1 : Int32) (v2 : Int32) (v3 : Int32) : Option ((Int32 × Int32) ⊕ ((Int32))) :=
some (.inl (v2, (v3 + 1)))
def fX10_deepest_l17 (h : wSt) (v1 : Int32) (v2 : Int32) (v3 : Int32) : Option ((Int32 × Int32) ⊕ ((Int32))) :=
if wib v1 3 then
if (h.1 5 v1.toNatClampNeg) ≤ v3 then
some (.inr v2)
else
if wib ((6 * v1) + v3) 18 then
if wib ((6 * v1) + v2) 18 then
if (h.1 32 ((6 * v1) + v3).toNatClampNeg) ≤ (h.1 32 ((6 * v1) + v2).toNatClampNeg) then
fX10_deepest_b63_17 h v1 v2 v3
else
fX10_deepest_b63_17 h v1 v3 v3
else none
else none
else none
def fX10_deepest (h : wSt) (x0 : Int32) : Option (Int32) :=
(fX4_hasSkin h 3 x0).bind (fun yr21 =>
if yr21 = true then
(wit (fun v : (Int32 × Int32) => fX10_deepest_l17 h x0 v.1 v.2) 3000 ((0 : Int32), (1 : Int32))).bind (fun ye25 =>
some ye25)
else
some (-1 : Int32))
def fX10_bare_b53_17 (h : wSt) (v1 : Int32) (v2 : Int32) (v3 : Int32) : Option ((Int32 × Int32) ⊕ ((Int32))) :=
some (.inl (v2, (v3 + 1)))
def fX10_bare_l17 (h : wSt) (v1 : Int32) (v2 : Int32) (v3 : Int32) : Option ((Int32 × Int32) ⊕ ((Int32))) :=
if wib v1 3 then
if (h.1 5 v1.toNatClampNeg) ≤ v3 then
some (.inr v2)
else
if wib ((6 * v1) + v3) 18 then
if (h.1 32 ((6 * v1) + v3).toNatClampNeg) = 0 then
fX10_bare_b53_17 h v1 (v2 ||| (1 <<< (v3 &&& 31))) v3
else
fX10_bare_b53_17 h v1 v2 v3
else none
else none
def fX10_bare (h : wSt) (x0 : Int32) : Option (Int32) :=
(fX4_hasSkin h 3 x0).bind (fun yr21 =>
if yr21 = true then
(wit (fun v : (Int32 × Int32) => fX10_bare_l17 h x0 v.1 v.2) 3000 ((0 : Int32), (0 : Int32))).bind (fun ye24 =>
if wib x0 3 then
some (ye24 &&& ((h.1 7 x0.toNatClampNeg) ^^^ (-1)))
else none)
else
some (-1 : Int32))
def fX10_same (h : wSt) : Option (Int32) :=
(fX6_pairsAlike h 29).bind (fun yr21 =>
some yr21)
def fX10_giveup_b107_23 (h : wSt) (v1 : Int32) (v2 : Int32) (v3 : Int32) (v4 : Int32) : Option ((Int32 × Int32 × Int32 × wSt) ⊕ ((Int32 × wSt))) :=
some (.inl (v2, v3, (v4 + 1), h))
def fX10_giveup_l23 (h : wSt) (v1 : Int32) (v2 : Int32) (v3 : Int32) (v4 : Int32) : Option ((Int32 × Int32 × Int32 × wSt) ⊕ ((Int32 × wSt))) :=
if (h.1 3 0) ≤ v4 then
some (.inr (v2, h))
else
(fX6_canRub h 29 v4 (63 : Int32)).bind (fun yr23 =>
if yr23 = true then
(fX6_copyFrom h 34 29).bind (fun yr24 =>
(fX6_rub yr24 34 v4 (63 : Int32)).bind (fun yr25 =>
(fX6_damp yr25.2 34).bind (fun yr26 =>
(fX6_wholeTexts yr25.2 34 yr26).bind (fun yr27 =>
(fJ6_bitCount_0f7a4 yr27.2 (v1 &&& (yr27.1 ^^^ (-1)))).bind (fun yr28 =>
if v3 ≤ yr28 then
fX10_giveup_b107_23 yr27.2 v1 v2 v3 v4
else
fX10_giveup_b107_23 yr27.2 v1 v4 yr28 v4)))))
else
fX10_giveup_b107_23 h v1 v2 v3 v4)
def fX10_giveup (h : wSt) : Option (Int32 × wSt) :=
(fX6_damp h 29).bind (fun yr21 =>
(fX6_wholeTexts h 29 yr21).bind (fun yr22 =>
(wit (fun v : (Int32 × Int32 × Int32 × wSt) => fX10_giveup_l23 v.2.2.2 yr22.1 v.1 v.2.1 v.2.2.1) 3000 ((-1 : Int32), (7 : Int32), (0 : Int32), yr22.2)).bind (fun ye29 =>
some (ye29.1, ye29.2))))
def fX10_psalter_b38_17 (h : wSt) (v1 : Int32) (v2 : Int32) (v3 : Int32) : Option ((Int32 × Int32 × wSt) ⊕ ((Int32 × wSt))) :=
some (.inl (v2, (v3 + 1), h))
def fX10_psalter_l17 (h : wSt) (v1 : Int32) (v2 : Int32) (v3 : Int32) : Option ((Int32 × Int32 × wSt) ⊕ ((Int32 × wSt))) :=
if 9 < v3 then
some (.inr (v2, h))
else
(fX6_isWhole h 29 v1 v3).bind (fun yr22 =>
if yr22.1 = true then
fX10_psalter_b38_17 yr22.2 v1 (v2 + 1) v3
else
fX10_psalter_b38_17 yr22.2 v1 v2 v3)
def fX10_psalter (h : wSt) (x0 : Int32) : Option (Int32 × wSt) :=
(fX4_hasText h 3 x0).bind (fun yr21 =>
if yr21 = true then
(wit (fun v : (Int32 × Int32 × wSt) => fX10_psalter_l17 v.2.2 x0 v.1 v.2.1) 3000 ((0 : Int32), (0 : Int32), h)).bind (fun ye23 =>
some (ye23.1, ye23.2))
else
some ((-1 : Int32), h))
def fX10_see (h : wSt) (x0 : Int32) (x1 : Int32) (x2 : Int32) (x3 : Int32) : Option (Bool × wSt) :=
(fX4_hasSkin h 3 x0).bind (fun yr21 =>
if yr21 = true then
if x1 < 1 then
some (false, h)
else
if 9 < x1 then
some (false, h)
else
if x2 < 0 then
some (false, h)
else
if x2 ≤ 9 then
(fX5_add h 43 x0 x1 x2 x3).bind (fun yr22 =>
some (yr22.1, yr22.2))
else
some (false, h)
else
some (false, h))
def fX10_textsAsSeen_b40_4 (h : wSt) (v1 : Int32) (v2 : Int32) : Option ((Int32 × Int32 × wSt) ⊕ ((Int32 × wSt))) :=
some (.inl (v1, (v2 + 1), h))
def fX10_textsAsSeen_l4 (h : wSt) (v1 : Int32) (v2 : Int32) : Option ((Int32 × Int32 × wSt) ⊕ ((Int32 × wSt))) :=
if (h.1 3 5) ≤ v2 then
some (.inr (v1, h))
else
(fX5_agrees h 43 v2 3 29).bind (fun yr21 =>
if yr21.1 = true then
fX10_textsAsSeen_b40_4 yr21.2 (v1 ||| (1 <<< (v2 &&& 31))) v2
else
fX10_textsAsSeen_b40_4 yr21.2 v1 v2)
def fX10_textsAsSeen (h : wSt) : Option (Int32 × wSt) :=
(wit (fun v : (Int32 × Int32 × wSt) => fX10_textsAsSeen_l4 v.2.2 v.1 v.2.1) 3000 ((0 : Int32), (0 : Int32), h)).bind (fun ye22 =>
some (ye22.1, ye22.2))
def fX10_who (h : wSt) : Option (Int32 × wSt) :=
(fX10_textsAsSeen h ).bind (fun yr21 =>
some (yr21.1, yr21.2))
def fX10_ask_b104_42 (h : wSt) (v1 : Int32) (v2 : Int32) (v3 : Int32) (v4 : Int32) (v5 : Int32) (v6 : Int32) (v7 : Int32) : Option ((Int32 × Int32 × Int32 × wSt) ⊕ ((Int32 × Int32 × wSt))) :=
some (.inl (v4, v5, (v7 + 1), h))
def fX10_ask_l42 (h : wSt) (v1 : Int32) (v2 : Int32) (v3 : Int32) (v6 : Int32) (v4 : Int32) (v5 : Int32) (v7 : Int32) : Option ((Int32 × Int32 × Int32 × wSt) ⊕ ((Int32 × Int32 × wSt))) :=
if 9 < v7 then
some (.inr (v4, v5, h))
else
if wib v1 3 then
(fX4_howManyShow h 3 v2 v6 v7 (h.1 30 v1.toNatClampNeg)).bind (fun yr25 =>
if v4 ≤ (wmx yr25.1 (v3 - yr25.1)) then
fX10_ask_b104_42 yr25.2 v1 v2 v3 v4 v5 v6 v7
else
fX10_ask_b104_42 yr25.2 v1 v2 v3 (wmx yr25.1 (v3 - yr25.1)) ((10 * v6) + v7) v6 v7)
else none
def fX10_ask_l32 (h : wSt) (v1 : Int32) (v2 : Int32) (v3 : Int32) (v4 : Int32) (v5 : Int32) (v6 : Int32) : Option ((Int32 × Int32 × Int32 × wSt) ⊕ ((Int32 × wSt))) :=
if 9 < v6 then
some (.inr (v5, h))
else
(wit (fun v : (Int32 × Int32 × Int32 × wSt) => fX10_ask_l42 v.2.2.2 v1 v2 v3 v6 v.1 v.2.1 v.2.2.1) 3000 (v4, v5, (0 : Int32), h)).bind (fun ye26 =>
some (.inl (ye26.1, ye26.2.1, (v6 + 1), ye26.2.2)))
def fX10_ask (h : wSt) (x0 : Int32) : Option (Int32 × wSt) :=
(fX4_hasSkin h 3 x0).bind (fun yr21 =>
if yr21 = true then
(fX10_textsAsSeen h ).bind (fun yr22 =>
(fJ6_bitCount_0f7a4 yr22.2 yr22.1).bind (fun yr23 =>
(wit (fun v : (Int32 × Int32 × Int32 × wSt) => fX10_ask_l32 v.2.2.2 x0 yr22.1 yr23 v.1 v.2.1 v.2.2.1) 3000 (yr23, (-1 : Int32), (1 : Int32), yr22.2)).bind (fun ye30 =>
some (ye30.1, ye30.2))))
else
some ((-1 : Int32), h))
def fX10_chance_b94_65 (h : wSt) (v2 : Int32) (v3 : Int32) (v4 : Int32) (v5 : Int32) (v6 : Int32) (v7 : Int32) (w0 : Int32) (w1 : Int32) : Option ((Int32 × Int32) ⊕ ((Int32))) :=
some (.inl (((v6 / 10) * (w0 + w1)), (v7 + 1)))
def fX10_chance_b81_65 (h : wSt) (v2 : Int32) (v3 : Int32) (v4 : Int32) (v5 : Int32) (v6 : Int32) (v7 : Int32) (w0 : Int32) : Option ((Int32 × Int32) ⊕ ((Int32))) :=
if v5 = 0 then
fX10_chance_b94_65 h v2 v3 v4 v5 v6 v7 w0 (10 - v3)
else
fX10_chance_b94_65 h v2 v3 v4 v5 v6 v7 w0 (0 : Int32)
def fX10_chance_l65 (h : wSt) (v2 : Int32) (v3 : Int32) (v4 : Int32) (v5 : Int32) (v6 : Int32) (v7 : Int32) : Option ((Int32 × Int32) ⊕ ((Int32))) :=
if v2 ≤ v7 then
some (.inr v6)
else
if v4 = 0 then
fX10_chance_b81_65 h v2 v3 v4 v5 v6 v7 v3
else
fX10_chance_b81_65 h v2 v3 v4 v5 v6 v7 (0 : Int32)
def fX10_chance (h : wSt) (x0 : Int32) (x1 : Int32) (x2 : Int32) : Option (Int32 × wSt) :=
(fX4_hasText h 3 x0).bind (fun yr21 =>
if yr21 = true then
if x1 < 1 then
some ((-1 : Int32), h)
else
if 6 < x1 then
some ((-1 : Int32), h)
else
if x2 < 0 then
some ((-1 : Int32), h)
else
if x2 ≤ 10 then
(fX6_isWhole h 29 x0 (9 : Int32)).bind (fun yr22 =>
(fX6_isWhole yr22.2 29 x0 (0 : Int32)).bind (fun yr23 =>
(wit (fun v : (Int32 × Int32) => fX10_chance_l65 yr23.2 x1 x2 (wb yr22.1) (wb yr23.1) v.1 v.2) 3000 ((1000000 : Int32), (0 : Int32))).bind (fun ye24 =>
some ((1000000 - ye24), yr23.2))))
else
some ((-1 : Int32), h)
else
some ((-1 : Int32), h))
def fX10_isGain (h : wSt) (x0 : Int32) : Option (Bool) :=
if x0 < 0 then
some false
else
if 9 < x0 then
some false
else
some true
def fX10_gainOf (h : wSt) (x0 : Int32) (x1 : Int32) (x2 : Int32) (x3 : Int32) (x4 : Int32) : Option (Int32) :=
if x0 = 0 then
if x1 = 0 then
some (0 : Int32)
else
some x4
else
if x1 = 0 then
some x3
else
some (-x2)
def fX10_isContent_b18 (h : wSt) (v1 : Int32) (v2 : Int32) (v3 : Int32) (v4 : Int32) (w0 : Int32) (w1 : Int32) : Option (Bool) :=
(fX10_gainOf h w1 v1 v2 v3 v4).bind (fun yr22 =>
if w0 < yr22 then
some false
else
some true)
def fX10_isContent (h : wSt) (x0 : Int32) (x1 : Int32) (x2 : Int32) (x3 : Int32) (x4 : Int32) : Option (Bool) :=
(fX10_gainOf h x0 x1 x2 x3 x4).bind (fun yr21 =>
if x0 = 0 then
fX10_isContent_b18 h x1 x2 x3 x4 yr21 (1 : Int32)
else
fX10_isContent_b18 h x1 x2 x3 x4 yr21 (0 : Int32))
def fX10_years_b101_58 (h : wSt) (v2 : Int32) (v3 : Int32) (v4 : Int32) (v5 : Int32) : Option ((Int32 × Int32 × wSt) ⊕ ((Int32 × wSt))) :=
wlet (wuI h 34 1 ((h.1 34 1) + 1)) (fun yh23 =>
some (.inl (v4, (v5 + 1), yh23)))
def fX10_years_l58 (h : wSt) (v2 : Int32) (v3 : Int32) (v4 : Int32) (v5 : Int32) : Option ((Int32 × Int32 × wSt) ⊕ ((Int32 × wSt))) :=
if v2 ≤ v5 then
some (.inr (v4, h))
else
if (h.1 3 5) ≤ 0 then
fX10_years_b101_58 h v2 v3 v4 v5
else
if (h.1 3 0) ≤ 0 then
fX10_years_b101_58 h v2 v3 v4 v5
else
(fX6_liveByDraws h 34).bind (fun yr24 =>
if yr24.1 = true then
fX10_years_b101_58 yr24.2 v2 v3 (v4 + 1) v5
else
fX10_years_b101_58 yr24.2 v2 v3 v4 v5)
def fX10_years (h : wSt) (x0 : Int32) (x1 : Int32) (x2 : Int32) : Option (Int32 × wSt) :=
if x0 < 0 then
some ((-1 : Int32), h)
else
if 9999 < x0 then
some ((-1 : Int32), h)
else
if x1 < 1 then
some ((-1 : Int32), h)
else
if 99 < x1 then
some ((-1 : Int32), h)
else
if x2 < 0 then
some ((-1 : Int32), h)
else
if x2 ≤ 2 then
(fX6_copyFrom h 34 29).bind (fun yr21 =>
(fX1_start yr21 x0).bind (fun yr22 =>
(wit (fun v : (Int32 × Int32 × wSt) => fX10_years_l58 v.2.2 x1 x2 v.1 v.2.1) 3000 ((0 : Int32), (0 : Int32), yr22)).bind (fun ye25 =>
if x2 = 0 then
some (ye25.1, ye25.2)
else
if x2 = 1 then
(fX6_damp ye25.2 34).bind (fun yr29 =>
(fX6_wholeTexts ye25.2 34 yr29).bind (fun yr30 =>
some (yr30.1, yr30.2)))
else
(fX6_thickTogether ye25.2 34).bind (fun yr28 =>
some (yr28, ye25.2)))))
else
some ((-1 : Int32), h)
def fX10_mark (h : wSt) (x0 : Int32) (x1 : Int32) : Option (Bool × wSt) :=
if x0 < 0 then
some (false, h)
else
if x0 < 4 then
if wib x0 4 then
if x1 = 0 then
(fX0_keep h (136 + 13 * x0.toNatClampNeg) 29 39 43).bind (fun yr26 =>
some (true, yr26))
else
if (h.1 (136 + 13 * x0.toNatClampNeg) 0) = 0 then
some (false, h)
else
(fX6_copyFrom h 29 ((136 + 13 * x0.toNatClampNeg) + 8)).bind (fun yr22 =>
(fX9_copyFrom yr22 39 ((136 + 13 * x0.toNatClampNeg) + 1)).bind (fun yr23 =>
(fX5_copyFrom yr23 43 ((136 + 13 * x0.toNatClampNeg) + 3)).bind (fun yr24 =>
(fX8_clear yr24 ).bind (fun yr25 =>
some (true, yr25)))))
else none
else
some (false, h)
def fX10_count (h : wSt) (x0 : Int32) : Option (Int32 × wSt) :=
if x0 = 0 then
some ((h.1 3 0), h)
else if x0 = 1 then
some ((h.1 3 5), h)
else if x0 = 2 then
some ((h.1 29 1), h)
else if x0 = 3 then
(fX6_damp h 29).bind (fun yr25 =>
some (yr25, h))
else if x0 = 4 then
(fX6_thickTogether h 29).bind (fun yr27 =>
some (yr27, h))
else if x0 = 5 then
(fX6_goneSkins h 29).bind (fun yr29 =>
some (yr29, h))
else if x0 = 6 then
(fX6_layersTogether h 29).bind (fun yr31 =>
some (yr31, h))
else if x0 = 7 then
(fX6_damp h 29).bind (fun yr33 =>
(fX6_wholeTexts h 29 yr33).bind (fun yr34 =>
some (yr34.1, yr34.2)))
else if x0 = 8 then
some ((h.1 39 0), h)
else if x0 = 9 then
some ((h.1 43 0), h)
else if x0 = 10 then
some ((h.1 48 0), h)
else if x0 = 11 then
some ((h.1 1 1), h)
else 
some ((-1 : Int32), h)
section WX
variable {p : Program} {l : Launch} {e : Env} {s : State} {m : MethodId} {args : Array Value} {below : List Frame} {meth : Method} {c : Code} {D : va_G} {dA : Nat → ClassId} {b0 : Nat} {ad : Nat → Nat} {F : Option Value → wSt → Prop}
set_option maxRecDepth 4000 in
theorem pX10_feed_b0 (X : wCx p s m args meth c RX10 cX10_feed 7 D dA b0 ad) (hr : meth.sig.returnType = (some .int)) {h : wSt} {x0 : Int64} {x1 : Int64} {x2 : Int64} {K : Int32 × wSt → Prop} (hT : ∀ (x : Int32) (h2 : wSt), K (x, h2) → F (some (.int x)) h2) (hf : wok (fX10_feed h x0 x1 x2) K) : wM p l e (wR 2) s m args below meth c 0 0 (wE below args s D dA b0 ad S0 F) 7 D dA b0 ad S0 0 [some (.ref 0), some (.long x0), none, some (.long x1), none, some (.long x2), none] [] h := by
  unfold fX10_feed at hf
  refine w_aload_n X dX10_feed_0 rfl rfl rfl ?_
  refine w_getR X dX10_feed_1 rfl fl_X10_12 S0_0 rfl ?_
  refine w_lload_n X dX10_feed_4 rfl rfl rfl ?_
  obtain ⟨yr21, eyr21, hf⟩ := wok_b hf
  refine w_callV X dX10_feed_5 rfl vl_X10_83 (kX7_addBytes l  eyr21) S0_1 (As := [.long x0]) (st := []) rfl rfl (Nat.le_of_ble_eq_true rfl) ⟨Nat.le_of_ble_eq_true rfl, Nat.le_of_ble_eq_true rfl⟩ ⟨Nat.zero_le _, Nat.zero_le _⟩ (fun r h2 hF => ?_)
  obtain ⟨rfl, rfl⟩ := hF
  show wM p l e (wR 2) s m args below meth c 0 0 (wE below args s D dA b0 ad S0 F) 7 D dA b0 ad S0 8 [some (.ref 0), some (.long x0), none, some (.long x1), none, some (.long x2), none] [] yr21
  refine w_aload_n X dX10_feed_8 rfl rfl rfl ?_
  refine w_getR X dX10_feed_9 rfl fl_X10_12 S0_0 rfl ?_
  refine w_lload_n X dX10_feed_12 rfl rfl rfl ?_
  obtain ⟨yr22, eyr22, hf⟩ := wok_b hf
  refine w_callV X dX10_feed_13 rfl vl_X10_83 (kX7_addBytes l  eyr22) S0_1 (As := [.long x1]) (st := []) rfl rfl (Nat.le_of_ble_eq_true rfl) ⟨Nat.le_of_ble_eq_true rfl, Nat.le_of_ble_eq_true rfl⟩ ⟨Nat.zero_le _, Nat.zero_le _⟩ (fun r h2 hF => ?_)
  obtain ⟨rfl, rfl⟩ := hF
  show wM p l e (wR 2) s m args below meth c 0 0 (wE below args s D dA b0 ad S0 F) 7 D dA b0 ad S0 16 [some (.ref 0), some (.long x0), none, some (.long x1), none, some (.long x2), none] [] yr22
  refine w_aload_n X dX10_feed_16 rfl rfl rfl ?_
  refine w_getR X dX10_feed_17 rfl fl_X10_12 S0_0 rfl ?_
  refine w_lload X dX10_feed_20 rfl rfl ?_
  obtain ⟨yr23, eyr23, hf⟩ := wok_b hf
  refine w_callV X dX10_feed_22 rfl vl_X10_83 (kX7_addBytes l  eyr23) S0_1 (As := [.long x2]) (st := []) rfl rfl (Nat.le_of_ble_eq_true rfl) ⟨Nat.le_of_ble_eq_true rfl, Nat.le_of_ble_eq_true rfl⟩ ⟨Nat.zero_le _, Nat.zero_le _⟩ (fun r h2 hF => ?_)
  obtain ⟨rfl, rfl⟩ := hF
  show wM p l e (wR 2) s m args below meth c 0 0 (wE below args s D dA b0 ad S0 F) 7 D dA b0 ad S0 25 [some (.ref 0), some (.long x0), none, some (.long x1), none, some (.long x2), none] [] yr23
  refine w_aload_n X dX10_feed_25 rfl rfl rfl ?_
  refine w_getR X dX10_feed_26 rfl fl_X10_12 S0_0 rfl ?_
  refine w_getI X dX10_feed_29 rfl fl_X10_87 S0_1 rfl ?_
  exact w_iret X dX10_feed_32 hr (hT _ _ (wok_s hf))
set_option maxRecDepth 4000 in
theorem kX10_feed (l : Launch) {h : wSt} {x0 : Int64} {x1 : Int64} {x2 : Int64} {res : Int32 × wSt} (hf : fX10_feed h x0 x1 x2 = some res) : wC l yX10_feed cX10_feed 7 (some .int) 2 S0 [.ref 0, .long x0, .long x1, .long x2] h (wFI (fun a b => res.1 = a ∧ res.2 = b)) := by
  refine w_meth2 0 (by decide) (Nat.le_of_ble_eq_true rfl) (ls := [some (.ref 0), some (.long x0), none, some (.long x1), none, some (.long x2), none]) rfl ?_
  intro p e s m args below meth c D dA b0 ad X hr
  exact pX10_feed_b0 X hr  (K := fun z => res = z) (fun x h2 hz => ⟨x, rfl, by rw [hz], by rw [hz]⟩) ⟨res, hf, rfl⟩
set_option maxRecDepth 4000 in
theorem pX10_library_l66b (X : wCx p s m args meth c RX10 cX10_library 3 D dA b0 ad) (hr : meth.sig.returnType = (some .int)) {h : wSt} {v2 : Int32} {K : (Int32 × wSt) ⊕ ((wSt)) → Prop} (hN : ∀ (n2 : Int32) (nh : wSt), K (.inl (n2, nh)) → wM p l e (wR 74) s m args below meth c 0 0 (wE below args s D dA b0 ad S0 F) 3 D dA b0 ad S0 66 [some (.ref 0), none, some (.int n2)] [] nh) (hX0 : ∀ (nh : wSt), K (.inr nh) → wM p l e (wR 74) s m args below meth c 0 0 (wE below args s D dA b0 ad S0 F) 3 D dA b0 ad S0 87 [none, none, none] [] nh) (hf : wok (fX10_library_l66 h v2) K) : wM p l e (wR 74) s m args below meth c 0 0 (wE below args s D dA b0 ad S0 F) 3 D dA b0 ad S0 66 [some (.ref 0), none, some (.int v2)] [] h := by
  unfold fX10_library_l66 at hf
  refine w_iload_n X dX10_library_66 rfl rfl rfl ?_
  refine w_iconst X dX10_library_67 rfl ci_4 ?_
  refine w_icmp_ge X dX10_library_68 rfl (t := 87) rfl (fun hc => ?_) (fun hc => ?_)
  · have hf := wok_t hf hc
    refine w_fg (ls2 := [none, none, none]) trivial ?_
    exact hX0 _ (wok_s hf)
  · have hf := wok_f hf hc
    refine w_aload_n X dX10_library_71 rfl rfl rfl ?_
    refine w_getR X dX10_library_72 rfl fl_X10_78 S0_0 rfl ?_
    refine w_iload_n X dX10_library_75 rfl rfl rfl ?_
    obtain ⟨yhg28, hf⟩ := wok_g hf
    refine w_aald4 X dX10_library_76 rfl S0_135 yhg28 (wrow_135 yhg28) ?_
    refine w_iconst X dX10_library_77 rfl ci_0 ?_
    refine w_putZ X dX10_library_78 rfl (hx := rfl) fp_X10_107 ((win_135 yhg28).1) rfl ?_
    refine w_nmh (fun yh29 eyh29 => ?_)
    have hf := wok_l hf eyh29
    refine w_iinc X dX10_library_81 rfl (v := (v2 + 1)) rfl rfl (Nat.le_of_ble_eq_true rfl) (cinc_1 _) (ls' := [some (.ref 0), none, some (.int (v2 + 1))]) rfl ?_
    refine w_goto X dX10_library_84 (t := 66) rfl ?_
    exact hN _ _ (wok_s hf)
set_option maxRecDepth 4000 in
theorem pX10_library_l66 (X : wCx p s m args meth c RX10 cX10_library 3 D dA b0 ad) (hr : meth.sig.returnType = (some .int))  {KE : (wSt) → Prop} (hX0 : ∀ (nh : wSt), KE (nh) → wM p l e (wR 74) s m args below meth c 0 0 (wE below args s D dA b0 ad S0 F) 3 D dA b0 ad S0 87 [none, none, none] [] nh) : ∀ (n : Nat) (v2 : Int32) (h : wSt), wok (wit (fun v : (Int32 × wSt) => fX10_library_l66 v.2 v.1) n (v2, h)) KE → wM p l e (wR 74) s m args below meth c 0 0 (wE below args s D dA b0 ad S0 F) 3 D dA b0 ad S0 66 [some (.ref 0), none, some (.int v2)] [] h := by
  have key := wit_M (b := (fun v : (Int32 × wSt) => fX10_library_l66 v.2 v.1)) (KE := KE) (G := fun v => wM p l e (wR 74) s m args below meth c 0 0 (wE below args s D dA b0 ad S0 F) 3 D dA b0 ad S0 66 [some (.ref 0), none, some (.int v.1)] [] v.2) (fun v K hN hE hf => pX10_library_l66b X hr  (fun n2 nh hz => hN (n2, nh) hz) (fun z0 hz => hX0 z0 (hE _ hz)) hf)
  exact fun n v2 h hf => key n (v2, h) hf
set_option maxRecDepth 4000 in
theorem pX10_library_b0 (X : wCx p s m args meth c RX10 cX10_library 3 D dA b0 ad) (hr : meth.sig.returnType = (some .int)) {h : wSt} {K : Int32 × wSt → Prop} (hT : ∀ (x : Int32) (h2 : wSt), K (x, h2) → F (some (.int x)) h2) (hf : wok (fX10_library h ) K) : wM p l e (wR 74) s m args below meth c 0 0 (wE below args s D dA b0 ad S0 F) 3 D dA b0 ad S0 0 [some (.ref 0), none, none] [] h := by
  unfold fX10_library at hf
  refine w_aload_n X dX10_library_0 rfl rfl rfl ?_
  refine w_getR X dX10_library_1 rfl fl_X10_23 S0_0 rfl ?_
  refine w_aload_n X dX10_library_4 rfl rfl rfl ?_
  refine w_getR X dX10_library_5 rfl fl_X10_12 S0_0 rfl ?_
  obtain ⟨yr21, eyr21, hf⟩ := wok_b hf
  refine w_callV X dX10_library_8 rfl vl_X10_91 (kX4_readFrom l in_16 eyr21) S0_16 (As := [.ref 1]) (st := []) rfl rfl (Nat.le_of_ble_eq_true rfl) ⟨Nat.le_of_ble_eq_true rfl, Nat.le_of_ble_eq_true rfl⟩ ⟨Nat.zero_le _, Nat.zero_le _⟩ (fun r h2 hF => ?_)
  obtain ⟨_, rfl, rfl, rfl⟩ := hF
  show wM p l e (wR 74) s m args below meth c 0 0 (wE below args s D dA b0 ad S0 F) 3 D dA b0 ad S0 11 [some (.ref 0), none, none] [.int yr21.1] yr21.2
  refine w_istore_n X dX10_library_11 rfl rfl rfl (Nat.le_of_ble_eq_true rfl) (ls' := [some (.ref 0), some (.int yr21.1), none]) rfl ?_
  refine w_aload_n X dX10_library_12 rfl rfl rfl ?_
  refine w_getR X dX10_library_13 rfl fl_X10_12 S0_0 rfl ?_
  obtain ⟨yr22, eyr22, hf⟩ := wok_b hf
  refine w_callV X dX10_library_16 rfl vl_X10_95 (kX7_clear l  eyr22) S0_1 (As := []) (st := []) rfl rfl (Nat.le_of_ble_eq_true rfl) ⟨Nat.le_of_ble_eq_true rfl, Nat.le_of_ble_eq_true rfl⟩ ⟨Nat.zero_le _, Nat.zero_le _⟩ (fun r h2 hF => ?_)
  obtain ⟨rfl, rfl⟩ := hF
  show wM p l e (wR 74) s m args below meth c 0 0 (wE below args s D dA b0 ad S0 F) 3 D dA b0 ad S0 19 [some (.ref 0), some (.int yr21.1), none] [] yr22
  refine w_iload_n X dX10_library_19 rfl rfl rfl ?_
  refine w_if_eq X dX10_library_20 rfl (t := 25) rfl (fun hc => ?_) (fun hc => ?_)
  · have hf := wok_t hf hc
    refine w_aload_n X dX10_library_25 rfl rfl rfl ?_
    refine w_getR X dX10_library_26 rfl fl_X10_19 S0_0 rfl ?_
    refine w_aload_n X dX10_library_29 rfl rfl rfl ?_
    refine w_getR X dX10_library_30 rfl fl_X10_23 S0_0 rfl ?_
    obtain ⟨yr23, eyr23, hf⟩ := wok_b hf
    refine w_callV X dX10_library_33 rfl vl_X10_98 (kX4_copyFrom l in_3 in_16 eyr23) S0_3 (As := [.ref 16]) (st := []) rfl rfl (Nat.le_of_ble_eq_true rfl) ⟨Nat.le_of_ble_eq_true rfl, Nat.le_of_ble_eq_true rfl⟩ ⟨Nat.zero_le _, Nat.zero_le _⟩ (fun r h2 hF => ?_)
    obtain ⟨rfl, rfl⟩ := hF
    show wM p l e (wR 74) s m args below meth c 0 0 (wE below args s D dA b0 ad S0 F) 3 D dA b0 ad S0 36 [some (.ref 0), some (.int yr21.1), none] [] yr23
    refine w_aload_n X dX10_library_36 rfl rfl rfl ?_
    refine w_getR X dX10_library_37 rfl fl_X10_31 S0_0 rfl ?_
    obtain ⟨yr24, eyr24, hf⟩ := wok_b hf
    refine w_callV X dX10_library_40 rfl vl_X10_101 (kX6_begin l in_29 eyr24) S0_29 (As := []) (st := []) rfl rfl (Nat.le_of_ble_eq_true rfl) ⟨Nat.le_of_ble_eq_true rfl, Nat.le_of_ble_eq_true rfl⟩ ⟨Nat.zero_le _, Nat.zero_le _⟩ (fun r h2 hF => ?_)
    obtain ⟨rfl, rfl⟩ := hF
    show wM p l e (wR 74) s m args below meth c 0 0 (wE below args s D dA b0 ad S0 F) 3 D dA b0 ad S0 43 [some (.ref 0), some (.int yr21.1), none] [] yr24
    refine w_aload_n X dX10_library_43 rfl rfl rfl ?_
    refine w_getR X dX10_library_44 rfl fl_X10_41 S0_0 rfl ?_
    obtain ⟨yr25, eyr25, hf⟩ := wok_b hf
    refine w_callV X dX10_library_47 rfl vl_X10_104 (kX9_clear l in_39 eyr25) S0_39 (As := []) (st := []) rfl rfl (Nat.le_of_ble_eq_true rfl) ⟨Nat.le_of_ble_eq_true rfl, Nat.le_of_ble_eq_true rfl⟩ ⟨Nat.zero_le _, Nat.zero_le _⟩ (fun r h2 hF => ?_)
    obtain ⟨rfl, rfl⟩ := hF
    show wM p l e (wR 74) s m args below meth c 0 0 (wE below args s D dA b0 ad S0 F) 3 D dA b0 ad S0 50 [some (.ref 0), some (.int yr21.1), none] [] yr25
    refine w_aload_n X dX10_library_50 rfl rfl rfl ?_
    refine w_getR X dX10_library_51 rfl fl_X10_51 S0_0 rfl ?_
    obtain ⟨yr26, eyr26, hf⟩ := wok_b hf
    refine w_callV X dX10_library_54 rfl vl_X10_105 (kX5_clear l in_43 eyr26) S0_43 (As := []) (st := []) rfl rfl (Nat.le_of_ble_eq_true rfl) ⟨Nat.le_of_ble_eq_true rfl, Nat.le_of_ble_eq_true rfl⟩ ⟨Nat.zero_le _, Nat.zero_le _⟩ (fun r h2 hF => ?_)
    obtain ⟨rfl, rfl⟩ := hF
    show wM p l e (wR 74) s m args below meth c 0 0 (wE below args s D dA b0 ad S0 F) 3 D dA b0 ad S0 57 [some (.ref 0), some (.int yr21.1), none] [] yr26
    refine w_aload_n X dX10_library_57 rfl rfl rfl ?_
    refine w_getR X dX10_library_58 rfl fl_X10_58 S0_0 rfl ?_
    obtain ⟨yr27, eyr27, hf⟩ := wok_b hf
    refine w_callV X dX10_library_61 rfl vl_X10_106 (kX8_clear l  eyr27) S0_48 (As := []) (st := []) rfl rfl (Nat.le_of_ble_eq_true rfl) ⟨Nat.le_of_ble_eq_true rfl, Nat.le_of_ble_eq_true rfl⟩ ⟨Nat.zero_le _, Nat.zero_le _⟩ (fun r h2 hF => ?_)
    obtain ⟨rfl, rfl⟩ := hF
    show wM p l e (wR 74) s m args below meth c 0 0 (wE below args s D dA b0 ad S0 F) 3 D dA b0 ad S0 64 [some (.ref 0), some (.int yr21.1), none] [] yr27
    refine w_iconst X dX10_library_64 rfl ci_0 ?_
    refine w_istore_n X dX10_library_65 rfl rfl rfl (Nat.le_of_ble_eq_true rfl) (ls' := [some (.ref 0), some (.int yr21.1), some (.int 0)]) rfl ?_
    refine w_fg (ls2 := [some (.ref 0), none, some (.int 0)]) ⟨rfl, rfl, trivial⟩ ?_
    obtain ⟨ye30, hye30, hf⟩ := wok_b hf
    refine pX10_library_l66 X hr  (KE := fun z => ye30 = z) ?_ 3000 _ _ ⟨ye30, hye30, rfl⟩
    · intro yz31 hz
      subst hz
      refine w_iconst X dX10_library_87 rfl ci_0 ?_
      exact w_iret X dX10_library_88 hr (hT _ _ (wok_s hf))
  · have hf := wok_f hf hc
    refine w_iload_n X dX10_library_23 rfl rfl rfl ?_
    exact w_iret X dX10_library_24 hr (hT _ _ (wok_s hf))
set_option maxRecDepth 4000 in
theorem kX10_library (l : Launch) {h : wSt} {res : Int32 × wSt} (hf : fX10_library h  = some res) : wC l yX10_library cX10_library 3 (some .int) 74 S0 [.ref 0] h (wFI (fun a b => res.1 = a ∧ res.2 = b)) := by
  refine w_meth2 2 (by decide) (Nat.le_of_ble_eq_true rfl) (ls := [some (.ref 0), none, none]) rfl ?_
  intro p e s m args below meth c D dA b0 ad X hr
  exact pX10_library_b0 X hr  (K := fun z => res = z) (fun x h2 hz => ⟨x, rfl, by rw [hz], by rw [hz]⟩) ⟨res, hf, rfl⟩
set_option maxRecDepth 4000 in
theorem pX10_year_b0 (X : wCx p s m args meth c RX10 cX10_year 2 D dA b0 ad) (hr : meth.sig.returnType = (some .int)) {h : wSt} {K : Int32 × wSt → Prop} (hT : ∀ (x : Int32) (h2 : wSt), K (x, h2) → F (some (.int x)) h2) (hf : wok (fX10_year h ) K) : wM p l e (wR 11) s m args below meth c 0 0 (wE below args s D dA b0 ad S0 F) 2 D dA b0 ad S0 0 [some (.ref 0), none] [] h := by
  unfold fX10_year at hf
  refine w_aload_n X dX10_year_0 rfl rfl rfl ?_
  refine w_getR X dX10_year_1 rfl fl_X10_45 S0_0 rfl ?_
  refine w_aload_n X dX10_year_4 rfl rfl rfl ?_
  refine w_getR X dX10_year_5 rfl fl_X10_12 S0_0 rfl ?_
  refine w_aload_n X dX10_year_8 rfl rfl rfl ?_
  refine w_getR X dX10_year_9 rfl fl_X10_19 S0_0 rfl ?_
  obtain ⟨yr21, eyr21, hf⟩ := wok_b hf
  refine w_callV X dX10_year_12 rfl vl_X10_111 (kX9_readFrom l in_41 in_3 eyr21) S0_41 (As := [.ref 1, .ref 3]) (st := []) rfl rfl (Nat.le_of_ble_eq_true rfl) ⟨Nat.le_of_ble_eq_true rfl, Nat.le_of_ble_eq_true rfl⟩ ⟨Nat.zero_le _, Nat.zero_le _⟩ (fun r h2 hF => ?_)
  obtain ⟨_, rfl, rfl, rfl⟩ := hF
  show wM p l e (wR 11) s m args below meth c 0 0 (wE below args s D dA b0 ad S0 F) 2 D dA b0 ad S0 15 [some (.ref 0), none] [.int yr21.1] yr21.2
  refine w_istore_n X dX10_year_15 rfl rfl rfl (Nat.le_of_ble_eq_true rfl) (ls' := [some (.ref 0), some (.int yr21.1)]) rfl ?_
  refine w_aload_n X dX10_year_16 rfl rfl rfl ?_
  refine w_getR X dX10_year_17 rfl fl_X10_12 S0_0 rfl ?_
  obtain ⟨yr22, eyr22, hf⟩ := wok_b hf
  refine w_callV X dX10_year_20 rfl vl_X10_95 (kX7_clear l  eyr22) S0_1 (As := []) (st := []) rfl rfl (Nat.le_of_ble_eq_true rfl) ⟨Nat.le_of_ble_eq_true rfl, Nat.le_of_ble_eq_true rfl⟩ ⟨Nat.zero_le _, Nat.zero_le _⟩ (fun r h2 hF => ?_)
  obtain ⟨rfl, rfl⟩ := hF
  show wM p l e (wR 11) s m args below meth c 0 0 (wE below args s D dA b0 ad S0 F) 2 D dA b0 ad S0 23 [some (.ref 0), some (.int yr21.1)] [] yr22
  refine w_iload_n X dX10_year_23 rfl rfl rfl ?_
  refine w_if_ne X dX10_year_24 rfl (t := 38) rfl (fun hc => ?_) (fun hc => ?_)
  · have hf := wok_f hf hc
    refine w_iload_n X dX10_year_38 rfl rfl rfl ?_
    exact w_iret X dX10_year_39 hr (hT _ _ (wok_s hf))
  · have hf := wok_t hf hc
    refine w_aload_n X dX10_year_27 rfl rfl rfl ?_
    refine w_getR X dX10_year_28 rfl fl_X10_41 S0_0 rfl ?_
    refine w_aload_n X dX10_year_31 rfl rfl rfl ?_
    refine w_getR X dX10_year_32 rfl fl_X10_45 S0_0 rfl ?_
    obtain ⟨yr23, eyr23, hf⟩ := wok_b hf
    refine w_callV X dX10_year_35 rfl vl_X10_114 (kX9_copyFrom l in_39 in_41 eyr23) S0_39 (As := [.ref 41]) (st := []) rfl rfl (Nat.le_of_ble_eq_true rfl) ⟨Nat.le_of_ble_eq_true rfl, Nat.le_of_ble_eq_true rfl⟩ ⟨Nat.zero_le _, Nat.zero_le _⟩ (fun r h2 hF => ?_)
    obtain ⟨rfl, rfl⟩ := hF
    show wM p l e (wR 11) s m args below meth c 0 0 (wE below args s D dA b0 ad S0 F) 2 D dA b0 ad S0 38 [some (.ref 0), some (.int yr21.1)] [] yr23
    refine w_iload_n X dX10_year_38 rfl rfl rfl ?_
    exact w_iret X dX10_year_39 hr (hT _ _ (wok_s hf))
set_option maxRecDepth 4000 in
theorem kX10_year (l : Launch) {h : wSt} {res : Int32 × wSt} (hf : fX10_year h  = some res) : wC l yX10_year cX10_year 2 (some .int) 11 S0 [.ref 0] h (wFI (fun a b => res.1 = a ∧ res.2 = b)) := by
  refine w_meth2 1 (by decide) (Nat.le_of_ble_eq_true rfl) (ls := [some (.ref 0), none]) rfl ?_
  intro p e s m args below meth c D dA b0 ad X hr
  exact pX10_year_b0 X hr  (K := fun z => res = z) (fun x h2 hz => ⟨x, rfl, by rw [hz], by rw [hz]⟩) ⟨res, hf, rfl⟩
set_option maxRecDepth 4000 in
theorem pX10_skin_b0 (X : wCx p s m args meth c RX10 cX10_skin 3 D dA b0 ad) (hr : meth.sig.returnType = (some .int)) {h : wSt} {x0 : Int32} {x1 : Int32} {K : Int32 × wSt → Prop} (hT : ∀ (x : Int32) (h2 : wSt), K (x, h2) → F (some (.int x)) h2) (hf : wok (fX10_skin h x0 x1) K) : wM p l e (wR 6) s m args below meth c 0 0 (wE below args s D dA b0 ad S0 F) 3 D dA b0 ad S0 0 [some (.ref 0), some (.int x0), some (.int x1)] [] h := by
  unfold fX10_skin at hf
  refine w_aload_n X dX10_skin_0 rfl rfl rfl ?_
  refine w_getR X dX10_skin_1 rfl fl_X10_19 S0_0 rfl ?_
  refine w_iload_n X dX10_skin_4 rfl rfl rfl ?_
  obtain ⟨yr21, eyr21, hf⟩ := wok_b hf
  refine w_callV X dX10_skin_5 rfl vl_X10_117 (kX4_hasSkin l in_3 eyr21) S0_3 (As := [.int x0]) (st := []) rfl rfl (Nat.le_of_ble_eq_true rfl) ⟨Nat.le_of_ble_eq_true rfl, Nat.le_of_ble_eq_true rfl⟩ ⟨Nat.zero_le _, Nat.zero_le _⟩ (fun r h2 hF => ?_)
  obtain ⟨_, rfl, rfl, rfl⟩ := hF
  show wM p l e (wR 6) s m args below meth c 0 0 (wE below args s D dA b0 ad S0 F) 3 D dA b0 ad S0 8 [some (.ref 0), some (.int x0), some (.int x1)] [.int (wb yr21)] h
  refine w_if_ne X dX10_skin_8 rfl (t := 13) rfl (fun hc => ?_) (fun hc => ?_)
  · have hf := wok_t hf (wb_n0 hc)
    refine w_iload_n X dX10_skin_13 rfl rfl rfl ?_
    by_cases yhs22 : x1 = 0
    · have hf := wok_t hf yhs22
      refine w_swIn X dX10_skin_14 (t := 48) (off := 34) rfl (by rw [yhs22]; decide) (by rw [yhs22]; decide) (by rw [yhs22]; rfl) ?_
      refine w_aload_n X dX10_skin_48 rfl rfl rfl ?_
      refine w_getR X dX10_skin_49 rfl fl_X10_19 S0_0 rfl ?_
      refine w_getR X dX10_skin_52 rfl fl_X10_121 S0_3 rfl ?_
      refine w_iload_n X dX10_skin_55 rfl rfl rfl ?_
      obtain ⟨yhg23, hf⟩ := wok_g hf
      refine w_iald X dX10_skin_56 rfl (j := x0.toNatClampNeg) rfl S0_5 yhg23 ?_
      exact w_iret X dX10_skin_57 hr (hT _ _ (wok_s hf))
    have hf := wok_f hf yhs22
    by_cases yhs24 : x1 = 1
    · have hf := wok_t hf yhs24
      refine w_swIn X dX10_skin_14 (t := 58) (off := 44) rfl (by rw [yhs24]; decide) (by rw [yhs24]; decide) (by rw [yhs24]; rfl) ?_
      refine w_aload_n X dX10_skin_58 rfl rfl rfl ?_
      refine w_getR X dX10_skin_59 rfl fl_X10_31 S0_0 rfl ?_
      refine w_getR X dX10_skin_62 rfl fl_X10_125 S0_29 rfl ?_
      refine w_iload_n X dX10_skin_65 rfl rfl rfl ?_
      obtain ⟨yhg25, hf⟩ := wok_g hf
      refine w_iald X dX10_skin_66 rfl (j := x0.toNatClampNeg) rfl S0_30 yhg25 ?_
      exact w_iret X dX10_skin_67 hr (hT _ _ (wok_s hf))
    have hf := wok_f hf yhs24
    by_cases yhs26 : x1 = 2
    · have hf := wok_t hf yhs26
      refine w_swIn X dX10_skin_14 (t := 68) (off := 54) rfl (by rw [yhs26]; decide) (by rw [yhs26]; decide) (by rw [yhs26]; rfl) ?_
      refine w_aload_n X dX10_skin_68 rfl rfl rfl ?_
      refine w_getR X dX10_skin_69 rfl fl_X10_19 S0_0 rfl ?_
      refine w_getR X dX10_skin_72 rfl fl_X10_128 S0_3 rfl ?_
      refine w_iload_n X dX10_skin_75 rfl rfl rfl ?_
      obtain ⟨yhg27, hf⟩ := wok_g hf
      refine w_iald X dX10_skin_76 rfl (j := x0.toNatClampNeg) rfl S0_7 yhg27 ?_
      exact w_iret X dX10_skin_77 hr (hT _ _ (wok_s hf))
    have hf := wok_f hf yhs26
    by_cases yhs28 : x1 = 3
    · have hf := wok_t hf yhs28
      refine w_swIn X dX10_skin_14 (t := 78) (off := 64) rfl (by rw [yhs28]; decide) (by rw [yhs28]; decide) (by rw [yhs28]; rfl) ?_
      refine w_aload_n X dX10_skin_78 rfl rfl rfl ?_
      refine w_getR X dX10_skin_79 rfl fl_X10_31 S0_0 rfl ?_
      refine w_getR X dX10_skin_82 rfl fl_X10_131 S0_29 rfl ?_
      refine w_iload_n X dX10_skin_85 rfl rfl rfl ?_
      obtain ⟨yhg29, hf⟩ := wok_g hf
      refine w_iald X dX10_skin_86 rfl (j := x0.toNatClampNeg) rfl S0_31 yhg29 ?_
      exact w_iret X dX10_skin_87 hr (hT _ _ (wok_s hf))
    have hf := wok_f hf yhs28
    by_cases yhs30 : x1 = 4
    · have hf := wok_t hf yhs30
      refine w_swIn X dX10_skin_14 (t := 88) (off := 74) rfl (by rw [yhs30]; decide) (by rw [yhs30]; decide) (by rw [yhs30]; rfl) ?_
      refine w_aload_n X dX10_skin_88 rfl rfl rfl ?_
      refine w_getR X dX10_skin_89 rfl fl_X10_31 S0_0 rfl ?_
      refine w_iload_n X dX10_skin_92 rfl rfl rfl ?_
      refine w_aload_n X dX10_skin_93 rfl rfl rfl ?_
      refine w_getR X dX10_skin_94 rfl fl_X10_31 S0_0 rfl ?_
      obtain ⟨yr31, eyr31, hf⟩ := wok_b hf
      refine w_callV X dX10_skin_97 rfl vl_X10_134 (kX6_damp l in_29 eyr31) S0_29 (As := []) (st := [.int x0, .ref 29]) rfl rfl (Nat.le_of_ble_eq_true rfl) ⟨Nat.le_of_ble_eq_true rfl, Nat.le_of_ble_eq_true rfl⟩ ⟨Nat.zero_le _, Nat.zero_le _⟩ (fun r h2 hF => ?_)
      obtain ⟨_, rfl, rfl, rfl⟩ := hF
      show wM p l e (wR 6) s m args below meth c 0 0 (wE below args s D dA b0 ad S0 F) 3 D dA b0 ad S0 100 [some (.ref 0), some (.int x0), some (.int x1)] [.int yr31, .int x0, .ref 29] h
      obtain ⟨yr32, eyr32, hf⟩ := wok_b hf
      refine w_callV X dX10_skin_100 rfl vl_X10_138 (kX6_shownLines l in_29 eyr32) S0_29 (As := [.int x0, .int yr31]) (st := []) rfl rfl (Nat.le_of_ble_eq_true rfl) ⟨Nat.le_of_ble_eq_true rfl, Nat.le_of_ble_eq_true rfl⟩ ⟨Nat.zero_le _, Nat.zero_le _⟩ (fun r h2 hF => ?_)
      obtain ⟨_, rfl, rfl, rfl⟩ := hF
      show wM p l e (wR 6) s m args below meth c 0 0 (wE below args s D dA b0 ad S0 F) 3 D dA b0 ad S0 103 [some (.ref 0), some (.int x0), some (.int x1)] [.int yr32.1] yr32.2
      exact w_iret X dX10_skin_103 hr (hT _ _ (wok_s hf))
    have hf := wok_f hf yhs30
    refine w_swOut X dX10_skin_14 (t := 104) rfl (by have := lv_neT yhs22 (a := 0) (by decide); have := lv_neT yhs24 (a := 1) (by decide); have := lv_neT yhs26 (a := 2) (by decide); have := lv_neT yhs28 (a := 3) (by decide); have := lv_neT yhs30 (a := 4) (by decide); omega) ?_
    refine w_iconst X dX10_skin_104 rfl ci_m1 ?_
    exact w_iret X dX10_skin_105 hr (hT _ _ (wok_s hf))
  · have hf := wok_f hf (wb_0 hc)
    refine w_iconst X dX10_skin_11 rfl ci_m1 ?_
    exact w_iret X dX10_skin_12 hr (hT _ _ (wok_s hf))
set_option maxRecDepth 4000 in
theorem kX10_skin (l : Launch) {h : wSt} {x0 : Int32} {x1 : Int32} {res : Int32 × wSt} (hf : fX10_skin h x0 x1 = some res) : wC l yX10_skin cX10_skin 3 (some .int) 6 S0 [.ref 0, .int x0, .int x1] h (wFI (fun a b => res.1 = a ∧ res.2 = b)) := by
  refine w_meth2 0 (by decide) (Nat.le_of_ble_eq_true rfl) (ls := [some (.ref 0), some (.int x0), some (.int x1)]) rfl ?_
  intro p e s m args below meth c D dA b0 ad X hr
  exact pX10_skin_b0 X hr  (K := fun z => res = z) (fun x h2 hz => ⟨x, rfl, by rw [hz], by rw [hz]⟩) ⟨res, hf, rfl⟩
set_option maxRecDepth 4000 in
theorem pX10_text_b0 (X : wCx p s m args meth c RX10 cX10_text 3 D dA b0 ad) (hr : meth.sig.returnType = (some .int)) {h : wSt} {x0 : Int32} {x1 : Int32} {K : Int32 × wSt → Prop} (hT : ∀ (x : Int32) (h2 : wSt), K (x, h2) → F (some (.int x)) h2) (hf : wok (fX10_text h x0 x1) K) : wM p l e (wR 7) s m args below meth c 0 0 (wE below args s D dA b0 ad S0 F) 3 D dA b0 ad S0 0 [some (.ref 0), some (.int x0), some (.int x1)] [] h := by
  unfold fX10_text at hf
  refine w_aload_n X dX10_text_0 rfl rfl rfl ?_
  refine w_getR X dX10_text_1 rfl fl_X10_19 S0_0 rfl ?_
  refine w_iload_n X dX10_text_4 rfl rfl rfl ?_
  obtain ⟨yr21, eyr21, hf⟩ := wok_b hf
  refine w_callV X dX10_text_5 rfl vl_X10_142 (kX4_hasText l in_3 eyr21) S0_3 (As := [.int x0]) (st := []) rfl rfl (Nat.le_of_ble_eq_true rfl) ⟨Nat.le_of_ble_eq_true rfl, Nat.le_of_ble_eq_true rfl⟩ ⟨Nat.zero_le _, Nat.zero_le _⟩ (fun r h2 hF => ?_)
  obtain ⟨_, rfl, rfl, rfl⟩ := hF
  show wM p l e (wR 7) s m args below meth c 0 0 (wE below args s D dA b0 ad S0 F) 3 D dA b0 ad S0 8 [some (.ref 0), some (.int x0), some (.int x1)] [.int (wb yr21)] h
  refine w_if_ne X dX10_text_8 rfl (t := 14) rfl (fun hc => ?_) (fun hc => ?_)
  · have hf := wok_t hf (wb_n0 hc)
    refine w_iload_n X dX10_text_14 rfl rfl rfl ?_
    by_cases yhs22 : x1 = 0
    · have hf := wok_t hf yhs22
      refine w_swIn X dX10_text_15 (t := 48) (off := 33) rfl (by rw [yhs22]; decide) (by rw [yhs22]; decide) (by rw [yhs22]; rfl) ?_
      refine w_aload_n X dX10_text_48 rfl rfl rfl ?_
      refine w_getR X dX10_text_49 rfl fl_X10_19 S0_0 rfl ?_
      refine w_getR X dX10_text_52 rfl fl_X10_145 S0_3 rfl ?_
      refine w_iload_n X dX10_text_55 rfl rfl rfl ?_
      obtain ⟨yhg23, hf⟩ := wok_g hf
      refine w_iald X dX10_text_56 rfl (j := x0.toNatClampNeg) rfl S0_9 yhg23 ?_
      exact w_iret X dX10_text_57 hr (hT _ _ (wok_s hf))
    have hf := wok_f hf yhs22
    by_cases yhs24 : x1 = 1
    · have hf := wok_t hf yhs24
      refine w_swIn X dX10_text_15 (t := 58) (off := 43) rfl (by rw [yhs24]; decide) (by rw [yhs24]; decide) (by rw [yhs24]; rfl) ?_
      refine w_aload_n X dX10_text_58 rfl rfl rfl ?_
      refine w_getR X dX10_text_59 rfl fl_X10_19 S0_0 rfl ?_
      refine w_getR X dX10_text_62 rfl fl_X10_148 S0_3 rfl ?_
      refine w_iload_n X dX10_text_65 rfl rfl rfl ?_
      obtain ⟨yhg25, hf⟩ := wok_g hf
      refine w_iald X dX10_text_66 rfl (j := x0.toNatClampNeg) rfl S0_10 yhg25 ?_
      exact w_iret X dX10_text_67 hr (hT _ _ (wok_s hf))
    have hf := wok_f hf yhs24
    by_cases yhs26 : x1 = 2
    · have hf := wok_t hf yhs26
      refine w_swIn X dX10_text_15 (t := 68) (off := 53) rfl (by rw [yhs26]; decide) (by rw [yhs26]; decide) (by rw [yhs26]; rfl) ?_
      refine w_aload_n X dX10_text_68 rfl rfl rfl ?_
      refine w_getR X dX10_text_69 rfl fl_X10_19 S0_0 rfl ?_
      refine w_getR X dX10_text_72 rfl fl_X10_151 S0_3 rfl ?_
      refine w_iload_n X dX10_text_75 rfl rfl rfl ?_
      obtain ⟨yhg27, hf⟩ := wok_g hf
      refine w_iald X dX10_text_76 rfl (j := x0.toNatClampNeg) rfl S0_11 yhg27 ?_
      exact w_iret X dX10_text_77 hr (hT _ _ (wok_s hf))
    have hf := wok_f hf yhs26
    by_cases yhs28 : x1 = 3
    · have hf := wok_t hf yhs28
      refine w_swIn X dX10_text_15 (t := 78) (off := 63) rfl (by rw [yhs28]; decide) (by rw [yhs28]; decide) (by rw [yhs28]; rfl) ?_
      refine w_aload_n X dX10_text_78 rfl rfl rfl ?_
      refine w_getR X dX10_text_79 rfl fl_X10_31 S0_0 rfl ?_
      refine w_iload_n X dX10_text_82 rfl rfl rfl ?_
      refine w_aload_n X dX10_text_83 rfl rfl rfl ?_
      refine w_getR X dX10_text_84 rfl fl_X10_31 S0_0 rfl ?_
      obtain ⟨yr29, eyr29, hf⟩ := wok_b hf
      refine w_callV X dX10_text_87 rfl vl_X10_134 (kX6_damp l in_29 eyr29) S0_29 (As := []) (st := [.int x0, .ref 29]) rfl rfl (Nat.le_of_ble_eq_true rfl) ⟨Nat.le_of_ble_eq_true rfl, Nat.le_of_ble_eq_true rfl⟩ ⟨Nat.zero_le _, Nat.zero_le _⟩ (fun r h2 hF => ?_)
      obtain ⟨_, rfl, rfl, rfl⟩ := hF
      show wM p l e (wR 7) s m args below meth c 0 0 (wE below args s D dA b0 ad S0 F) 3 D dA b0 ad S0 90 [some (.ref 0), some (.int x0), some (.int x1)] [.int yr29, .int x0, .ref 29] h
      obtain ⟨yr30, eyr30, hf⟩ := wok_b hf
      refine w_callV X dX10_text_90 rfl vl_X10_154 (kX6_isWhole l in_29 eyr30) S0_29 (As := [.int x0, .int yr29]) (st := []) rfl rfl (Nat.le_of_ble_eq_true rfl) ⟨Nat.le_of_ble_eq_true rfl, Nat.le_of_ble_eq_true rfl⟩ ⟨Nat.zero_le _, Nat.zero_le _⟩ (fun r h2 hF => ?_)
      obtain ⟨_, rfl, rfl, rfl⟩ := hF
      show wM p l e (wR 7) s m args below meth c 0 0 (wE below args s D dA b0 ad S0 F) 3 D dA b0 ad S0 93 [some (.ref 0), some (.int x0), some (.int x1)] [.int (wb yr30.1)] yr30.2
      refine w_if_eq X dX10_text_93 rfl (t := 100) rfl (fun hc => ?_) (fun hc => ?_)
      · have hf := wok_f hf (wb_0 hc)
        refine w_iconst X dX10_text_100 rfl ci_0 ?_
        exact w_iret X dX10_text_101 hr (hT _ _ (wok_s hf))
      · have hf := wok_t hf (wb_n0 hc)
        refine w_iconst X dX10_text_96 rfl ci_1 ?_
        refine w_goto X dX10_text_97 (t := 101) rfl ?_
        exact w_iret X dX10_text_101 hr (hT _ _ (wok_s hf))
    have hf := wok_f hf yhs28
    by_cases yhs31 : x1 = 4
    · have hf := wok_t hf yhs31
      refine w_swIn X dX10_text_15 (t := 102) (off := 87) rfl (by rw [yhs31]; decide) (by rw [yhs31]; decide) (by rw [yhs31]; rfl) ?_
      refine w_aload_n X dX10_text_102 rfl rfl rfl ?_
      refine w_getR X dX10_text_103 rfl fl_X10_31 S0_0 rfl ?_
      refine w_iload_n X dX10_text_106 rfl rfl rfl ?_
      refine w_aload_n X dX10_text_107 rfl rfl rfl ?_
      refine w_getR X dX10_text_108 rfl fl_X10_31 S0_0 rfl ?_
      obtain ⟨yr32, eyr32, hf⟩ := wok_b hf
      refine w_callV X dX10_text_111 rfl vl_X10_134 (kX6_damp l in_29 eyr32) S0_29 (As := []) (st := [.int x0, .ref 29]) rfl rfl (Nat.le_of_ble_eq_true rfl) ⟨Nat.le_of_ble_eq_true rfl, Nat.le_of_ble_eq_true rfl⟩ ⟨Nat.zero_le _, Nat.zero_le _⟩ (fun r h2 hF => ?_)
      obtain ⟨_, rfl, rfl, rfl⟩ := hF
      show wM p l e (wR 7) s m args below meth c 0 0 (wE below args s D dA b0 ad S0 F) 3 D dA b0 ad S0 114 [some (.ref 0), some (.int x0), some (.int x1)] [.int yr32, .int x0, .ref 29] h
      obtain ⟨yr33, eyr33, hf⟩ := wok_b hf
      refine w_callV X dX10_text_114 rfl vl_X10_158 (kX6_made l in_29 eyr33) S0_29 (As := [.int x0, .int yr32]) (st := []) rfl rfl (Nat.le_of_ble_eq_true rfl) ⟨Nat.le_of_ble_eq_true rfl, Nat.le_of_ble_eq_true rfl⟩ ⟨Nat.zero_le _, Nat.zero_le _⟩ (fun r h2 hF => ?_)
      obtain ⟨_, rfl, rfl, rfl⟩ := hF
      show wM p l e (wR 7) s m args below meth c 0 0 (wE below args s D dA b0 ad S0 F) 3 D dA b0 ad S0 117 [some (.ref 0), some (.int x0), some (.int x1)] [.int yr33.1] yr33.2
      exact w_iret X dX10_text_117 hr (hT _ _ (wok_s hf))
    have hf := wok_f hf yhs31
    refine w_swOut X dX10_text_15 (t := 118) rfl (by have := lv_neT yhs22 (a := 0) (by decide); have := lv_neT yhs24 (a := 1) (by decide); have := lv_neT yhs26 (a := 2) (by decide); have := lv_neT yhs28 (a := 3) (by decide); have := lv_neT yhs31 (a := 4) (by decide); omega) ?_
    refine w_bipush X dX10_text_118 rfl cb_m2 ?_
    exact w_iret X dX10_text_120 hr (hT _ _ (wok_s hf))
  · have hf := wok_f hf (wb_0 hc)
    refine w_bipush X dX10_text_11 rfl cb_m2 ?_
    exact w_iret X dX10_text_13 hr (hT _ _ (wok_s hf))
set_option maxRecDepth 4000 in
theorem kX10_text (l : Launch) {h : wSt} {x0 : Int32} {x1 : Int32} {res : Int32 × wSt} (hf : fX10_text h x0 x1 = some res) : wC l yX10_text cX10_text 3 (some .int) 7 S0 [.ref 0, .int x0, .int x1] h (wFI (fun a b => res.1 = a ∧ res.2 = b)) := by
  refine w_meth2 0 (by decide) (Nat.le_of_ble_eq_true rfl) (ls := [some (.ref 0), some (.int x0), some (.int x1)]) rfl ?_
  intro p e s m args below meth c D dA b0 ad X hr
  exact pX10_text_b0 X hr  (K := fun z => res = z) (fun x h2 hz => ⟨x, rfl, by rw [hz], by rw [hz]⟩) ⟨res, hf, rfl⟩
set_option maxRecDepth 4000 in
theorem pX10_layers_b0 (X : wCx p s m args meth c RX10 cX10_layers 3 D dA b0 ad) (hr : meth.sig.returnType = (some .int)) {h : wSt} {x0 : Int32} {x1 : Int32} {K : Int32 → Prop} (hT : ∀ (x : Int32), K x → F (some (.int x)) h) (hf : wok (fX10_layers h x0 x1) K) : wM p l e (wR 3) s m args below meth c 0 0 (wE below args s D dA b0 ad S0 F) 3 D dA b0 ad S0 0 [some (.ref 0), some (.int x0), some (.int x1)] [] h := by
  unfold fX10_layers at hf
  refine w_aload_n X dX10_layers_0 rfl rfl rfl ?_
  refine w_getR X dX10_layers_1 rfl fl_X10_19 S0_0 rfl ?_
  refine w_iload_n X dX10_layers_4 rfl rfl rfl ?_
  refine w_iload_n X dX10_layers_5 rfl rfl rfl ?_
  obtain ⟨yr21, eyr21, hf⟩ := wok_b hf
  refine w_callV X dX10_layers_6 rfl vl_X10_161 (kX4_hasLine l in_3 eyr21) S0_3 (As := [.int x0, .int x1]) (st := []) rfl rfl (Nat.le_of_ble_eq_true rfl) ⟨Nat.le_of_ble_eq_true rfl, Nat.le_of_ble_eq_true rfl⟩ ⟨Nat.zero_le _, Nat.zero_le _⟩ (fun r h2 hF => ?_)
  obtain ⟨_, rfl, rfl, rfl⟩ := hF
  show wM p l e (wR 3) s m args below meth c 0 0 (wE below args s D dA b0 ad S0 F) 3 D dA b0 ad S0 9 [some (.ref 0), some (.int x0), some (.int x1)] [.int (wb yr21)] h
  refine w_if_eq X dX10_layers_9 rfl (t := 29) rfl (fun hc => ?_) (fun hc => ?_)
  · have hf := wok_f hf (wb_0 hc)
    refine w_iconst X dX10_layers_29 rfl ci_m1 ?_
    exact w_iret X dX10_layers_30 hr (hT _ (wok_s hf))
  · have hf := wok_t hf (wb_n0 hc)
    refine w_aload_n X dX10_layers_12 rfl rfl rfl ?_
    refine w_getR X dX10_layers_13 rfl fl_X10_31 S0_0 rfl ?_
    refine w_getR X dX10_layers_16 rfl fl_X10_164 S0_29 rfl ?_
    refine w_bipush X dX10_layers_19 rfl cb_6 ?_
    refine w_iload_n X dX10_layers_21 rfl rfl rfl ?_
    refine w_imul X dX10_layers_22 rfl ?_
    refine w_iload_n X dX10_layers_23 rfl rfl rfl ?_
    refine w_iadd X dX10_layers_24 rfl ?_
    obtain ⟨yhg22, hf⟩ := wok_g hf
    refine w_iald X dX10_layers_25 rfl (j := ((6 * x0) + x1).toNatClampNeg) rfl S0_32 yhg22 ?_
    refine w_goto X dX10_layers_26 (t := 30) rfl ?_
    exact w_iret X dX10_layers_30 hr (hT _ (wok_s hf))
set_option maxRecDepth 4000 in
theorem kX10_layers (l : Launch) {h : wSt} {x0 : Int32} {x1 : Int32} {res : Int32} (hf : fX10_layers h x0 x1 = some res) : wC l yX10_layers cX10_layers 3 (some .int) 3 S0 [.ref 0, .int x0, .int x1] h (wFI (fun a b => res = a ∧ h = b)) := by
  refine w_meth2 0 (by decide) (Nat.le_of_ble_eq_true rfl) (ls := [some (.ref 0), some (.int x0), some (.int x1)]) rfl ?_
  intro p e s m args below meth c D dA b0 ad X hr
  exact pX10_layers_b0 X hr  (K := fun z => res = z) (fun x hz => ⟨x, rfl, hz, rfl⟩) ⟨res, hf, rfl⟩
set_option maxRecDepth 4000 in
theorem pX10_layer_b0 (X : wCx p s m args meth c RX10 cX10_layer 4 D dA b0 ad) (hr : meth.sig.returnType = (some .int)) {h : wSt} {x0 : Int32} {x1 : Int32} {x2 : Int32} {K : Int32 → Prop} (hT : ∀ (x : Int32), K x → F (some (.int x)) h) (hf : wok (fX10_layer h x0 x1 x2) K) : wM p l e (wR 3) s m args below meth c 0 0 (wE below args s D dA b0 ad S0 F) 4 D dA b0 ad S0 0 [some (.ref 0), some (.int x0), some (.int x1), some (.int x2)] [] h := by
  unfold fX10_layer at hf
  refine w_aload_n X dX10_layer_0 rfl rfl rfl ?_
  refine w_getR X dX10_layer_1 rfl fl_X10_19 S0_0 rfl ?_
  refine w_iload_n X dX10_layer_4 rfl rfl rfl ?_
  refine w_iload_n X dX10_layer_5 rfl rfl rfl ?_
  obtain ⟨yr21, eyr21, hf⟩ := wok_b hf
  refine w_callV X dX10_layer_6 rfl vl_X10_161 (kX4_hasLine l in_3 eyr21) S0_3 (As := [.int x0, .int x1]) (st := []) rfl rfl (Nat.le_of_ble_eq_true rfl) ⟨Nat.le_of_ble_eq_true rfl, Nat.le_of_ble_eq_true rfl⟩ ⟨Nat.zero_le _, Nat.zero_le _⟩ (fun r h2 hF => ?_)
  obtain ⟨_, rfl, rfl, rfl⟩ := hF
  show wM p l e (wR 3) s m args below meth c 0 0 (wE below args s D dA b0 ad S0 F) 4 D dA b0 ad S0 9 [some (.ref 0), some (.int x0), some (.int x1), some (.int x2)] [.int (wb yr21)] h
  refine w_if_eq X dX10_layer_9 rfl (t := 34) rfl (fun hc => ?_) (fun hc => ?_)
  · have hf := wok_f hf (wb_0 hc)
    refine w_iconst X dX10_layer_34 rfl ci_m1 ?_
    exact w_iret X dX10_layer_35 hr (hT _ (wok_s hf))
  · have hf := wok_t hf (wb_n0 hc)
    refine w_iload_n X dX10_layer_12 rfl rfl rfl ?_
    refine w_if_lt X dX10_layer_13 rfl (t := 34) rfl (fun hc => ?_) (fun hc => ?_)
    · have hf := wok_t hf hc
      refine w_iconst X dX10_layer_34 rfl ci_m1 ?_
      exact w_iret X dX10_layer_35 hr (hT _ (wok_s hf))
    · have hf := wok_f hf hc
      refine w_iload_n X dX10_layer_16 rfl rfl rfl ?_
      refine w_aload_n X dX10_layer_17 rfl rfl rfl ?_
      refine w_getR X dX10_layer_18 rfl fl_X10_31 S0_0 rfl ?_
      refine w_getR X dX10_layer_21 rfl fl_X10_164 S0_29 rfl ?_
      refine w_bipush X dX10_layer_24 rfl cb_6 ?_
      refine w_iload_n X dX10_layer_26 rfl rfl rfl ?_
      refine w_imul X dX10_layer_27 rfl ?_
      refine w_iload_n X dX10_layer_28 rfl rfl rfl ?_
      refine w_iadd X dX10_layer_29 rfl ?_
      obtain ⟨yhg22, hf⟩ := wok_g hf
      refine w_iald X dX10_layer_30 rfl (j := ((6 * x0) + x1).toNatClampNeg) rfl S0_32 yhg22 ?_
      refine w_icmp_lt X dX10_layer_31 rfl (t := 36) rfl (fun hc => ?_) (fun hc => ?_)
      · have hf := wok_t hf hc
        refine w_aload_n X dX10_layer_36 rfl rfl rfl ?_
        refine w_getR X dX10_layer_37 rfl fl_X10_31 S0_0 rfl ?_
        refine w_bipush X dX10_layer_40 rfl cb_6 ?_
        refine w_iload_n X dX10_layer_42 rfl rfl rfl ?_
        refine w_imul X dX10_layer_43 rfl ?_
        refine w_iload_n X dX10_layer_44 rfl rfl rfl ?_
        refine w_iadd X dX10_layer_45 rfl ?_
        refine w_iload_n X dX10_layer_46 rfl rfl rfl ?_
        obtain ⟨yr23, eyr23, hf⟩ := wok_b hf
        refine w_callV X dX10_layer_47 rfl vl_X10_167 (kX6_layerAt l in_29 eyr23) S0_29 (As := [.int ((6 * x0) + x1), .int x2]) (st := []) rfl rfl (Nat.le_of_ble_eq_true rfl) ⟨Nat.le_of_ble_eq_true rfl, Nat.le_of_ble_eq_true rfl⟩ ⟨Nat.zero_le _, Nat.zero_le _⟩ (fun r h2 hF => ?_)
        obtain ⟨_, rfl, rfl, rfl⟩ := hF
        show wM p l e (wR 3) s m args below meth c 0 0 (wE below args s D dA b0 ad S0 F) 4 D dA b0 ad S0 50 [some (.ref 0), some (.int x0), some (.int x1), some (.int x2)] [.int yr23] h
        exact w_iret X dX10_layer_50 hr (hT _ (wok_s hf))
      · have hf := wok_f hf hc
        refine w_iconst X dX10_layer_34 rfl ci_m1 ?_
        exact w_iret X dX10_layer_35 hr (hT _ (wok_s hf))
set_option maxRecDepth 4000 in
theorem kX10_layer (l : Launch) {h : wSt} {x0 : Int32} {x1 : Int32} {x2 : Int32} {res : Int32} (hf : fX10_layer h x0 x1 x2 = some res) : wC l yX10_layer cX10_layer 4 (some .int) 3 S0 [.ref 0, .int x0, .int x1, .int x2] h (wFI (fun a b => res = a ∧ h = b)) := by
  refine w_meth2 0 (by decide) (Nat.le_of_ble_eq_true rfl) (ls := [some (.ref 0), some (.int x0), some (.int x1), some (.int x2)]) rfl ?_
  intro p e s m args below meth c D dA b0 ad X hr
  exact pX10_layer_b0 X hr  (K := fun z => res = z) (fun x hz => ⟨x, rfl, hz, rfl⟩) ⟨res, hf, rfl⟩
set_option maxRecDepth 4000 in
theorem pX10_read_b0 (X : wCx p s m args meth c RX10 cX10_read 3 D dA b0 ad) (hr : meth.sig.returnType = (some .int)) {h : wSt} {x0 : Int32} {x1 : Int32} {K : Int32 × wSt → Prop} (hT : ∀ (x : Int32) (h2 : wSt), K (x, h2) → F (some (.int x)) h2) (hf : wok (fX10_read h x0 x1) K) : wM p l e (wR 5) s m args below meth c 0 0 (wE below args s D dA b0 ad S0 F) 3 D dA b0 ad S0 0 [some (.ref 0), some (.int x0), some (.int x1)] [] h := by
  unfold fX10_read at hf
  refine w_aload_n X dX10_read_0 rfl rfl rfl ?_
  refine w_getR X dX10_read_1 rfl fl_X10_19 S0_0 rfl ?_
  refine w_iload_n X dX10_read_4 rfl rfl rfl ?_
  refine w_iload_n X dX10_read_5 rfl rfl rfl ?_
  obtain ⟨yr21, eyr21, hf⟩ := wok_b hf
  refine w_callV X dX10_read_6 rfl vl_X10_161 (kX4_hasLine l in_3 eyr21) S0_3 (As := [.int x0, .int x1]) (st := []) rfl rfl (Nat.le_of_ble_eq_true rfl) ⟨Nat.le_of_ble_eq_true rfl, Nat.le_of_ble_eq_true rfl⟩ ⟨Nat.zero_le _, Nat.zero_le _⟩ (fun r h2 hF => ?_)
  obtain ⟨_, rfl, rfl, rfl⟩ := hF
  show wM p l e (wR 5) s m args below meth c 0 0 (wE below args s D dA b0 ad S0 F) 3 D dA b0 ad S0 9 [some (.ref 0), some (.int x0), some (.int x1)] [.int (wb yr21)] h
  refine w_if_eq X dX10_read_9 rfl (t := 31) rfl (fun hc => ?_) (fun hc => ?_)
  · have hf := wok_f hf (wb_0 hc)
    refine w_iconst X dX10_read_31 rfl ci_m1 ?_
    exact w_iret X dX10_read_32 hr (hT _ _ (wok_s hf))
  · have hf := wok_t hf (wb_n0 hc)
    refine w_aload_n X dX10_read_12 rfl rfl rfl ?_
    refine w_getR X dX10_read_13 rfl fl_X10_31 S0_0 rfl ?_
    refine w_iload_n X dX10_read_16 rfl rfl rfl ?_
    refine w_iload_n X dX10_read_17 rfl rfl rfl ?_
    refine w_aload_n X dX10_read_18 rfl rfl rfl ?_
    refine w_getR X dX10_read_19 rfl fl_X10_31 S0_0 rfl ?_
    obtain ⟨yr22, eyr22, hf⟩ := wok_b hf
    refine w_callV X dX10_read_22 rfl vl_X10_134 (kX6_damp l in_29 eyr22) S0_29 (As := []) (st := [.int x1, .int x0, .ref 29]) rfl rfl (Nat.le_of_ble_eq_true rfl) ⟨Nat.le_of_ble_eq_true rfl, Nat.le_of_ble_eq_true rfl⟩ ⟨Nat.zero_le _, Nat.zero_le _⟩ (fun r h2 hF => ?_)
    obtain ⟨_, rfl, rfl, rfl⟩ := hF
    show wM p l e (wR 5) s m args below meth c 0 0 (wE below args s D dA b0 ad S0 F) 3 D dA b0 ad S0 25 [some (.ref 0), some (.int x0), some (.int x1)] [.int yr22, .int x1, .int x0, .ref 29] h
    obtain ⟨yr23, eyr23, hf⟩ := wok_b hf
    refine w_callV X dX10_read_25 rfl vl_X10_170 (kX6_shown l in_29 eyr23) S0_29 (As := [.int x0, .int x1, .int yr22]) (st := []) rfl rfl (Nat.le_of_ble_eq_true rfl) ⟨Nat.le_of_ble_eq_true rfl, Nat.le_of_ble_eq_true rfl⟩ ⟨Nat.zero_le _, Nat.zero_le _⟩ (fun r h2 hF => ?_)
    obtain ⟨_, rfl, rfl, rfl⟩ := hF
    show wM p l e (wR 5) s m args below meth c 0 0 (wE below args s D dA b0 ad S0 F) 3 D dA b0 ad S0 28 [some (.ref 0), some (.int x0), some (.int x1)] [.int yr23.1] yr23.2
    refine w_goto X dX10_read_28 (t := 32) rfl ?_
    exact w_iret X dX10_read_32 hr (hT _ _ (wok_s hf))
set_option maxRecDepth 4000 in
theorem kX10_read (l : Launch) {h : wSt} {x0 : Int32} {x1 : Int32} {res : Int32 × wSt} (hf : fX10_read h x0 x1 = some res) : wC l yX10_read cX10_read 3 (some .int) 5 S0 [.ref 0, .int x0, .int x1] h (wFI (fun a b => res.1 = a ∧ res.2 = b)) := by
  refine w_meth2 0 (by decide) (Nat.le_of_ble_eq_true rfl) (ls := [some (.ref 0), some (.int x0), some (.int x1)]) rfl ?_
  intro p e s m args below meth c D dA b0 ad X hr
  exact pX10_read_b0 X hr  (K := fun z => res = z) (fun x h2 hz => ⟨x, rfl, by rw [hz], by rw [hz]⟩) ⟨res, hf, rfl⟩
set_option maxRecDepth 4000 in
theorem pX10_write_b0 (X : wCx p s m args meth c RX10 cX10_write 4 D dA b0 ad) (hr : meth.sig.returnType = (some .boolean)) {h : wSt} {x0 : Int32} {x1 : Int32} {x2 : Int32} {K : Bool × wSt → Prop} (hT : ∀ (x : Bool) (h2 : wSt), K (x, h2) → F (some (.int (wb x))) h2) (hf : wok (fX10_write h x0 x1 x2) K) : wM p l e (wR 3) s m args below meth c 0 0 (wE below args s D dA b0 ad S0 F) 4 D dA b0 ad S0 0 [some (.ref 0), some (.int x0), some (.int x1), some (.int x2)] [] h := by
  unfold fX10_write at hf
  refine w_aload_n X dX10_write_0 rfl rfl rfl ?_
  refine w_getR X dX10_write_1 rfl fl_X10_19 S0_0 rfl ?_
  refine w_iload_n X dX10_write_4 rfl rfl rfl ?_
  obtain ⟨yr21, eyr21, hf⟩ := wok_b hf
  refine w_callV X dX10_write_5 rfl vl_X10_142 (kX4_hasText l in_3 eyr21) S0_3 (As := [.int x0]) (st := []) rfl rfl (Nat.le_of_ble_eq_true rfl) ⟨Nat.le_of_ble_eq_true rfl, Nat.le_of_ble_eq_true rfl⟩ ⟨Nat.zero_le _, Nat.zero_le _⟩ (fun r h2 hF => ?_)
  obtain ⟨_, rfl, rfl, rfl⟩ := hF
  show wM p l e (wR 3) s m args below meth c 0 0 (wE below args s D dA b0 ad S0 F) 4 D dA b0 ad S0 8 [some (.ref 0), some (.int x0), some (.int x1), some (.int x2)] [.int (wb yr21)] h
  refine w_if_eq X dX10_write_8 rfl (t := 35) rfl (fun hc => ?_) (fun hc => ?_)
  · have hf := wok_f hf (wb_0 hc)
    refine w_iconst X dX10_write_35 rfl ci_0 ?_
    exact w_zret X dX10_write_36 hr rfl (hT false _ (wok_s hf))
  · have hf := wok_t hf (wb_n0 hc)
    refine w_aload_n X dX10_write_11 rfl rfl rfl ?_
    refine w_getR X dX10_write_12 rfl fl_X10_19 S0_0 rfl ?_
    refine w_iload_n X dX10_write_15 rfl rfl rfl ?_
    obtain ⟨yr22, eyr22, hf⟩ := wok_b hf
    refine w_callV X dX10_write_16 rfl vl_X10_117 (kX4_hasSkin l in_3 eyr22) S0_3 (As := [.int x1]) (st := []) rfl rfl (Nat.le_of_ble_eq_true rfl) ⟨Nat.le_of_ble_eq_true rfl, Nat.le_of_ble_eq_true rfl⟩ ⟨Nat.zero_le _, Nat.zero_le _⟩ (fun r h2 hF => ?_)
    obtain ⟨_, rfl, rfl, rfl⟩ := hF
    show wM p l e (wR 3) s m args below meth c 0 0 (wE below args s D dA b0 ad S0 F) 4 D dA b0 ad S0 19 [some (.ref 0), some (.int x0), some (.int x1), some (.int x2)] [.int (wb yr22)] h
    refine w_if_eq X dX10_write_19 rfl (t := 35) rfl (fun hc => ?_) (fun hc => ?_)
    · have hf := wok_f hf (wb_0 hc)
      refine w_iconst X dX10_write_35 rfl ci_0 ?_
      exact w_zret X dX10_write_36 hr rfl (hT false _ (wok_s hf))
    · have hf := wok_t hf (wb_n0 hc)
      refine w_aload_n X dX10_write_22 rfl rfl rfl ?_
      refine w_getR X dX10_write_23 rfl fl_X10_31 S0_0 rfl ?_
      refine w_iload_n X dX10_write_26 rfl rfl rfl ?_
      refine w_iload_n X dX10_write_27 rfl rfl rfl ?_
      refine w_iload_n X dX10_write_28 rfl rfl rfl ?_
      obtain ⟨yr23, eyr23, hf⟩ := wok_b hf
      refine w_callV X dX10_write_29 rfl vl_X10_174 (kX6_canWrite l in_29 eyr23) S0_29 (As := [.int x0, .int x1, .int x2]) (st := []) rfl rfl (Nat.le_of_ble_eq_true rfl) ⟨Nat.le_of_ble_eq_true rfl, Nat.le_of_ble_eq_true rfl⟩ ⟨Nat.zero_le _, Nat.zero_le _⟩ (fun r h2 hF => ?_)
      obtain ⟨_, rfl, rfl, rfl⟩ := hF
      show wM p l e (wR 3) s m args below meth c 0 0 (wE below args s D dA b0 ad S0 F) 4 D dA b0 ad S0 32 [some (.ref 0), some (.int x0), some (.int x1), some (.int x2)] [.int (wb yr23)] h
      refine w_if_ne X dX10_write_32 rfl (t := 37) rfl (fun hc => ?_) (fun hc => ?_)
      · have hf := wok_t hf (wb_n0 hc)
        refine w_aload_n X dX10_write_37 rfl rfl rfl ?_
        refine w_getR X dX10_write_38 rfl fl_X10_58 S0_0 rfl ?_
        refine w_aload_n X dX10_write_41 rfl rfl rfl ?_
        refine w_getR X dX10_write_42 rfl fl_X10_31 S0_0 rfl ?_
        obtain ⟨yr24, eyr24, hf⟩ := wok_b hf
        refine w_callV X dX10_write_45 rfl vl_X10_178 (kX8_keep l in_29 eyr24) S0_48 (As := [.ref 29]) (st := []) rfl rfl (Nat.le_of_ble_eq_true rfl) ⟨Nat.le_of_ble_eq_true rfl, Nat.le_of_ble_eq_true rfl⟩ ⟨Nat.zero_le _, Nat.zero_le _⟩ (fun r h2 hF => ?_)
        obtain ⟨rfl, rfl⟩ := hF
        show wM p l e (wR 3) s m args below meth c 0 0 (wE below args s D dA b0 ad S0 F) 4 D dA b0 ad S0 48 [some (.ref 0), some (.int x0), some (.int x1), some (.int x2)] [] yr24
        refine w_aload_n X dX10_write_48 rfl rfl rfl ?_
        refine w_getR X dX10_write_49 rfl fl_X10_31 S0_0 rfl ?_
        refine w_iload_n X dX10_write_52 rfl rfl rfl ?_
        refine w_iload_n X dX10_write_53 rfl rfl rfl ?_
        refine w_iload_n X dX10_write_54 rfl rfl rfl ?_
        obtain ⟨yr25, eyr25, hf⟩ := wok_b hf
        refine w_callV X dX10_write_55 rfl vl_X10_182 (kX6_put l in_29 eyr25) S0_29 (As := [.int x0, .int x1, .int x2]) (st := []) rfl rfl (Nat.le_of_ble_eq_true rfl) ⟨Nat.le_of_ble_eq_true rfl, Nat.le_of_ble_eq_true rfl⟩ ⟨Nat.zero_le _, Nat.zero_le _⟩ (fun r h2 hF => ?_)
        obtain ⟨rfl, rfl⟩ := hF
        show wM p l e (wR 3) s m args below meth c 0 0 (wE below args s D dA b0 ad S0 F) 4 D dA b0 ad S0 58 [some (.ref 0), some (.int x0), some (.int x1), some (.int x2)] [] yr25
        refine w_iconst X dX10_write_58 rfl ci_1 ?_
        exact w_zret X dX10_write_59 hr rfl (hT true _ (wok_s hf))
      · have hf := wok_f hf (wb_0 hc)
        refine w_iconst X dX10_write_35 rfl ci_0 ?_
        exact w_zret X dX10_write_36 hr rfl (hT false _ (wok_s hf))
set_option maxRecDepth 4000 in
theorem kX10_write (l : Launch) {h : wSt} {x0 : Int32} {x1 : Int32} {x2 : Int32} {res : Bool × wSt} (hf : fX10_write h x0 x1 x2 = some res) : wC l yX10_write cX10_write 4 (some .boolean) 3 S0 [.ref 0, .int x0, .int x1, .int x2] h (wFZ (fun a b => res.1 = a ∧ res.2 = b)) := by
  refine w_meth2 0 (by decide) (Nat.le_of_ble_eq_true rfl) (ls := [some (.ref 0), some (.int x0), some (.int x1), some (.int x2)]) rfl ?_
  intro p e s m args below meth c D dA b0 ad X hr
  exact pX10_write_b0 X hr  (K := fun z => res = z) (fun x h2 hz => ⟨x, rfl, by rw [hz], by rw [hz]⟩) ⟨res, hf, rfl⟩
set_option maxRecDepth 4000 in
theorem pX10_rubByHand_b0 (X : wCx p s m args meth c RX10 cX10_rubByHand 3 D dA b0 ad) (hr : meth.sig.returnType = (some .int)) {h : wSt} {x0 : Int32} {x1 : Int32} {K : Int32 × wSt → Prop} (hT : ∀ (x : Int32) (h2 : wSt), K (x, h2) → F (some (.int x)) h2) (hf : wok (fX10_rubByHand h x0 x1) K) : wM p l e (wR 4) s m args below meth c 0 0 (wE below args s D dA b0 ad S0 F) 3 D dA b0 ad S0 0 [some (.ref 0), some (.int x0), some (.int x1)] [] h := by
  unfold fX10_rubByHand at hf
  refine w_aload_n X dX10_rubByHand_0 rfl rfl rfl ?_
  refine w_getR X dX10_rubByHand_1 rfl fl_X10_19 S0_0 rfl ?_
  refine w_iload_n X dX10_rubByHand_4 rfl rfl rfl ?_
  obtain ⟨yr21, eyr21, hf⟩ := wok_b hf
  refine w_callV X dX10_rubByHand_5 rfl vl_X10_117 (kX4_hasSkin l in_3 eyr21) S0_3 (As := [.int x0]) (st := []) rfl rfl (Nat.le_of_ble_eq_true rfl) ⟨Nat.le_of_ble_eq_true rfl, Nat.le_of_ble_eq_true rfl⟩ ⟨Nat.zero_le _, Nat.zero_le _⟩ (fun r h2 hF => ?_)
  obtain ⟨_, rfl, rfl, rfl⟩ := hF
  show wM p l e (wR 4) s m args below meth c 0 0 (wE below args s D dA b0 ad S0 F) 3 D dA b0 ad S0 8 [some (.ref 0), some (.int x0), some (.int x1)] [.int (wb yr21)] h
  refine w_if_eq X dX10_rubByHand_8 rfl (t := 23) rfl (fun hc => ?_) (fun hc => ?_)
  · have hf := wok_f hf (wb_0 hc)
    refine w_iconst X dX10_rubByHand_23 rfl ci_m1 ?_
    exact w_iret X dX10_rubByHand_24 hr (hT _ _ (wok_s hf))
  · have hf := wok_t hf (wb_n0 hc)
    refine w_aload_n X dX10_rubByHand_11 rfl rfl rfl ?_
    refine w_getR X dX10_rubByHand_12 rfl fl_X10_31 S0_0 rfl ?_
    refine w_iload_n X dX10_rubByHand_15 rfl rfl rfl ?_
    refine w_iload_n X dX10_rubByHand_16 rfl rfl rfl ?_
    obtain ⟨yr22, eyr22, hf⟩ := wok_b hf
    refine w_callV X dX10_rubByHand_17 rfl vl_X10_189 (kX6_canRub l in_29 eyr22) S0_29 (As := [.int x0, .int x1]) (st := []) rfl rfl (Nat.le_of_ble_eq_true rfl) ⟨Nat.le_of_ble_eq_true rfl, Nat.le_of_ble_eq_true rfl⟩ ⟨Nat.zero_le _, Nat.zero_le _⟩ (fun r h2 hF => ?_)
    obtain ⟨_, rfl, rfl, rfl⟩ := hF
    show wM p l e (wR 4) s m args below meth c 0 0 (wE below args s D dA b0 ad S0 F) 3 D dA b0 ad S0 20 [some (.ref 0), some (.int x0), some (.int x1)] [.int (wb yr22)] h
    refine w_if_ne X dX10_rubByHand_20 rfl (t := 25) rfl (fun hc => ?_) (fun hc => ?_)
    · have hf := wok_t hf (wb_n0 hc)
      refine w_aload_n X dX10_rubByHand_25 rfl rfl rfl ?_
      refine w_getR X dX10_rubByHand_26 rfl fl_X10_58 S0_0 rfl ?_
      refine w_aload_n X dX10_rubByHand_29 rfl rfl rfl ?_
      refine w_getR X dX10_rubByHand_30 rfl fl_X10_31 S0_0 rfl ?_
      obtain ⟨yr23, eyr23, hf⟩ := wok_b hf
      refine w_callV X dX10_rubByHand_33 rfl vl_X10_178 (kX8_keep l in_29 eyr23) S0_48 (As := [.ref 29]) (st := []) rfl rfl (Nat.le_of_ble_eq_true rfl) ⟨Nat.le_of_ble_eq_true rfl, Nat.le_of_ble_eq_true rfl⟩ ⟨Nat.zero_le _, Nat.zero_le _⟩ (fun r h2 hF => ?_)
      obtain ⟨rfl, rfl⟩ := hF
      show wM p l e (wR 4) s m args below meth c 0 0 (wE below args s D dA b0 ad S0 F) 3 D dA b0 ad S0 36 [some (.ref 0), some (.int x0), some (.int x1)] [] yr23
      refine w_aload_n X dX10_rubByHand_36 rfl rfl rfl ?_
      refine w_getR X dX10_rubByHand_37 rfl fl_X10_31 S0_0 rfl ?_
      refine w_iload_n X dX10_rubByHand_40 rfl rfl rfl ?_
      refine w_iload_n X dX10_rubByHand_41 rfl rfl rfl ?_
      obtain ⟨yr24, eyr24, hf⟩ := wok_b hf
      refine w_callV X dX10_rubByHand_42 rfl vl_X10_192 (kX6_rub l in_29 eyr24) S0_29 (As := [.int x0, .int x1]) (st := []) rfl rfl (Nat.le_of_ble_eq_true rfl) ⟨Nat.le_of_ble_eq_true rfl, Nat.le_of_ble_eq_true rfl⟩ ⟨Nat.zero_le _, Nat.zero_le _⟩ (fun r h2 hF => ?_)
      obtain ⟨_, rfl, rfl, rfl⟩ := hF
      show wM p l e (wR 4) s m args below meth c 0 0 (wE below args s D dA b0 ad S0 F) 3 D dA b0 ad S0 45 [some (.ref 0), some (.int x0), some (.int x1)] [.int (wb yr24.1)] yr24.2
      refine w_pop X dX10_rubByHand_45 rfl rfl ?_
      refine w_aload_n X dX10_rubByHand_46 rfl rfl rfl ?_
      refine w_getR X dX10_rubByHand_47 rfl fl_X10_31 S0_0 rfl ?_
      refine w_getR X dX10_rubByHand_50 rfl fl_X10_125 S0_29 rfl ?_
      refine w_iload_n X dX10_rubByHand_53 rfl rfl rfl ?_
      obtain ⟨yhg25, hf⟩ := wok_g hf
      refine w_iald X dX10_rubByHand_54 rfl (j := x0.toNatClampNeg) rfl S0_30 yhg25 ?_
      exact w_iret X dX10_rubByHand_55 hr (hT _ _ (wok_s hf))
    · have hf := wok_f hf (wb_0 hc)
      refine w_iconst X dX10_rubByHand_23 rfl ci_m1 ?_
      exact w_iret X dX10_rubByHand_24 hr (hT _ _ (wok_s hf))
set_option maxRecDepth 4000 in
theorem kX10_rubByHand (l : Launch) {h : wSt} {x0 : Int32} {x1 : Int32} {res : Int32 × wSt} (hf : fX10_rubByHand h x0 x1 = some res) : wC l yX10_rubByHand cX10_rubByHand 3 (some .int) 4 S0 [.ref 0, .int x0, .int x1] h (wFI (fun a b => res.1 = a ∧ res.2 = b)) := by
  refine w_meth2 0 (by decide) (Nat.le_of_ble_eq_true rfl) (ls := [some (.ref 0), some (.int x0), some (.int x1)]) rfl ?_
  intro p e s m args below meth c D dA b0 ad X hr
  exact pX10_rubByHand_b0 X hr  (K := fun z => res = z) (fun x h2 hz => ⟨x, rfl, by rw [hz], by rw [hz]⟩) ⟨res, hf, rfl⟩
set_option maxRecDepth 4000 in
theorem pX10_scrape_b0 (X : wCx p s m args meth c RX10 cX10_scrape 2 D dA b0 ad) (hr : meth.sig.returnType = (some .int)) {h : wSt} {x0 : Int32} {K : Int32 × wSt → Prop} (hT : ∀ (x : Int32) (h2 : wSt), K (x, h2) → F (some (.int x)) h2) (hf : wok (fX10_scrape h x0) K) : wM p l e (wR 5) s m args below meth c 0 0 (wE below args s D dA b0 ad S0 F) 2 D dA b0 ad S0 0 [some (.ref 0), some (.int x0)] [] h := by
  unfold fX10_scrape at hf
  refine w_aload_n X dX10_scrape_0 rfl rfl rfl ?_
  refine w_iload_n X dX10_scrape_1 rfl rfl rfl ?_
  refine w_bipush X dX10_scrape_2 rfl cb_63 ?_
  obtain ⟨yr21, eyr21, hf⟩ := wok_b hf
  refine w_callV X dX10_scrape_4 rfl vl_X10_186 (kX10_rubByHand l  eyr21) S0_0 (As := [.int x0, .int 63]) (st := []) rfl rfl (Nat.le_of_ble_eq_true rfl) ⟨Nat.le_of_ble_eq_true rfl, Nat.le_of_ble_eq_true rfl⟩ ⟨Nat.zero_le _, Nat.zero_le _⟩ (fun r h2 hF => ?_)
  obtain ⟨_, rfl, rfl, rfl⟩ := hF
  show wM p l e (wR 5) s m args below meth c 0 0 (wE below args s D dA b0 ad S0 F) 2 D dA b0 ad S0 7 [some (.ref 0), some (.int x0)] [.int yr21.1] yr21.2
  exact w_iret X dX10_scrape_7 hr (hT _ _ (wok_s hf))
set_option maxRecDepth 4000 in
theorem kX10_scrape (l : Launch) {h : wSt} {x0 : Int32} {res : Int32 × wSt} (hf : fX10_scrape h x0 = some res) : wC l yX10_scrape cX10_scrape 2 (some .int) 5 S0 [.ref 0, .int x0] h (wFI (fun a b => res.1 = a ∧ res.2 = b)) := by
  refine w_meth2 0 (by decide) (Nat.le_of_ble_eq_true rfl) (ls := [some (.ref 0), some (.int x0)]) rfl ?_
  intro p e s m args below meth c D dA b0 ad X hr
  exact pX10_scrape_b0 X hr  (K := fun z => res = z) (fun x h2 hz => ⟨x, rfl, by rw [hz], by rw [hz]⟩) ⟨res, hf, rfl⟩
set_option maxRecDepth 4000 in
theorem pX10_third_b0 (X : wCx p s m args meth c RX10 cX10_third 2 D dA b0 ad) (hr : meth.sig.returnType = (some .int)) {h : wSt} {x0 : Int32} {K : Int32 × wSt → Prop} (hT : ∀ (x : Int32) (h2 : wSt), K (x, h2) → F (some (.int x)) h2) (hf : wok (fX10_third h x0) K) : wM p l e (wR 5) s m args below meth c 0 0 (wE below args s D dA b0 ad S0 F) 2 D dA b0 ad S0 0 [some (.ref 0), some (.int x0)] [] h := by
  unfold fX10_third at hf
  refine w_aload_n X dX10_third_0 rfl rfl rfl ?_
  refine w_iload_n X dX10_third_1 rfl rfl rfl ?_
  refine w_bipush X dX10_third_2 rfl cb_9 ?_
  obtain ⟨yr21, eyr21, hf⟩ := wok_b hf
  refine w_callV X dX10_third_4 rfl vl_X10_186 (kX10_rubByHand l  eyr21) S0_0 (As := [.int x0, .int 9]) (st := []) rfl rfl (Nat.le_of_ble_eq_true rfl) ⟨Nat.le_of_ble_eq_true rfl, Nat.le_of_ble_eq_true rfl⟩ ⟨Nat.zero_le _, Nat.zero_le _⟩ (fun r h2 hF => ?_)
  obtain ⟨_, rfl, rfl, rfl⟩ := hF
  show wM p l e (wR 5) s m args below meth c 0 0 (wE below args s D dA b0 ad S0 F) 2 D dA b0 ad S0 7 [some (.ref 0), some (.int x0)] [.int yr21.1] yr21.2
  exact w_iret X dX10_third_7 hr (hT _ _ (wok_s hf))
set_option maxRecDepth 4000 in
theorem kX10_third (l : Launch) {h : wSt} {x0 : Int32} {res : Int32 × wSt} (hf : fX10_third h x0 = some res) : wC l yX10_third cX10_third 2 (some .int) 5 S0 [.ref 0, .int x0] h (wFI (fun a b => res.1 = a ∧ res.2 = b)) := by
  refine w_meth2 0 (by decide) (Nat.le_of_ble_eq_true rfl) (ls := [some (.ref 0), some (.int x0)]) rfl ?_
  intro p e s m args below meth c D dA b0 ad X hr
  exact pX10_third_b0 X hr  (K := fun z => res = z) (fun x h2 hz => ⟨x, rfl, by rw [hz], by rw [hz]⟩) ⟨res, hf, rfl⟩
set_option maxRecDepth 4000 in
theorem pX10_week_b0 (X : wCx p s m args meth c RX10 cX10_week 1 D dA b0 ad) (hr : meth.sig.returnType = (some .int)) {h : wSt} {K : Int32 × wSt → Prop} (hT : ∀ (x : Int32) (h2 : wSt), K (x, h2) → F (some (.int x)) h2) (hf : wok (fX10_week h ) K) : wM p l e (wR 3) s m args below meth c 0 0 (wE below args s D dA b0 ad S0 F) 1 D dA b0 ad S0 0 [some (.ref 0)] [] h := by
  unfold fX10_week at hf
  refine w_aload_n X dX10_week_0 rfl rfl rfl ?_
  refine w_getR X dX10_week_1 rfl fl_X10_58 S0_0 rfl ?_
  refine w_aload_n X dX10_week_4 rfl rfl rfl ?_
  refine w_getR X dX10_week_5 rfl fl_X10_31 S0_0 rfl ?_
  obtain ⟨yr21, eyr21, hf⟩ := wok_b hf
  refine w_callV X dX10_week_8 rfl vl_X10_178 (kX8_keep l in_29 eyr21) S0_48 (As := [.ref 29]) (st := []) rfl rfl (Nat.le_of_ble_eq_true rfl) ⟨Nat.le_of_ble_eq_true rfl, Nat.le_of_ble_eq_true rfl⟩ ⟨Nat.zero_le _, Nat.zero_le _⟩ (fun r h2 hF => ?_)
  obtain ⟨rfl, rfl⟩ := hF
  show wM p l e (wR 3) s m args below meth c 0 0 (wE below args s D dA b0 ad S0 F) 1 D dA b0 ad S0 11 [some (.ref 0)] [] yr21
  refine w_aload_n X dX10_week_11 rfl rfl rfl ?_
  refine w_getR X dX10_week_12 rfl fl_X10_31 S0_0 rfl ?_
  refine w_dup X dX10_week_15 rfl rfl ?_
  refine w_getI X dX10_week_16 rfl fl_X10_195 S0_29 rfl ?_
  refine w_iconst X dX10_week_19 rfl ci_1 ?_
  refine w_iadd X dX10_week_20 rfl ?_
  refine w_putI X dX10_week_21 rfl fp_X10_195 S0_29 rfl ?_
  refine w_nmh (fun yh22 eyh22 => ?_)
  have hf := wok_l hf eyh22
  refine w_aload_n X dX10_week_24 rfl rfl rfl ?_
  refine w_getR X dX10_week_25 rfl fl_X10_31 S0_0 rfl ?_
  refine w_getI X dX10_week_28 rfl fl_X10_195 S0_29 rfl ?_
  exact w_iret X dX10_week_31 hr (hT _ _ (wok_s hf))
set_option maxRecDepth 4000 in
theorem kX10_week (l : Launch) {h : wSt} {res : Int32 × wSt} (hf : fX10_week h  = some res) : wC l yX10_week cX10_week 1 (some .int) 3 S0 [.ref 0] h (wFI (fun a b => res.1 = a ∧ res.2 = b)) := by
  refine w_meth2 0 (by decide) (Nat.le_of_ble_eq_true rfl) (ls := [some (.ref 0)]) rfl ?_
  intro p e s m args below meth c D dA b0 ad X hr
  exact pX10_week_b0 X hr  (K := fun z => res = z) (fun x h2 hz => ⟨x, rfl, by rw [hz], by rw [hz]⟩) ⟨res, hf, rfl⟩
set_option maxRecDepth 4000 in
theorem pX10_undo_b0 (X : wCx p s m args meth c RX10 cX10_undo 1 D dA b0 ad) (hr : meth.sig.returnType = (some .boolean)) {h : wSt} {K : Bool × wSt → Prop} (hT : ∀ (x : Bool) (h2 : wSt), K (x, h2) → F (some (.int (wb x))) h2) (hf : wok (fX10_undo h ) K) : wM p l e (wR 3) s m args below meth c 0 0 (wE below args s D dA b0 ad S0 F) 1 D dA b0 ad S0 0 [some (.ref 0)] [] h := by
  unfold fX10_undo at hf
  refine w_aload_n X dX10_undo_0 rfl rfl rfl ?_
  refine w_getR X dX10_undo_1 rfl fl_X10_58 S0_0 rfl ?_
  refine w_aload_n X dX10_undo_4 rfl rfl rfl ?_
  refine w_getR X dX10_undo_5 rfl fl_X10_31 S0_0 rfl ?_
  obtain ⟨yr21, eyr21, hf⟩ := wok_b hf
  refine w_callV X dX10_undo_8 rfl vl_X10_198 (kX8_takeBack l in_29 eyr21) S0_48 (As := [.ref 29]) (st := []) rfl rfl (Nat.le_of_ble_eq_true rfl) ⟨Nat.le_of_ble_eq_true rfl, Nat.le_of_ble_eq_true rfl⟩ ⟨Nat.zero_le _, Nat.zero_le _⟩ (fun r h2 hF => ?_)
  obtain ⟨_, rfl, rfl, rfl⟩ := hF
  show wM p l e (wR 3) s m args below meth c 0 0 (wE below args s D dA b0 ad S0 F) 1 D dA b0 ad S0 11 [some (.ref 0)] [.int (wb yr21.1)] yr21.2
  exact w_zret X dX10_undo_11 hr (wb_n _) (hT _ _ (wok_s hf))
set_option maxRecDepth 4000 in
theorem kX10_undo (l : Launch) {h : wSt} {res : Bool × wSt} (hf : fX10_undo h  = some res) : wC l yX10_undo cX10_undo 1 (some .boolean) 3 S0 [.ref 0] h (wFZ (fun a b => res.1 = a ∧ res.2 = b)) := by
  refine w_meth2 0 (by decide) (Nat.le_of_ble_eq_true rfl) (ls := [some (.ref 0)]) rfl ?_
  intro p e s m args below meth c D dA b0 ad X hr
  exact pX10_undo_b0 X hr  (K := fun z => res = z) (fun x h2 hz => ⟨x, rfl, by rw [hz], by rw [hz]⟩) ⟨res, hf, rfl⟩
set_option maxRecDepth 4000 in
theorem pX10_judged_b99_26 (X : wCx p s m args meth c RX10 cX10_judged 7 D dA b0 ad) (hr : meth.sig.returnType = (some .int)) {h : wSt} {v1 : Int32} {v2 : Int32} {v3 : Int32} {v4 : Int32} {K : (Int32 × Int32 × Int32 × wSt) ⊕ ((Int32 × Int32 × wSt)) → Prop} (hN : ∀ (n2 : Int32) (n3 : Int32) (n4 : Int32) (nh : wSt), K (.inl (n2, n3, n4, nh)) → wM p l e (wR 6) s m args below meth c 0 0 (wE below args s D dA b0 ad S0 F) 7 D dA b0 ad S0 26 [some (.ref 0), some (.int v1), some (.int n2), some (.int n3), some (.int n4), none, none] [] nh) (hX0 : ∀ (n2 : Int32) (n3 : Int32) (nh : wSt), K (.inr (n2, n3, nh)) → wM p l e (wR 6) s m args below meth c 0 0 (wE below args s D dA b0 ad S0 F) 7 D dA b0 ad S0 105 [some (.ref 0), some (.int v1), some (.int n2), some (.int n3), none, none, none] [] nh) (hf : wok (fX10_judged_b99_26 h v1 v2 v3 v4) K) : wM p l e (wR 6) s m args below meth c 0 0 (wE below args s D dA b0 ad S0 F) 7 D dA b0 ad S0 99 [some (.ref 0), some (.int v1), some (.int v2), some (.int v3), some (.int v4), none, none] [] h := by
  unfold fX10_judged_b99_26 at hf
  refine w_iinc X dX10_judged_99 rfl (v := (v4 + 1)) rfl rfl (Nat.le_of_ble_eq_true rfl) (cinc_1 _) (ls' := [some (.ref 0), some (.int v1), some (.int v2), some (.int v3), some (.int (v4 + 1)), none, none]) rfl ?_
  refine w_goto X dX10_judged_102 (t := 26) rfl ?_
  exact hN _ _ _ _ (wok_s hf)
set_option maxRecDepth 4000 in
theorem pX10_judged_b79_26 (X : wCx p s m args meth c RX10 cX10_judged 7 D dA b0 ad) (hr : meth.sig.returnType = (some .int)) {h : wSt} {v1 : Int32} {v2 : Int32} {v3 : Int32} {v4 : Int32} {v5 : Int32} {K : (Int32 × Int32 × Int32 × wSt) ⊕ ((Int32 × Int32 × wSt)) → Prop} (hN : ∀ (n2 : Int32) (n3 : Int32) (n4 : Int32) (nh : wSt), K (.inl (n2, n3, n4, nh)) → wM p l e (wR 6) s m args below meth c 0 0 (wE below args s D dA b0 ad S0 F) 7 D dA b0 ad S0 26 [some (.ref 0), some (.int v1), some (.int n2), some (.int n3), some (.int n4), none, none] [] nh) (hX0 : ∀ (n2 : Int32) (n3 : Int32) (nh : wSt), K (.inr (n2, n3, nh)) → wM p l e (wR 6) s m args below meth c 0 0 (wE below args s D dA b0 ad S0 F) 7 D dA b0 ad S0 105 [some (.ref 0), some (.int v1), some (.int n2), some (.int n3), none, none, none] [] nh) (hf : wok (fX10_judged_b79_26 h v1 v2 v3 v4 v5) K) : wM p l e (wR 6) s m args below meth c 0 0 (wE below args s D dA b0 ad S0 F) 7 D dA b0 ad S0 79 [some (.ref 0), some (.int v1), some (.int v2), some (.int v3), some (.int v4), some (.int v5), none] [] h := by
  unfold fX10_judged_b79_26 at hf
  refine w_aload_n X dX10_judged_79 rfl rfl rfl ?_
  refine w_getR X dX10_judged_80 rfl fl_X10_35 S0_0 rfl ?_
  obtain ⟨yr25, eyr25, hf⟩ := wok_b hf
  refine w_callV X dX10_judged_83 rfl vl_X10_205 (kX6_goneSkins l in_34 eyr25) S0_34 (As := []) (st := []) rfl rfl (Nat.le_of_ble_eq_true rfl) ⟨Nat.le_of_ble_eq_true rfl, Nat.le_of_ble_eq_true rfl⟩ ⟨Nat.zero_le _, Nat.zero_le _⟩ (fun r h2 hF => ?_)
  obtain ⟨_, rfl, rfl, rfl⟩ := hF
  show wM p l e (wR 6) s m args below meth c 0 0 (wE below args s D dA b0 ad S0 F) 7 D dA b0 ad S0 86 [some (.ref 0), some (.int v1), some (.int v2), some (.int v3), some (.int v4), some (.int v5), none] [.int yr25] h
  refine w_iload X dX10_judged_86 rfl rfl ?_
  refine w_icmp_eq X dX10_judged_88 rfl (t := 99) rfl (fun hc => ?_) (fun hc => ?_)
  · have hf := wok_t hf hc
    refine w_fg (ls2 := [some (.ref 0), some (.int v1), some (.int v2), some (.int v3), some (.int v4), none, none]) ⟨rfl, rfl, rfl, rfl, rfl, trivial⟩ ?_
    exact pX10_judged_b99_26 X hr  hN hX0 hf
  · have hf := wok_f hf hc
    refine w_iload_n X dX10_judged_91 rfl rfl rfl ?_
    refine w_iconst X dX10_judged_92 rfl ci_m1 ?_
    refine w_icmp_ne X dX10_judged_93 rfl (t := 99) rfl (fun hc => ?_) (fun hc => ?_)
    · have hf := wok_f hf hc
      refine w_fg (ls2 := [some (.ref 0), some (.int v1), some (.int v2), some (.int v3), some (.int v4), none, none]) ⟨rfl, rfl, rfl, rfl, rfl, trivial⟩ ?_
      exact pX10_judged_b99_26 X hr  hN hX0 hf
    · have hf := wok_t hf hc
      refine w_iload X dX10_judged_96 rfl rfl ?_
      refine w_istore_n X dX10_judged_98 rfl rfl rfl (Nat.le_of_ble_eq_true rfl) (ls' := [some (.ref 0), some (.int v1), some (.int v2), some (.int v4), some (.int v4), some (.int v5), none]) rfl ?_
      refine w_fg (ls2 := [some (.ref 0), some (.int v1), some (.int v2), some (.int v4), some (.int v4), none, none]) ⟨rfl, rfl, rfl, rfl, rfl, trivial⟩ ?_
      exact pX10_judged_b99_26 X hr  hN hX0 hf
set_option maxRecDepth 4000 in
theorem pX10_judged_l26b (X : wCx p s m args meth c RX10 cX10_judged 7 D dA b0 ad) (hr : meth.sig.returnType = (some .int)) {h : wSt} {v1 : Int32} {v2 : Int32} {v3 : Int32} {v4 : Int32} {K : (Int32 × Int32 × Int32 × wSt) ⊕ ((Int32 × Int32 × wSt)) → Prop} (hN : ∀ (n2 : Int32) (n3 : Int32) (n4 : Int32) (nh : wSt), K (.inl (n2, n3, n4, nh)) → wM p l e (wR 6) s m args below meth c 0 0 (wE below args s D dA b0 ad S0 F) 7 D dA b0 ad S0 26 [some (.ref 0), some (.int v1), some (.int n2), some (.int n3), some (.int n4), none, none] [] nh) (hX0 : ∀ (n2 : Int32) (n3 : Int32) (nh : wSt), K (.inr (n2, n3, nh)) → wM p l e (wR 6) s m args below meth c 0 0 (wE below args s D dA b0 ad S0 F) 7 D dA b0 ad S0 105 [some (.ref 0), some (.int v1), some (.int n2), some (.int n3), none, none, none] [] nh) (hf : wok (fX10_judged_l26 h v1 v2 v3 v4) K) : wM p l e (wR 6) s m args below meth c 0 0 (wE below args s D dA b0 ad S0 F) 7 D dA b0 ad S0 26 [some (.ref 0), some (.int v1), some (.int v2), some (.int v3), some (.int v4), none, none] [] h := by
  unfold fX10_judged_l26 at hf
  refine w_iload X dX10_judged_26 rfl rfl ?_
  refine w_aload_n X dX10_judged_28 rfl rfl rfl ?_
  refine w_getR X dX10_judged_29 rfl fl_X10_41 S0_0 rfl ?_
  refine w_getI X dX10_judged_32 rfl fl_X10_202 S0_39 rfl ?_
  refine w_icmp_ge X dX10_judged_35 rfl (t := 105) rfl (fun hc => ?_) (fun hc => ?_)
  · have hf := wok_t hf hc
    refine w_fg (ls2 := [some (.ref 0), some (.int v1), some (.int v2), some (.int v3), none, none, none]) ⟨rfl, rfl, rfl, rfl, trivial⟩ ?_
    exact hX0 _ _ _ (wok_s hf)
  · have hf := wok_f hf hc
    refine w_aload_n X dX10_judged_38 rfl rfl rfl ?_
    refine w_getR X dX10_judged_39 rfl fl_X10_35 S0_0 rfl ?_
    obtain ⟨yr22, eyr22, hf⟩ := wok_b hf
    refine w_callV X dX10_judged_42 rfl vl_X10_205 (kX6_goneSkins l in_34 eyr22) S0_34 (As := []) (st := []) rfl rfl (Nat.le_of_ble_eq_true rfl) ⟨Nat.le_of_ble_eq_true rfl, Nat.le_of_ble_eq_true rfl⟩ ⟨Nat.zero_le _, Nat.zero_le _⟩ (fun r h2 hF => ?_)
    obtain ⟨_, rfl, rfl, rfl⟩ := hF
    show wM p l e (wR 6) s m args below meth c 0 0 (wE below args s D dA b0 ad S0 F) 7 D dA b0 ad S0 45 [some (.ref 0), some (.int v1), some (.int v2), some (.int v3), some (.int v4), none, none] [.int yr22] h
    refine w_istore X dX10_judged_45 rfl rfl (Nat.le_of_ble_eq_true rfl) (ls' := [some (.ref 0), some (.int v1), some (.int v2), some (.int v3), some (.int v4), some (.int yr22), none]) rfl ?_
    refine w_aload_n X dX10_judged_47 rfl rfl rfl ?_
    refine w_getR X dX10_judged_48 rfl fl_X10_35 S0_0 rfl ?_
    refine w_aload_n X dX10_judged_51 rfl rfl rfl ?_
    refine w_getR X dX10_judged_52 rfl fl_X10_41 S0_0 rfl ?_
    refine w_getR X dX10_judged_55 rfl fl_X10_208 S0_39 rfl ?_
    refine w_iload X dX10_judged_58 rfl rfl ?_
    obtain ⟨yhg23, hf⟩ := wok_g hf
    refine w_iald X dX10_judged_60 rfl (j := v4.toNatClampNeg) rfl S0_40 yhg23 ?_
    obtain ⟨yr24, eyr24, hf⟩ := wok_b hf
    refine w_callV X dX10_judged_61 rfl vl_X10_209 (kX6_follow l in_34 eyr24) S0_34 (As := [.int (h.1 40 v4.toNatClampNeg)]) (st := []) rfl rfl (Nat.le_of_ble_eq_true rfl) ⟨Nat.le_of_ble_eq_true rfl, Nat.le_of_ble_eq_true rfl⟩ ⟨Nat.zero_le _, Nat.zero_le _⟩ (fun r h2 hF => ?_)
    obtain ⟨_, rfl, rfl, rfl⟩ := hF
    show wM p l e (wR 6) s m args below meth c 0 0 (wE below args s D dA b0 ad S0 F) 7 D dA b0 ad S0 64 [some (.ref 0), some (.int v1), some (.int v2), some (.int v3), some (.int v4), some (.int yr22), none] [.int (wb yr24.1)] yr24.2
    refine w_istore X dX10_judged_64 rfl rfl (Nat.le_of_ble_eq_true rfl) (ls' := [some (.ref 0), some (.int v1), some (.int v2), some (.int v3), some (.int v4), some (.int yr22), some (.int (wb yr24.1))]) rfl ?_
    refine w_iload X dX10_judged_66 rfl rfl ?_
    refine w_if_ne X dX10_judged_68 rfl (t := 79) rfl (fun hc => ?_) (fun hc => ?_)
    · have hf := wok_t hf (wb_n0 hc)
      refine w_fg (ls2 := [some (.ref 0), some (.int v1), some (.int v2), some (.int v3), some (.int v4), some (.int yr22), none]) ⟨rfl, rfl, rfl, rfl, rfl, rfl, trivial⟩ ?_
      exact pX10_judged_b79_26 X hr  hN hX0 hf
    · have hf := wok_f hf (wb_0 hc)
      refine w_iload_n X dX10_judged_71 rfl rfl rfl ?_
      refine w_iconst X dX10_judged_72 rfl ci_m1 ?_
      refine w_icmp_ne X dX10_judged_73 rfl (t := 79) rfl (fun hc => ?_) (fun hc => ?_)
      · have hf := wok_f hf hc
        refine w_fg (ls2 := [some (.ref 0), some (.int v1), some (.int v2), some (.int v3), some (.int v4), some (.int yr22), none]) ⟨rfl, rfl, rfl, rfl, rfl, rfl, trivial⟩ ?_
        exact pX10_judged_b79_26 X hr  hN hX0 hf
      · have hf := wok_t hf hc
        refine w_iload X dX10_judged_76 rfl rfl ?_
        refine w_istore_n X dX10_judged_78 rfl rfl rfl (Nat.le_of_ble_eq_true rfl) (ls' := [some (.ref 0), some (.int v1), some (.int v4), some (.int v3), some (.int v4), some (.int yr22), some (.int (wb yr24.1))]) rfl ?_
        refine w_fg (ls2 := [some (.ref 0), some (.int v1), some (.int v4), some (.int v3), some (.int v4), some (.int yr22), none]) ⟨rfl, rfl, rfl, rfl, rfl, rfl, trivial⟩ ?_
        exact pX10_judged_b79_26 X hr  hN hX0 hf
set_option maxRecDepth 4000 in
theorem pX10_judged_l26 (X : wCx p s m args meth c RX10 cX10_judged 7 D dA b0 ad) (hr : meth.sig.returnType = (some .int))  {v1 : Int32} {KE : (Int32 × Int32 × wSt) → Prop} (hX0 : ∀ (n2 : Int32) (n3 : Int32) (nh : wSt), KE ((n2, n3, nh)) → wM p l e (wR 6) s m args below meth c 0 0 (wE below args s D dA b0 ad S0 F) 7 D dA b0 ad S0 105 [some (.ref 0), some (.int v1), some (.int n2), some (.int n3), none, none, none] [] nh) : ∀ (n : Nat) (v2 : Int32) (v3 : Int32) (v4 : Int32) (h : wSt), wok (wit (fun v : (Int32 × Int32 × Int32 × wSt) => fX10_judged_l26 v.2.2.2 v1 v.1 v.2.1 v.2.2.1) n (v2, v3, v4, h)) KE → wM p l e (wR 6) s m args below meth c 0 0 (wE below args s D dA b0 ad S0 F) 7 D dA b0 ad S0 26 [some (.ref 0), some (.int v1), some (.int v2), some (.int v3), some (.int v4), none, none] [] h := by
  have key := wit_M (b := (fun v : (Int32 × Int32 × Int32 × wSt) => fX10_judged_l26 v.2.2.2 v1 v.1 v.2.1 v.2.2.1)) (KE := KE) (G := fun v => wM p l e (wR 6) s m args below meth c 0 0 (wE below args s D dA b0 ad S0 F) 7 D dA b0 ad S0 26 [some (.ref 0), some (.int v1), some (.int v.1), some (.int v.2.1), some (.int v.2.2.1), none, none] [] v.2.2.2) (fun v K hN hE hf => pX10_judged_l26b X hr  (fun n2 n3 n4 nh hz => hN (n2, n3, n4, nh) hz) (fun z0 z1 z2 hz => hX0 z0 z1 z2 (hE _ hz)) hf)
  exact fun n v2 v3 v4 h hf => key n (v2, v3, v4, h) hf
set_option maxRecDepth 4000 in
theorem pX10_judged_b0 (X : wCx p s m args meth c RX10 cX10_judged 7 D dA b0 ad) (hr : meth.sig.returnType = (some .int)) {h : wSt} {x0 : Int32} {K : Int32 × wSt → Prop} (hT : ∀ (x : Int32) (h2 : wSt), K (x, h2) → F (some (.int x)) h2) (hf : wok (fX10_judged h x0) K) : wM p l e (wR 6) s m args below meth c 0 0 (wE below args s D dA b0 ad S0 F) 7 D dA b0 ad S0 0 [some (.ref 0), some (.int x0), none, none, none, none, none] [] h := by
  unfold fX10_judged at hf
  refine w_iload_n X dX10_judged_0 rfl rfl rfl ?_
  refine w_if_lt X dX10_judged_1 rfl (t := 9) rfl (fun hc => ?_) (fun hc => ?_)
  · have hf := wok_t hf hc
    refine w_bipush X dX10_judged_9 rfl cb_m2 ?_
    exact w_iret X dX10_judged_11 hr (hT _ _ (wok_s hf))
  · have hf := wok_f hf hc
    refine w_iload_n X dX10_judged_4 rfl rfl rfl ?_
    refine w_iconst X dX10_judged_5 rfl ci_2 ?_
    refine w_icmp_le X dX10_judged_6 rfl (t := 12) rfl (fun hc => ?_) (fun hc => ?_)
    · have hf := wok_t hf hc
      refine w_aload_n X dX10_judged_12 rfl rfl rfl ?_
      refine w_getR X dX10_judged_13 rfl fl_X10_35 S0_0 rfl ?_
      obtain ⟨yr21, eyr21, hf⟩ := wok_b hf
      refine w_callV X dX10_judged_16 rfl vl_X10_101 (kX6_begin l in_34 eyr21) S0_34 (As := []) (st := []) rfl rfl (Nat.le_of_ble_eq_true rfl) ⟨Nat.le_of_ble_eq_true rfl, Nat.le_of_ble_eq_true rfl⟩ ⟨Nat.zero_le _, Nat.zero_le _⟩ (fun r h2 hF => ?_)
      obtain ⟨rfl, rfl⟩ := hF
      show wM p l e (wR 6) s m args below meth c 0 0 (wE below args s D dA b0 ad S0 F) 7 D dA b0 ad S0 19 [some (.ref 0), some (.int x0), none, none, none, none, none] [] yr21
      refine w_iconst X dX10_judged_19 rfl ci_m1 ?_
      refine w_istore_n X dX10_judged_20 rfl rfl rfl (Nat.le_of_ble_eq_true rfl) (ls' := [some (.ref 0), some (.int x0), some (.int (-1)), none, none, none, none]) rfl ?_
      refine w_iconst X dX10_judged_21 rfl ci_m1 ?_
      refine w_istore_n X dX10_judged_22 rfl rfl rfl (Nat.le_of_ble_eq_true rfl) (ls' := [some (.ref 0), some (.int x0), some (.int (-1)), some (.int (-1)), none, none, none]) rfl ?_
      refine w_iconst X dX10_judged_23 rfl ci_0 ?_
      refine w_istore X dX10_judged_24 rfl rfl (Nat.le_of_ble_eq_true rfl) (ls' := [some (.ref 0), some (.int x0), some (.int (-1)), some (.int (-1)), some (.int 0), none, none]) rfl ?_
      obtain ⟨ye26, hye26, hf⟩ := wok_b hf
      refine pX10_judged_l26 X hr  (KE := fun z => ye26 = z) ?_ 3000 _ _ _ _ ⟨ye26, hye26, rfl⟩
      · intro yz27 yz28 yz29 hz
        subst hz
        refine w_iload_n X dX10_judged_105 rfl rfl rfl ?_
        refine w_iconst X dX10_judged_106 rfl ci_2 ?_
        refine w_icmp_ne X dX10_judged_107 rfl (t := 128) rfl (fun hc => ?_) (fun hc => ?_)
        · have hf := wok_f hf hc
          refine w_iload_n X dX10_judged_128 rfl rfl rfl ?_
          refine w_if_ne X dX10_judged_129 rfl (t := 136) rfl (fun hc => ?_) (fun hc => ?_)
          · have hf := wok_f hf hc
            refine w_iload_n X dX10_judged_136 rfl rfl rfl ?_
            exact w_iret X dX10_judged_137 hr (hT _ _ (wok_s hf))
          · have hf := wok_t hf hc
            refine w_iload_n X dX10_judged_132 rfl rfl rfl ?_
            refine w_goto X dX10_judged_133 (t := 137) rfl ?_
            exact w_iret X dX10_judged_137 hr (hT _ _ (wok_s hf))
        · have hf := wok_t hf hc
          refine w_aload_n X dX10_judged_110 rfl rfl rfl ?_
          refine w_getR X dX10_judged_111 rfl fl_X10_35 S0_0 rfl ?_
          refine w_aload_n X dX10_judged_114 rfl rfl rfl ?_
          refine w_getR X dX10_judged_115 rfl fl_X10_35 S0_0 rfl ?_
          obtain ⟨yr30, eyr30, hf⟩ := wok_b hf
          refine w_callV X dX10_judged_118 rfl vl_X10_134 (kX6_damp l in_34 eyr30) S0_34 (As := []) (st := [.ref 34]) rfl rfl (Nat.le_of_ble_eq_true rfl) ⟨Nat.le_of_ble_eq_true rfl, Nat.le_of_ble_eq_true rfl⟩ ⟨Nat.zero_le _, Nat.zero_le _⟩ (fun r h2 hF => ?_)
          obtain ⟨_, rfl, rfl, rfl⟩ := hF
          show wM p l e (wR 6) s m args below meth c 0 0 (wE below args s D dA b0 ad S0 F) 7 D dA b0 ad S0 121 [some (.ref 0), some (.int x0), some (.int yz27), some (.int yz28), none, none, none] [.int yr30, .ref 34] yz29
          obtain ⟨yr31, eyr31, hf⟩ := wok_b hf
          refine w_callV X dX10_judged_121 rfl vl_X10_212 (kX6_wholeTexts l in_34 eyr31) S0_34 (As := [.int yr30]) (st := []) rfl rfl (Nat.le_of_ble_eq_true rfl) ⟨Nat.le_of_ble_eq_true rfl, Nat.le_of_ble_eq_true rfl⟩ ⟨Nat.zero_le _, Nat.zero_le _⟩ (fun r h2 hF => ?_)
          obtain ⟨_, rfl, rfl, rfl⟩ := hF
          show wM p l e (wR 6) s m args below meth c 0 0 (wE below args s D dA b0 ad S0 F) 7 D dA b0 ad S0 124 [some (.ref 0), some (.int x0), some (.int yz27), some (.int yz28), none, none, none] [.int yr31.1] yr31.2
          obtain ⟨yr32, eyr32, hf⟩ := wok_b hf
          refine w_callS X dX10_judged_124 rfl sl_X10_216 (kJ6_bitCount_0f7a4 l  eyr32) (As := [.int yr31.1]) (st := []) rfl rfl (Nat.le_of_ble_eq_true rfl) ⟨Nat.le_of_ble_eq_true rfl, Nat.le_of_ble_eq_true rfl⟩ ⟨Nat.zero_le _, Nat.zero_le _⟩ (fun r h2 hF => ?_)
          obtain ⟨_, rfl, rfl, rfl⟩ := hF
          show wM p l e (wR 6) s m args below meth c 0 0 (wE below args s D dA b0 ad S0 F) 7 D dA b0 ad S0 127 [some (.ref 0), some (.int x0), some (.int yz27), some (.int yz28), none, none, none] [.int yr32] yr31.2
          exact w_iret X dX10_judged_127 hr (hT _ _ (wok_s hf))
    · have hf := wok_f hf hc
      refine w_bipush X dX10_judged_9 rfl cb_m2 ?_
      exact w_iret X dX10_judged_11 hr (hT _ _ (wok_s hf))
set_option maxRecDepth 4000 in
theorem kX10_judged (l : Launch) {h : wSt} {x0 : Int32} {res : Int32 × wSt} (hf : fX10_judged h x0 = some res) : wC l yX10_judged cX10_judged 7 (some .int) 6 S0 [.ref 0, .int x0] h (wFI (fun a b => res.1 = a ∧ res.2 = b)) := by
  refine w_meth2 5 (by decide) (Nat.le_of_ble_eq_true rfl) (ls := [some (.ref 0), some (.int x0), none, none, none, none, none]) rfl ?_
  intro p e s m args below meth c D dA b0 ad X hr
  exact pX10_judged_b0 X hr  (K := fun z => res = z) (fun x h2 hz => ⟨x, rfl, by rw [hz], by rw [hz]⟩) ⟨res, hf, rfl⟩
set_option maxRecDepth 4000 in
theorem pX10_later_b0 (X : wCx p s m args meth c RX10 cX10_later 4 D dA b0 ad) (hr : meth.sig.returnType = (some .int)) {h : wSt} {x0 : Int32} {x1 : Int32} {x2 : Int32} {K : Int32 × wSt → Prop} (hT : ∀ (x : Int32) (h2 : wSt), K (x, h2) → F (some (.int x)) h2) (hf : wok (fX10_later h x0 x1 x2) K) : wM p l e (wR 5) s m args below meth c 0 0 (wE below args s D dA b0 ad S0 F) 4 D dA b0 ad S0 0 [some (.ref 0), some (.int x0), some (.int x1), some (.int x2)] [] h := by
  unfold fX10_later at hf
  refine w_aload_n X dX10_later_0 rfl rfl rfl ?_
  refine w_getR X dX10_later_1 rfl fl_X10_19 S0_0 rfl ?_
  refine w_iload_n X dX10_later_4 rfl rfl rfl ?_
  refine w_iload_n X dX10_later_5 rfl rfl rfl ?_
  obtain ⟨yr21, eyr21, hf⟩ := wok_b hf
  refine w_callV X dX10_later_6 rfl vl_X10_161 (kX4_hasLine l in_3 eyr21) S0_3 (As := [.int x0, .int x1]) (st := []) rfl rfl (Nat.le_of_ble_eq_true rfl) ⟨Nat.le_of_ble_eq_true rfl, Nat.le_of_ble_eq_true rfl⟩ ⟨Nat.zero_le _, Nat.zero_le _⟩ (fun r h2 hF => ?_)
  obtain ⟨_, rfl, rfl, rfl⟩ := hF
  show wM p l e (wR 5) s m args below meth c 0 0 (wE below args s D dA b0 ad S0 F) 4 D dA b0 ad S0 9 [some (.ref 0), some (.int x0), some (.int x1), some (.int x2)] [.int (wb yr21)] h
  refine w_if_eq X dX10_later_9 rfl (t := 22) rfl (fun hc => ?_) (fun hc => ?_)
  · have hf := wok_f hf (wb_0 hc)
    refine w_iconst X dX10_later_22 rfl ci_m1 ?_
    exact w_iret X dX10_later_23 hr (hT _ _ (wok_s hf))
  · have hf := wok_t hf (wb_n0 hc)
    refine w_iload_n X dX10_later_12 rfl rfl rfl ?_
    refine w_if_lt X dX10_later_13 rfl (t := 22) rfl (fun hc => ?_) (fun hc => ?_)
    · have hf := wok_t hf hc
      refine w_iconst X dX10_later_22 rfl ci_m1 ?_
      exact w_iret X dX10_later_23 hr (hT _ _ (wok_s hf))
    · have hf := wok_f hf hc
      refine w_iload_n X dX10_later_16 rfl rfl rfl ?_
      refine w_bipush X dX10_later_17 rfl cb_40 ?_
      refine w_icmp_le X dX10_later_19 rfl (t := 24) rfl (fun hc => ?_) (fun hc => ?_)
      · have hf := wok_t hf hc
        refine w_aload_n X dX10_later_24 rfl rfl rfl ?_
        refine w_getR X dX10_later_25 rfl fl_X10_31 S0_0 rfl ?_
        refine w_iload_n X dX10_later_28 rfl rfl rfl ?_
        refine w_iload_n X dX10_later_29 rfl rfl rfl ?_
        refine w_aload_n X dX10_later_30 rfl rfl rfl ?_
        refine w_getR X dX10_later_31 rfl fl_X10_19 S0_0 rfl ?_
        refine w_aload_n X dX10_later_34 rfl rfl rfl ?_
        refine w_getR X dX10_later_35 rfl fl_X10_31 S0_0 rfl ?_
        refine w_getI X dX10_later_38 rfl fl_X10_195 S0_29 rfl ?_
        refine w_iload_n X dX10_later_41 rfl rfl rfl ?_
        refine w_iadd X dX10_later_42 rfl ?_
        obtain ⟨yr22, eyr22, hf⟩ := wok_b hf
        refine w_callV X dX10_later_43 rfl vl_X10_221 (kX4_dampOf l in_3 eyr22) S0_3 (As := [.int ((h.1 29 1) + x2)]) (st := [.int x1, .int x0, .ref 29]) rfl rfl (Nat.le_of_ble_eq_true rfl) ⟨Nat.le_of_ble_eq_true rfl, Nat.le_of_ble_eq_true rfl⟩ ⟨Nat.zero_le _, Nat.zero_le _⟩ (fun r h2 hF => ?_)
        obtain ⟨_, rfl, rfl, rfl⟩ := hF
        show wM p l e (wR 5) s m args below meth c 0 0 (wE below args s D dA b0 ad S0 F) 4 D dA b0 ad S0 46 [some (.ref 0), some (.int x0), some (.int x1), some (.int x2)] [.int yr22, .int x1, .int x0, .ref 29] h
        obtain ⟨yr23, eyr23, hf⟩ := wok_b hf
        refine w_callV X dX10_later_46 rfl vl_X10_170 (kX6_shown l in_29 eyr23) S0_29 (As := [.int x0, .int x1, .int yr22]) (st := []) rfl rfl (Nat.le_of_ble_eq_true rfl) ⟨Nat.le_of_ble_eq_true rfl, Nat.le_of_ble_eq_true rfl⟩ ⟨Nat.zero_le _, Nat.zero_le _⟩ (fun r h2 hF => ?_)
        obtain ⟨_, rfl, rfl, rfl⟩ := hF
        show wM p l e (wR 5) s m args below meth c 0 0 (wE below args s D dA b0 ad S0 F) 4 D dA b0 ad S0 49 [some (.ref 0), some (.int x0), some (.int x1), some (.int x2)] [.int yr23.1] yr23.2
        exact w_iret X dX10_later_49 hr (hT _ _ (wok_s hf))
      · have hf := wok_f hf hc
        refine w_iconst X dX10_later_22 rfl ci_m1 ?_
        exact w_iret X dX10_later_23 hr (hT _ _ (wok_s hf))
set_option maxRecDepth 4000 in
theorem kX10_later (l : Launch) {h : wSt} {x0 : Int32} {x1 : Int32} {x2 : Int32} {res : Int32 × wSt} (hf : fX10_later h x0 x1 x2 = some res) : wC l yX10_later cX10_later 4 (some .int) 5 S0 [.ref 0, .int x0, .int x1, .int x2] h (wFI (fun a b => res.1 = a ∧ res.2 = b)) := by
  refine w_meth2 0 (by decide) (Nat.le_of_ble_eq_true rfl) (ls := [some (.ref 0), some (.int x0), some (.int x1), some (.int x2)]) rfl ?_
  intro p e s m args below meth c D dA b0 ad X hr
  exact pX10_later_b0 X hr  (K := fun z => res = z) (fun x h2 hz => ⟨x, rfl, by rw [hz], by rw [hz]⟩) ⟨res, hf, rfl⟩
set_option maxRecDepth 4000 in
theorem pX10_when_l27b (X : wCx p s m args meth c RX10 cX10_when 4 D dA b0 ad) (hr : meth.sig.returnType = (some .int)) {h : wSt} {v1 : Int32} {v2 : Int32} {v3 : Int32} {K : (Int32 × wSt) ⊕ ((wSt) ⊕ (Int32 × wSt)) → Prop} (hN : ∀ (n3 : Int32) (nh : wSt), K (.inl (n3, nh)) → wM p l e (wR 7) s m args below meth c 0 0 (wE below args s D dA b0 ad S0 F) 4 D dA b0 ad S0 27 [some (.ref 0), some (.int v1), some (.int v2), some (.int n3)] [] nh) (hX0 : ∀ (nh : wSt), K (.inr (.inl nh)) → wM p l e (wR 7) s m args below meth c 0 0 (wE below args s D dA b0 ad S0 F) 4 D dA b0 ad S0 73 [none, none, none, none] [] nh) (hT : ∀ (x : Int32) (h2 : wSt), K (.inr (.inr (x, h2))) → F (some (.int x)) h2) (hf : wok (fX10_when_l27 h v1 v2 v3) K) : wM p l e (wR 7) s m args below meth c 0 0 (wE below args s D dA b0 ad S0 F) 4 D dA b0 ad S0 27 [some (.ref 0), some (.int v1), some (.int v2), some (.int v3)] [] h := by
  unfold fX10_when_l27 at hf
  refine w_iload_n X dX10_when_27 rfl rfl rfl ?_
  refine w_iload_n X dX10_when_28 rfl rfl rfl ?_
  refine w_icmp_ge X dX10_when_29 rfl (t := 73) rfl (fun hc => ?_) (fun hc => ?_)
  · have hf := wok_t hf hc
    refine w_fg (ls2 := [none, none, none, none]) trivial ?_
    exact hX0 _ (wok_s hf)
  · have hf := wok_f hf hc
    refine w_iload_n X dX10_when_32 rfl rfl rfl ?_
    refine w_bipush X dX10_when_33 rfl cb_40 ?_
    refine w_icmp_gt X dX10_when_35 rfl (t := 73) rfl (fun hc => ?_) (fun hc => ?_)
    · have hf := wok_t hf hc
      refine w_fg (ls2 := [none, none, none, none]) trivial ?_
      exact hX0 _ (wok_s hf)
    · have hf := wok_f hf hc
      refine w_aload_n X dX10_when_38 rfl rfl rfl ?_
      refine w_getR X dX10_when_39 rfl fl_X10_31 S0_0 rfl ?_
      refine w_iload_n X dX10_when_42 rfl rfl rfl ?_
      refine w_aload_n X dX10_when_43 rfl rfl rfl ?_
      refine w_getR X dX10_when_44 rfl fl_X10_19 S0_0 rfl ?_
      refine w_aload_n X dX10_when_47 rfl rfl rfl ?_
      refine w_getR X dX10_when_48 rfl fl_X10_31 S0_0 rfl ?_
      refine w_getI X dX10_when_51 rfl fl_X10_195 S0_29 rfl ?_
      refine w_iload_n X dX10_when_54 rfl rfl rfl ?_
      refine w_iadd X dX10_when_55 rfl ?_
      obtain ⟨yr22, eyr22, hf⟩ := wok_b hf
      refine w_callV X dX10_when_56 rfl vl_X10_221 (kX4_dampOf l in_3 eyr22) S0_3 (As := [.int ((h.1 29 1) + v3)]) (st := [.int v1, .ref 29]) rfl rfl (Nat.le_of_ble_eq_true rfl) ⟨Nat.le_of_ble_eq_true rfl, Nat.le_of_ble_eq_true rfl⟩ ⟨Nat.zero_le _, Nat.zero_le _⟩ (fun r h2 hF => ?_)
      obtain ⟨_, rfl, rfl, rfl⟩ := hF
      show wM p l e (wR 7) s m args below meth c 0 0 (wE below args s D dA b0 ad S0 F) 4 D dA b0 ad S0 59 [some (.ref 0), some (.int v1), some (.int v2), some (.int v3)] [.int yr22, .int v1, .ref 29] h
      obtain ⟨yr23, eyr23, hf⟩ := wok_b hf
      refine w_callV X dX10_when_59 rfl vl_X10_154 (kX6_isWhole l in_29 eyr23) S0_29 (As := [.int v1, .int yr22]) (st := []) rfl rfl (Nat.le_of_ble_eq_true rfl) ⟨Nat.le_of_ble_eq_true rfl, Nat.le_of_ble_eq_true rfl⟩ ⟨Nat.zero_le _, Nat.zero_le _⟩ (fun r h2 hF => ?_)
      obtain ⟨_, rfl, rfl, rfl⟩ := hF
      show wM p l e (wR 7) s m args below meth c 0 0 (wE below args s D dA b0 ad S0 F) 4 D dA b0 ad S0 62 [some (.ref 0), some (.int v1), some (.int v2), some (.int v3)] [.int (wb yr23.1)] yr23.2
      refine w_if_eq X dX10_when_62 rfl (t := 67) rfl (fun hc => ?_) (fun hc => ?_)
      · have hf := wok_f hf (wb_0 hc)
        refine w_iinc X dX10_when_67 rfl (v := (v3 + 1)) rfl rfl (Nat.le_of_ble_eq_true rfl) (cinc_1 _) (ls' := [some (.ref 0), some (.int v1), some (.int v2), some (.int (v3 + 1))]) rfl ?_
        refine w_goto X dX10_when_70 (t := 27) rfl ?_
        exact hN _ _ (wok_s hf)
      · have hf := wok_t hf (wb_n0 hc)
        refine w_iload_n X dX10_when_65 rfl rfl rfl ?_
        exact w_iret X dX10_when_66 hr (hT _ _ (wok_s hf))
set_option maxRecDepth 4000 in
theorem pX10_when_l27 (X : wCx p s m args meth c RX10 cX10_when 4 D dA b0 ad) (hr : meth.sig.returnType = (some .int))  {v1 : Int32} {v2 : Int32} {KE : (wSt) ⊕ (Int32 × wSt) → Prop} (hX0 : ∀ (nh : wSt), KE ((.inl nh)) → wM p l e (wR 7) s m args below meth c 0 0 (wE below args s D dA b0 ad S0 F) 4 D dA b0 ad S0 73 [none, none, none, none] [] nh) (hT : ∀ (x : Int32) (h2 : wSt), KE ((.inr (x, h2))) → F (some (.int x)) h2) : ∀ (n : Nat) (v3 : Int32) (h : wSt), wok (wit (fun v : (Int32 × wSt) => fX10_when_l27 v.2 v1 v2 v.1) n (v3, h)) KE → wM p l e (wR 7) s m args below meth c 0 0 (wE below args s D dA b0 ad S0 F) 4 D dA b0 ad S0 27 [some (.ref 0), some (.int v1), some (.int v2), some (.int v3)] [] h := by
  have key := wit_M (b := (fun v : (Int32 × wSt) => fX10_when_l27 v.2 v1 v2 v.1)) (KE := KE) (G := fun v => wM p l e (wR 7) s m args below meth c 0 0 (wE below args s D dA b0 ad S0 F) 4 D dA b0 ad S0 27 [some (.ref 0), some (.int v1), some (.int v2), some (.int v.1)] [] v.2) (fun v K hN hE hf => pX10_when_l27b X hr  (fun n3 nh hz => hN (n3, nh) hz) (fun z0 hz => hX0 z0 (hE _ hz)) (fun z0 z1 hz => hT z0 z1 (hE _ hz)) hf)
  exact fun n v3 h hf => key n (v3, h) hf
set_option maxRecDepth 4000 in
theorem pX10_when_b0 (X : wCx p s m args meth c RX10 cX10_when 4 D dA b0 ad) (hr : meth.sig.returnType = (some .int)) {h : wSt} {x0 : Int32} {K : Int32 × wSt → Prop} (hT : ∀ (x : Int32) (h2 : wSt), K (x, h2) → F (some (.int x)) h2) (hf : wok (fX10_when h x0) K) : wM p l e (wR 7) s m args below meth c 0 0 (wE below args s D dA b0 ad S0 F) 4 D dA b0 ad S0 0 [some (.ref 0), some (.int x0), none, none] [] h := by
  unfold fX10_when at hf
  refine w_aload_n X dX10_when_0 rfl rfl rfl ?_
  refine w_getR X dX10_when_1 rfl fl_X10_19 S0_0 rfl ?_
  refine w_iload_n X dX10_when_4 rfl rfl rfl ?_
  obtain ⟨yr21, eyr21, hf⟩ := wok_b hf
  refine w_callV X dX10_when_5 rfl vl_X10_142 (kX4_hasText l in_3 eyr21) S0_3 (As := [.int x0]) (st := []) rfl rfl (Nat.le_of_ble_eq_true rfl) ⟨Nat.le_of_ble_eq_true rfl, Nat.le_of_ble_eq_true rfl⟩ ⟨Nat.zero_le _, Nat.zero_le _⟩ (fun r h2 hF => ?_)
  obtain ⟨_, rfl, rfl, rfl⟩ := hF
  show wM p l e (wR 7) s m args below meth c 0 0 (wE below args s D dA b0 ad S0 F) 4 D dA b0 ad S0 8 [some (.ref 0), some (.int x0), none, none] [.int (wb yr21)] h
  refine w_if_ne X dX10_when_8 rfl (t := 13) rfl (fun hc => ?_) (fun hc => ?_)
  · have hf := wok_t hf (wb_n0 hc)
    refine w_iconst X dX10_when_13 rfl ci_1 ?_
    refine w_aload_n X dX10_when_14 rfl rfl rfl ?_
    refine w_getR X dX10_when_15 rfl fl_X10_19 S0_0 rfl ?_
    refine w_getI X dX10_when_18 rfl fl_X10_224 S0_3 rfl ?_
    refine w_mmax X dX10_when_21 rfl wd_900 wd_422 wd_15 wd_423 (Nat.le_of_ble_eq_true rfl) (Nat.le_of_ble_eq_true rfl) (Nat.zero_le _) (Nat.zero_le _) ?_
    refine w_istore_n X dX10_when_24 rfl rfl rfl (Nat.le_of_ble_eq_true rfl) (ls' := [some (.ref 0), some (.int x0), some (.int (wmx (1 : Int32) (h.1 3 10))), none]) rfl ?_
    refine w_iconst X dX10_when_25 rfl ci_0 ?_
    refine w_istore_n X dX10_when_26 rfl rfl rfl (Nat.le_of_ble_eq_true rfl) (ls' := [some (.ref 0), some (.int x0), some (.int (wmx (1 : Int32) (h.1 3 10))), some (.int 0)]) rfl ?_
    obtain ⟨ye24, hye24, hf⟩ := wok_b hf
    refine pX10_when_l27 X hr  (KE := fun z => ye24 = z) ?_ ?_ 3000 _ _ ⟨ye24, hye24, rfl⟩
    · intro yz25 hz
      subst hz
      refine w_iconst X dX10_when_73 rfl ci_m1 ?_
      exact w_iret X dX10_when_74 hr (hT _ _ (wok_s hf))
    · intro z zh hz
      subst hz
      exact hT _ _ (wok_s hf)
  · have hf := wok_f hf (wb_0 hc)
    refine w_iconst X dX10_when_11 rfl ci_m1 ?_
    exact w_iret X dX10_when_12 hr (hT _ _ (wok_s hf))
set_option maxRecDepth 4000 in
theorem kX10_when (l : Launch) {h : wSt} {x0 : Int32} {res : Int32 × wSt} (hf : fX10_when h x0 = some res) : wC l yX10_when cX10_when 4 (some .int) 7 S0 [.ref 0, .int x0] h (wFI (fun a b => res.1 = a ∧ res.2 = b)) := by
  refine w_meth2 2 (by decide) (Nat.le_of_ble_eq_true rfl) (ls := [some (.ref 0), some (.int x0), none, none]) rfl ?_
  intro p e s m args below meth c D dA b0 ad X hr
  exact pX10_when_b0 X hr  (K := fun z => res = z) (fun x h2 hz => ⟨x, rfl, by rw [hz], by rw [hz]⟩) ⟨res, hf, rfl⟩
set_option maxRecDepth 4000 in
theorem pX10_need_l15b (X : wCx p s m args meth c RX10 cX10_need 3 D dA b0 ad) (hr : meth.sig.returnType = (some .int)) {h : wSt} {v1 : Int32} {v2 : Int32} {K : (Int32 × wSt) ⊕ ((wSt) ⊕ (Int32 × wSt)) → Prop} (hN : ∀ (n2 : Int32) (nh : wSt), K (.inl (n2, nh)) → wM p l e (wR 7) s m args below meth c 0 0 (wE below args s D dA b0 ad S0 F) 3 D dA b0 ad S0 15 [some (.ref 0), some (.int v1), some (.int n2)] [] nh) (hX0 : ∀ (nh : wSt), K (.inr (.inl nh)) → wM p l e (wR 7) s m args below meth c 0 0 (wE below args s D dA b0 ad S0 F) 3 D dA b0 ad S0 41 [none, none, none] [] nh) (hT : ∀ (x : Int32) (h2 : wSt), K (.inr (.inr (x, h2))) → F (some (.int x)) h2) (hf : wok (fX10_need_l15 h v1 v2) K) : wM p l e (wR 7) s m args below meth c 0 0 (wE below args s D dA b0 ad S0 F) 3 D dA b0 ad S0 15 [some (.ref 0), some (.int v1), some (.int v2)] [] h := by
  unfold fX10_need_l15 at hf
  refine w_iload_n X dX10_need_15 rfl rfl rfl ?_
  refine w_bipush X dX10_need_16 rfl cb_9 ?_
  refine w_icmp_gt X dX10_need_18 rfl (t := 41) rfl (fun hc => ?_) (fun hc => ?_)
  · have hf := wok_t hf hc
    refine w_fg (ls2 := [none, none, none]) trivial ?_
    exact hX0 _ (wok_s hf)
  · have hf := wok_f hf hc
    refine w_aload_n X dX10_need_21 rfl rfl rfl ?_
    refine w_getR X dX10_need_22 rfl fl_X10_31 S0_0 rfl ?_
    refine w_iload_n X dX10_need_25 rfl rfl rfl ?_
    refine w_iload_n X dX10_need_26 rfl rfl rfl ?_
    obtain ⟨yr22, eyr22, hf⟩ := wok_b hf
    refine w_callV X dX10_need_27 rfl vl_X10_154 (kX6_isWhole l in_29 eyr22) S0_29 (As := [.int v1, .int v2]) (st := []) rfl rfl (Nat.le_of_ble_eq_true rfl) ⟨Nat.le_of_ble_eq_true rfl, Nat.le_of_ble_eq_true rfl⟩ ⟨Nat.zero_le _, Nat.zero_le _⟩ (fun r h2 hF => ?_)
    obtain ⟨_, rfl, rfl, rfl⟩ := hF
    show wM p l e (wR 7) s m args below meth c 0 0 (wE below args s D dA b0 ad S0 F) 3 D dA b0 ad S0 30 [some (.ref 0), some (.int v1), some (.int v2)] [.int (wb yr22.1)] yr22.2
    refine w_if_eq X dX10_need_30 rfl (t := 35) rfl (fun hc => ?_) (fun hc => ?_)
    · have hf := wok_f hf (wb_0 hc)
      refine w_iinc X dX10_need_35 rfl (v := (v2 + 1)) rfl rfl (Nat.le_of_ble_eq_true rfl) (cinc_1 _) (ls' := [some (.ref 0), some (.int v1), some (.int (v2 + 1))]) rfl ?_
      refine w_goto X dX10_need_38 (t := 15) rfl ?_
      exact hN _ _ (wok_s hf)
    · have hf := wok_t hf (wb_n0 hc)
      refine w_iload_n X dX10_need_33 rfl rfl rfl ?_
      exact w_iret X dX10_need_34 hr (hT _ _ (wok_s hf))
set_option maxRecDepth 4000 in
theorem pX10_need_l15 (X : wCx p s m args meth c RX10 cX10_need 3 D dA b0 ad) (hr : meth.sig.returnType = (some .int))  {v1 : Int32} {KE : (wSt) ⊕ (Int32 × wSt) → Prop} (hX0 : ∀ (nh : wSt), KE ((.inl nh)) → wM p l e (wR 7) s m args below meth c 0 0 (wE below args s D dA b0 ad S0 F) 3 D dA b0 ad S0 41 [none, none, none] [] nh) (hT : ∀ (x : Int32) (h2 : wSt), KE ((.inr (x, h2))) → F (some (.int x)) h2) : ∀ (n : Nat) (v2 : Int32) (h : wSt), wok (wit (fun v : (Int32 × wSt) => fX10_need_l15 v.2 v1 v.1) n (v2, h)) KE → wM p l e (wR 7) s m args below meth c 0 0 (wE below args s D dA b0 ad S0 F) 3 D dA b0 ad S0 15 [some (.ref 0), some (.int v1), some (.int v2)] [] h := by
  have key := wit_M (b := (fun v : (Int32 × wSt) => fX10_need_l15 v.2 v1 v.1)) (KE := KE) (G := fun v => wM p l e (wR 7) s m args below meth c 0 0 (wE below args s D dA b0 ad S0 F) 3 D dA b0 ad S0 15 [some (.ref 0), some (.int v1), some (.int v.1)] [] v.2) (fun v K hN hE hf => pX10_need_l15b X hr  (fun n2 nh hz => hN (n2, nh) hz) (fun z0 hz => hX0 z0 (hE _ hz)) (fun z0 z1 hz => hT z0 z1 (hE _ hz)) hf)
  exact fun n v2 h hf => key n (v2, h) hf
set_option maxRecDepth 4000 in
theorem pX10_need_b0 (X : wCx p s m args meth c RX10 cX10_need 3 D dA b0 ad) (hr : meth.sig.returnType = (some .int)) {h : wSt} {x0 : Int32} {K : Int32 × wSt → Prop} (hT : ∀ (x : Int32) (h2 : wSt), K (x, h2) → F (some (.int x)) h2) (hf : wok (fX10_need h x0) K) : wM p l e (wR 7) s m args below meth c 0 0 (wE below args s D dA b0 ad S0 F) 3 D dA b0 ad S0 0 [some (.ref 0), some (.int x0), none] [] h := by
  unfold fX10_need at hf
  refine w_aload_n X dX10_need_0 rfl rfl rfl ?_
  refine w_getR X dX10_need_1 rfl fl_X10_19 S0_0 rfl ?_
  refine w_iload_n X dX10_need_4 rfl rfl rfl ?_
  obtain ⟨yr21, eyr21, hf⟩ := wok_b hf
  refine w_callV X dX10_need_5 rfl vl_X10_142 (kX4_hasText l in_3 eyr21) S0_3 (As := [.int x0]) (st := []) rfl rfl (Nat.le_of_ble_eq_true rfl) ⟨Nat.le_of_ble_eq_true rfl, Nat.le_of_ble_eq_true rfl⟩ ⟨Nat.zero_le _, Nat.zero_le _⟩ (fun r h2 hF => ?_)
  obtain ⟨_, rfl, rfl, rfl⟩ := hF
  show wM p l e (wR 7) s m args below meth c 0 0 (wE below args s D dA b0 ad S0 F) 3 D dA b0 ad S0 8 [some (.ref 0), some (.int x0), none] [.int (wb yr21)] h
  refine w_if_ne X dX10_need_8 rfl (t := 13) rfl (fun hc => ?_) (fun hc => ?_)
  · have hf := wok_t hf (wb_n0 hc)
    refine w_iconst X dX10_need_13 rfl ci_0 ?_
    refine w_istore_n X dX10_need_14 rfl rfl rfl (Nat.le_of_ble_eq_true rfl) (ls' := [some (.ref 0), some (.int x0), some (.int 0)]) rfl ?_
    obtain ⟨ye23, hye23, hf⟩ := wok_b hf
    refine pX10_need_l15 X hr  (KE := fun z => ye23 = z) ?_ ?_ 3000 _ _ ⟨ye23, hye23, rfl⟩
    · intro yz24 hz
      subst hz
      refine w_iconst X dX10_need_41 rfl ci_m1 ?_
      exact w_iret X dX10_need_42 hr (hT _ _ (wok_s hf))
    · intro z zh hz
      subst hz
      exact hT _ _ (wok_s hf)
  · have hf := wok_f hf (wb_0 hc)
    refine w_iconst X dX10_need_11 rfl ci_m1 ?_
    exact w_iret X dX10_need_12 hr (hT _ _ (wok_s hf))
set_option maxRecDepth 4000 in
theorem kX10_need (l : Launch) {h : wSt} {x0 : Int32} {res : Int32 × wSt} (hf : fX10_need h x0 = some res) : wC l yX10_need cX10_need 3 (some .int) 7 S0 [.ref 0, .int x0] h (wFI (fun a b => res.1 = a ∧ res.2 = b)) := by
  refine w_meth2 1 (by decide) (Nat.le_of_ble_eq_true rfl) (ls := [some (.ref 0), some (.int x0), none]) rfl ?_
  intro p e s m args below meth c D dA b0 ad X hr
  exact pX10_need_b0 X hr  (K := fun z => res = z) (fun x h2 hz => ⟨x, rfl, by rw [hz], by rw [hz]⟩) ⟨res, hf, rfl⟩
set_option maxRecDepth 4000 in
theorem pX10_lost_l10b (X : wCx p s m args meth c RX10 cX10_lost 3 D dA b0 ad) (hr : meth.sig.returnType = (some .int)) {h : wSt} {v1 : Int32} {v2 : Int32} {K : (Int32 × Int32 × wSt) ⊕ ((Int32 × wSt)) → Prop} (hN : ∀ (n1 : Int32) (n2 : Int32) (nh : wSt), K (.inl (n1, n2, nh)) → wM p l e (wR 6) s m args below meth c 0 0 (wE below args s D dA b0 ad S0 F) 3 D dA b0 ad S0 10 [some (.ref 0), some (.int n1), some (.int n2)] [] nh) (hX0 : ∀ (n1 : Int32) (nh : wSt), K (.inr (n1, nh)) → wM p l e (wR 6) s m args below meth c 0 0 (wE below args s D dA b0 ad S0 F) 3 D dA b0 ad S0 39 [none, some (.int n1), none] [] nh) (hf : wok (fX10_lost_l10 h v1 v2) K) : wM p l e (wR 6) s m args below meth c 0 0 (wE below args s D dA b0 ad S0 F) 3 D dA b0 ad S0 10 [some (.ref 0), some (.int v1), some (.int v2)] [] h := by
  unfold fX10_lost_l10 at hf
  refine w_iload_n X dX10_lost_10 rfl rfl rfl ?_
  refine w_bipush X dX10_lost_11 rfl cb_9 ?_
  refine w_icmp_gt X dX10_lost_13 rfl (t := 39) rfl (fun hc => ?_) (fun hc => ?_)
  · have hf := wok_t hf hc
    refine w_fg (ls2 := [none, some (.int v1), none]) ⟨rfl, trivial⟩ ?_
    exact hX0 _ _ (wok_s hf)
  · have hf := wok_f hf hc
    refine w_iload_n X dX10_lost_16 rfl rfl rfl ?_
    refine w_if_eq X dX10_lost_17 rfl (t := 39) rfl (fun hc => ?_) (fun hc => ?_)
    · have hf := wok_t hf hc
      refine w_fg (ls2 := [none, some (.int v1), none]) ⟨rfl, trivial⟩ ?_
      exact hX0 _ _ (wok_s hf)
    · have hf := wok_f hf hc
      refine w_iload_n X dX10_lost_20 rfl rfl rfl ?_
      refine w_aload_n X dX10_lost_21 rfl rfl rfl ?_
      refine w_getR X dX10_lost_22 rfl fl_X10_31 S0_0 rfl ?_
      refine w_iload_n X dX10_lost_25 rfl rfl rfl ?_
      obtain ⟨yr22, eyr22, hf⟩ := wok_b hf
      refine w_callV X dX10_lost_26 rfl vl_X10_235 (kX6_shownTexts l in_29 eyr22) S0_29 (As := [.int v2]) (st := [.int v1]) rfl rfl (Nat.le_of_ble_eq_true rfl) ⟨Nat.le_of_ble_eq_true rfl, Nat.le_of_ble_eq_true rfl⟩ ⟨Nat.zero_le _, Nat.zero_le _⟩ (fun r h2 hF => ?_)
      obtain ⟨_, rfl, rfl, rfl⟩ := hF
      show wM p l e (wR 6) s m args below meth c 0 0 (wE below args s D dA b0 ad S0 F) 3 D dA b0 ad S0 29 [some (.ref 0), some (.int v1), some (.int v2)] [.int yr22.1, .int v1] yr22.2
      refine w_iconst X dX10_lost_29 rfl ci_m1 ?_
      refine w_ixor X dX10_lost_30 rfl ?_
      refine w_iand X dX10_lost_31 rfl ?_
      refine w_istore_n X dX10_lost_32 rfl rfl rfl (Nat.le_of_ble_eq_true rfl) (ls' := [some (.ref 0), some (.int (v1 &&& (yr22.1 ^^^ (-1)))), some (.int v2)]) rfl ?_
      refine w_iinc X dX10_lost_33 rfl (v := (v2 + 1)) rfl rfl (Nat.le_of_ble_eq_true rfl) (cinc_1 _) (ls' := [some (.ref 0), some (.int (v1 &&& (yr22.1 ^^^ (-1)))), some (.int (v2 + 1))]) rfl ?_
      refine w_goto X dX10_lost_36 (t := 10) rfl ?_
      exact hN _ _ _ (wok_s hf)
set_option maxRecDepth 4000 in
theorem pX10_lost_l10 (X : wCx p s m args meth c RX10 cX10_lost 3 D dA b0 ad) (hr : meth.sig.returnType = (some .int))  {KE : (Int32 × wSt) → Prop} (hX0 : ∀ (n1 : Int32) (nh : wSt), KE ((n1, nh)) → wM p l e (wR 6) s m args below meth c 0 0 (wE below args s D dA b0 ad S0 F) 3 D dA b0 ad S0 39 [none, some (.int n1), none] [] nh) : ∀ (n : Nat) (v1 : Int32) (v2 : Int32) (h : wSt), wok (wit (fun v : (Int32 × Int32 × wSt) => fX10_lost_l10 v.2.2 v.1 v.2.1) n (v1, v2, h)) KE → wM p l e (wR 6) s m args below meth c 0 0 (wE below args s D dA b0 ad S0 F) 3 D dA b0 ad S0 10 [some (.ref 0), some (.int v1), some (.int v2)] [] h := by
  have key := wit_M (b := (fun v : (Int32 × Int32 × wSt) => fX10_lost_l10 v.2.2 v.1 v.2.1)) (KE := KE) (G := fun v => wM p l e (wR 6) s m args below meth c 0 0 (wE below args s D dA b0 ad S0 F) 3 D dA b0 ad S0 10 [some (.ref 0), some (.int v.1), some (.int v.2.1)] [] v.2.2) (fun v K hN hE hf => pX10_lost_l10b X hr  (fun n1 n2 nh hz => hN (n1, n2, nh) hz) (fun z0 z1 hz => hX0 z0 z1 (hE _ hz)) hf)
  exact fun n v1 v2 h hf => key n (v1, v2, h) hf
set_option maxRecDepth 4000 in
theorem pX10_lost_b0 (X : wCx p s m args meth c RX10 cX10_lost 3 D dA b0 ad) (hr : meth.sig.returnType = (some .int)) {h : wSt} {K : Int32 × wSt → Prop} (hT : ∀ (x : Int32) (h2 : wSt), K (x, h2) → F (some (.int x)) h2) (hf : wok (fX10_lost h ) K) : wM p l e (wR 6) s m args below meth c 0 0 (wE below args s D dA b0 ad S0 F) 3 D dA b0 ad S0 0 [some (.ref 0), none, none] [] h := by
  unfold fX10_lost at hf
  refine w_aload_n X dX10_lost_0 rfl rfl rfl ?_
  refine w_getR X dX10_lost_1 rfl fl_X10_31 S0_0 rfl ?_
  obtain ⟨yr21, eyr21, hf⟩ := wok_b hf
  refine w_callV X dX10_lost_4 rfl vl_X10_232 (kX6_textsLaid l in_29 eyr21) S0_29 (As := []) (st := []) rfl rfl (Nat.le_of_ble_eq_true rfl) ⟨Nat.le_of_ble_eq_true rfl, Nat.le_of_ble_eq_true rfl⟩ ⟨Nat.zero_le _, Nat.zero_le _⟩ (fun r h2 hF => ?_)
  obtain ⟨_, rfl, rfl, rfl⟩ := hF
  show wM p l e (wR 6) s m args below meth c 0 0 (wE below args s D dA b0 ad S0 F) 3 D dA b0 ad S0 7 [some (.ref 0), none, none] [.int yr21] h
  refine w_istore_n X dX10_lost_7 rfl rfl rfl (Nat.le_of_ble_eq_true rfl) (ls' := [some (.ref 0), some (.int yr21), none]) rfl ?_
  refine w_iconst X dX10_lost_8 rfl ci_0 ?_
  refine w_istore_n X dX10_lost_9 rfl rfl rfl (Nat.le_of_ble_eq_true rfl) (ls' := [some (.ref 0), some (.int yr21), some (.int 0)]) rfl ?_
  obtain ⟨ye23, hye23, hf⟩ := wok_b hf
  refine pX10_lost_l10 X hr  (KE := fun z => ye23 = z) ?_ 3000 _ _ _ ⟨ye23, hye23, rfl⟩
  · intro yz24 yz25 hz
    subst hz
    refine w_iload_n X dX10_lost_39 rfl rfl rfl ?_
    exact w_iret X dX10_lost_40 hr (hT _ _ (wok_s hf))
set_option maxRecDepth 4000 in
theorem kX10_lost (l : Launch) {h : wSt} {res : Int32 × wSt} (hf : fX10_lost h  = some res) : wC l yX10_lost cX10_lost 3 (some .int) 6 S0 [.ref 0] h (wFI (fun a b => res.1 = a ∧ res.2 = b)) := by
  refine w_meth2 2 (by decide) (Nat.le_of_ble_eq_true rfl) (ls := [some (.ref 0), none, none]) rfl ?_
  intro p e s m args below meth c D dA b0 ad X hr
  exact pX10_lost_b0 X hr  (K := fun z => res = z) (fun x h2 hz => ⟨x, rfl, by rw [hz], by rw [hz]⟩) ⟨res, hf, rfl⟩
set_option maxRecDepth 4000 in
theorem pX10_place_b0 (X : wCx p s m args meth c RX10 cX10_place 3 D dA b0 ad) (hr : meth.sig.returnType = (some .int)) {h : wSt} {x0 : Int32} {x1 : Int32} {K : Int32 → Prop} (hT : ∀ (x : Int32), K x → F (some (.int x)) h) (hf : wok (fX10_place h x0 x1) K) : wM p l e (wR 4) s m args below meth c 0 0 (wE below args s D dA b0 ad S0 F) 3 D dA b0 ad S0 0 [some (.ref 0), some (.int x0), some (.int x1)] [] h := by
  unfold fX10_place at hf
  refine w_aload_n X dX10_place_0 rfl rfl rfl ?_
  refine w_getR X dX10_place_1 rfl fl_X10_19 S0_0 rfl ?_
  refine w_iload_n X dX10_place_4 rfl rfl rfl ?_
  obtain ⟨yr21, eyr21, hf⟩ := wok_b hf
  refine w_callV X dX10_place_5 rfl vl_X10_142 (kX4_hasText l in_3 eyr21) S0_3 (As := [.int x0]) (st := []) rfl rfl (Nat.le_of_ble_eq_true rfl) ⟨Nat.le_of_ble_eq_true rfl, Nat.le_of_ble_eq_true rfl⟩ ⟨Nat.zero_le _, Nat.zero_le _⟩ (fun r h2 hF => ?_)
  obtain ⟨_, rfl, rfl, rfl⟩ := hF
  show wM p l e (wR 4) s m args below meth c 0 0 (wE below args s D dA b0 ad S0 F) 3 D dA b0 ad S0 8 [some (.ref 0), some (.int x0), some (.int x1)] [.int (wb yr21)] h
  refine w_if_eq X dX10_place_8 rfl (t := 34) rfl (fun hc => ?_) (fun hc => ?_)
  · have hf := wok_f hf (wb_0 hc)
    refine w_iconst X dX10_place_34 rfl ci_m1 ?_
    exact w_iret X dX10_place_35 hr (hT _ (wok_s hf))
  · have hf := wok_t hf (wb_n0 hc)
    refine w_aload_n X dX10_place_11 rfl rfl rfl ?_
    refine w_getR X dX10_place_12 rfl fl_X10_19 S0_0 rfl ?_
    refine w_iload_n X dX10_place_15 rfl rfl rfl ?_
    obtain ⟨yr22, eyr22, hf⟩ := wok_b hf
    refine w_callV X dX10_place_16 rfl vl_X10_117 (kX4_hasSkin l in_3 eyr22) S0_3 (As := [.int x1]) (st := []) rfl rfl (Nat.le_of_ble_eq_true rfl) ⟨Nat.le_of_ble_eq_true rfl, Nat.le_of_ble_eq_true rfl⟩ ⟨Nat.zero_le _, Nat.zero_le _⟩ (fun r h2 hF => ?_)
    obtain ⟨_, rfl, rfl, rfl⟩ := hF
    show wM p l e (wR 4) s m args below meth c 0 0 (wE below args s D dA b0 ad S0 F) 3 D dA b0 ad S0 19 [some (.ref 0), some (.int x0), some (.int x1)] [.int (wb yr22)] h
    refine w_if_eq X dX10_place_19 rfl (t := 34) rfl (fun hc => ?_) (fun hc => ?_)
    · have hf := wok_f hf (wb_0 hc)
      refine w_iconst X dX10_place_34 rfl ci_m1 ?_
      exact w_iret X dX10_place_35 hr (hT _ (wok_s hf))
    · have hf := wok_t hf (wb_n0 hc)
      refine w_aload_n X dX10_place_22 rfl rfl rfl ?_
      refine w_getR X dX10_place_23 rfl fl_X10_31 S0_0 rfl ?_
      refine w_iload_n X dX10_place_26 rfl rfl rfl ?_
      refine w_iload_n X dX10_place_27 rfl rfl rfl ?_
      obtain ⟨yr23, eyr23, hf⟩ := wok_b hf
      refine w_callV X dX10_place_28 rfl vl_X10_238 (kX6_firstPlace l in_29 eyr23) S0_29 (As := [.int x0, .int x1]) (st := []) rfl rfl (Nat.le_of_ble_eq_true rfl) ⟨Nat.le_of_ble_eq_true rfl, Nat.le_of_ble_eq_true rfl⟩ ⟨Nat.zero_le _, Nat.zero_le _⟩ (fun r h2 hF => ?_)
      obtain ⟨_, rfl, rfl, rfl⟩ := hF
      show wM p l e (wR 4) s m args below meth c 0 0 (wE below args s D dA b0 ad S0 F) 3 D dA b0 ad S0 31 [some (.ref 0), some (.int x0), some (.int x1)] [.int yr23] h
      refine w_goto X dX10_place_31 (t := 35) rfl ?_
      exact w_iret X dX10_place_35 hr (hT _ (wok_s hf))
set_option maxRecDepth 4000 in
theorem kX10_place (l : Launch) {h : wSt} {x0 : Int32} {x1 : Int32} {res : Int32} (hf : fX10_place h x0 x1 = some res) : wC l yX10_place cX10_place 3 (some .int) 4 S0 [.ref 0, .int x0, .int x1] h (wFI (fun a b => res = a ∧ h = b)) := by
  refine w_meth2 0 (by decide) (Nat.le_of_ble_eq_true rfl) (ls := [some (.ref 0), some (.int x0), some (.int x1)]) rfl ?_
  intro p e s m args below meth c D dA b0 ad X hr
  exact pX10_place_b0 X hr  (K := fun z => res = z) (fun x hz => ⟨x, rfl, hz, rfl⟩) ⟨res, hf, rfl⟩
set_option maxRecDepth 4000 in
theorem pX10_costOfRubbing_b0 (X : wCx p s m args meth c RX10 cX10_costOfRubbing 4 D dA b0 ad) (hr : meth.sig.returnType = (some .int)) {h : wSt} {x0 : Int32} {x1 : Int32} {x2 : Int32} {K : Int32 × wSt → Prop} (hT : ∀ (x : Int32) (h2 : wSt), K (x, h2) → F (some (.int x)) h2) (hf : wok (fX10_costOfRubbing h x0 x1 x2) K) : wM p l e (wR 4) s m args below meth c 0 0 (wE below args s D dA b0 ad S0 F) 4 D dA b0 ad S0 0 [some (.ref 0), some (.int x0), some (.int x1), some (.int x2)] [] h := by
  unfold fX10_costOfRubbing at hf
  refine w_aload_n X dX10_costOfRubbing_0 rfl rfl rfl ?_
  refine w_getR X dX10_costOfRubbing_1 rfl fl_X10_31 S0_0 rfl ?_
  refine w_iload_n X dX10_costOfRubbing_4 rfl rfl rfl ?_
  refine w_iload_n X dX10_costOfRubbing_5 rfl rfl rfl ?_
  obtain ⟨yr21, eyr21, hf⟩ := wok_b hf
  refine w_callV X dX10_costOfRubbing_6 rfl vl_X10_189 (kX6_canRub l in_29 eyr21) S0_29 (As := [.int x1, .int x2]) (st := []) rfl rfl (Nat.le_of_ble_eq_true rfl) ⟨Nat.le_of_ble_eq_true rfl, Nat.le_of_ble_eq_true rfl⟩ ⟨Nat.zero_le _, Nat.zero_le _⟩ (fun r h2 hF => ?_)
  obtain ⟨_, rfl, rfl, rfl⟩ := hF
  show wM p l e (wR 4) s m args below meth c 0 0 (wE below args s D dA b0 ad S0 F) 4 D dA b0 ad S0 9 [some (.ref 0), some (.int x0), some (.int x1), some (.int x2)] [.int (wb yr21)] h
  refine w_if_ne X dX10_costOfRubbing_9 rfl (t := 14) rfl (fun hc => ?_) (fun hc => ?_)
  · have hf := wok_t hf (wb_n0 hc)
    refine w_aload_n X dX10_costOfRubbing_14 rfl rfl rfl ?_
    refine w_getR X dX10_costOfRubbing_15 rfl fl_X10_35 S0_0 rfl ?_
    refine w_aload_n X dX10_costOfRubbing_18 rfl rfl rfl ?_
    refine w_getR X dX10_costOfRubbing_19 rfl fl_X10_31 S0_0 rfl ?_
    obtain ⟨yr22, eyr22, hf⟩ := wok_b hf
    refine w_callV X dX10_costOfRubbing_22 rfl vl_X10_247 (kX6_copyFrom l in_34 in_29 eyr22) S0_34 (As := [.ref 29]) (st := []) rfl rfl (Nat.le_of_ble_eq_true rfl) ⟨Nat.le_of_ble_eq_true rfl, Nat.le_of_ble_eq_true rfl⟩ ⟨Nat.zero_le _, Nat.zero_le _⟩ (fun r h2 hF => ?_)
    obtain ⟨rfl, rfl⟩ := hF
    show wM p l e (wR 4) s m args below meth c 0 0 (wE below args s D dA b0 ad S0 F) 4 D dA b0 ad S0 25 [some (.ref 0), some (.int x0), some (.int x1), some (.int x2)] [] yr22
    refine w_aload_n X dX10_costOfRubbing_25 rfl rfl rfl ?_
    refine w_getR X dX10_costOfRubbing_26 rfl fl_X10_35 S0_0 rfl ?_
    refine w_iload_n X dX10_costOfRubbing_29 rfl rfl rfl ?_
    refine w_iload_n X dX10_costOfRubbing_30 rfl rfl rfl ?_
    obtain ⟨yr23, eyr23, hf⟩ := wok_b hf
    refine w_callV X dX10_costOfRubbing_31 rfl vl_X10_192 (kX6_rub l in_34 eyr23) S0_34 (As := [.int x1, .int x2]) (st := []) rfl rfl (Nat.le_of_ble_eq_true rfl) ⟨Nat.le_of_ble_eq_true rfl, Nat.le_of_ble_eq_true rfl⟩ ⟨Nat.zero_le _, Nat.zero_le _⟩ (fun r h2 hF => ?_)
    obtain ⟨_, rfl, rfl, rfl⟩ := hF
    show wM p l e (wR 4) s m args below meth c 0 0 (wE below args s D dA b0 ad S0 F) 4 D dA b0 ad S0 34 [some (.ref 0), some (.int x0), some (.int x1), some (.int x2)] [.int (wb yr23.1)] yr23.2
    refine w_pop X dX10_costOfRubbing_34 rfl rfl ?_
    refine w_aload_n X dX10_costOfRubbing_35 rfl rfl rfl ?_
    refine w_getR X dX10_costOfRubbing_36 rfl fl_X10_35 S0_0 rfl ?_
    refine w_iload_n X dX10_costOfRubbing_39 rfl rfl rfl ?_
    refine w_iload_n X dX10_costOfRubbing_40 rfl rfl rfl ?_
    obtain ⟨yr24, eyr24, hf⟩ := wok_b hf
    refine w_callV X dX10_costOfRubbing_41 rfl vl_X10_238 (kX6_firstPlace l in_34 eyr24) S0_34 (As := [.int x0, .int x1]) (st := []) rfl rfl (Nat.le_of_ble_eq_true rfl) ⟨Nat.le_of_ble_eq_true rfl, Nat.le_of_ble_eq_true rfl⟩ ⟨Nat.zero_le _, Nat.zero_le _⟩ (fun r h2 hF => ?_)
    obtain ⟨_, rfl, rfl, rfl⟩ := hF
    show wM p l e (wR 4) s m args below meth c 0 0 (wE below args s D dA b0 ad S0 F) 4 D dA b0 ad S0 44 [some (.ref 0), some (.int x0), some (.int x1), some (.int x2)] [.int yr24] yr23.2
    refine w_iconst X dX10_costOfRubbing_44 rfl ci_m1 ?_
    refine w_icmp_ne X dX10_costOfRubbing_45 rfl (t := 52) rfl (fun hc => ?_) (fun hc => ?_)
    · have hf := wok_f hf hc
      refine w_aload_n X dX10_costOfRubbing_52 rfl rfl rfl ?_
      refine w_getR X dX10_costOfRubbing_53 rfl fl_X10_31 S0_0 rfl ?_
      refine w_getR X dX10_costOfRubbing_56 rfl fl_X10_125 S0_29 rfl ?_
      refine w_iload_n X dX10_costOfRubbing_59 rfl rfl rfl ?_
      obtain ⟨yhg25, hf⟩ := wok_g hf
      refine w_iald X dX10_costOfRubbing_60 rfl (j := x1.toNatClampNeg) rfl S0_30 yhg25 ?_
      refine w_aload_n X dX10_costOfRubbing_61 rfl rfl rfl ?_
      refine w_getR X dX10_costOfRubbing_62 rfl fl_X10_35 S0_0 rfl ?_
      refine w_getR X dX10_costOfRubbing_65 rfl fl_X10_125 S0_34 rfl ?_
      refine w_iload_n X dX10_costOfRubbing_68 rfl rfl rfl ?_
      refine w_iald X dX10_costOfRubbing_69 rfl (j := x1.toNatClampNeg) rfl S0_35 yhg25 ?_
      refine w_isub X dX10_costOfRubbing_70 rfl ?_
      exact w_iret X dX10_costOfRubbing_71 hr (hT _ _ (wok_s hf))
    · have hf := wok_t hf hc
      refine w_iconst X dX10_costOfRubbing_48 rfl ci_m1 ?_
      refine w_goto X dX10_costOfRubbing_49 (t := 71) rfl ?_
      exact w_iret X dX10_costOfRubbing_71 hr (hT _ _ (wok_s hf))
  · have hf := wok_f hf (wb_0 hc)
    refine w_iconst X dX10_costOfRubbing_12 rfl ci_m1 ?_
    exact w_iret X dX10_costOfRubbing_13 hr (hT _ _ (wok_s hf))
set_option maxRecDepth 4000 in
theorem kX10_costOfRubbing (l : Launch) {h : wSt} {x0 : Int32} {x1 : Int32} {x2 : Int32} {res : Int32 × wSt} (hf : fX10_costOfRubbing h x0 x1 x2 = some res) : wC l yX10_costOfRubbing cX10_costOfRubbing 4 (some .int) 4 S0 [.ref 0, .int x0, .int x1, .int x2] h (wFI (fun a b => res.1 = a ∧ res.2 = b)) := by
  refine w_meth2 0 (by decide) (Nat.le_of_ble_eq_true rfl) (ls := [some (.ref 0), some (.int x0), some (.int x1), some (.int x2)]) rfl ?_
  intro p e s m args below meth c D dA b0 ad X hr
  exact pX10_costOfRubbing_b0 X hr  (K := fun z => res = z) (fun x h2 hz => ⟨x, rfl, by rw [hz], by rw [hz]⟩) ⟨res, hf, rfl⟩
set_option maxRecDepth 4000 in
theorem pX10_cost_b69 (X : wCx p s m args meth c RX10 cX10_cost 5 D dA b0 ad) (hr : meth.sig.returnType = (some .int)) {h : wSt} {v3 : Int32} {v4 : Int32} {K : Int32 × wSt → Prop} (hT : ∀ (x : Int32) (h2 : wSt), K (x, h2) → F (some (.int x)) h2)  (hf : wok (fX10_cost_b69 h v3 v4) K) : wM p l e (wR 5) s m args below meth c 0 0 (wE below args s D dA b0 ad S0 F) 5 D dA b0 ad S0 69 [none, none, none, some (.int v3), some (.int v4)] [] h := by
  unfold fX10_cost_b69 at hf
  refine w_iload_n X dX10_cost_69 rfl rfl rfl ?_
  refine w_iload X dX10_cost_70 rfl rfl ?_
  refine w_mmax X dX10_cost_72 rfl wd_900 wd_422 wd_15 wd_423 (Nat.le_of_ble_eq_true rfl) (Nat.le_of_ble_eq_true rfl) (Nat.zero_le _) (Nat.zero_le _) ?_
  exact w_iret X dX10_cost_75 hr (hT _ _ (wok_s hf))
set_option maxRecDepth 4000 in
theorem pX10_cost_b0 (X : wCx p s m args meth c RX10 cX10_cost 5 D dA b0 ad) (hr : meth.sig.returnType = (some .int)) {h : wSt} {x0 : Int32} {x1 : Int32} {K : Int32 × wSt → Prop} (hT : ∀ (x : Int32) (h2 : wSt), K (x, h2) → F (some (.int x)) h2) (hf : wok (fX10_cost h x0 x1) K) : wM p l e (wR 5) s m args below meth c 0 0 (wE below args s D dA b0 ad S0 F) 5 D dA b0 ad S0 0 [some (.ref 0), some (.int x0), some (.int x1), none, none] [] h := by
  unfold fX10_cost at hf
  refine w_aload_n X dX10_cost_0 rfl rfl rfl ?_
  refine w_getR X dX10_cost_1 rfl fl_X10_19 S0_0 rfl ?_
  refine w_iload_n X dX10_cost_4 rfl rfl rfl ?_
  obtain ⟨yr21, eyr21, hf⟩ := wok_b hf
  refine w_callV X dX10_cost_5 rfl vl_X10_142 (kX4_hasText l in_3 eyr21) S0_3 (As := [.int x0]) (st := []) rfl rfl (Nat.le_of_ble_eq_true rfl) ⟨Nat.le_of_ble_eq_true rfl, Nat.le_of_ble_eq_true rfl⟩ ⟨Nat.zero_le _, Nat.zero_le _⟩ (fun r h2 hF => ?_)
  obtain ⟨_, rfl, rfl, rfl⟩ := hF
  show wM p l e (wR 5) s m args below meth c 0 0 (wE below args s D dA b0 ad S0 F) 5 D dA b0 ad S0 8 [some (.ref 0), some (.int x0), some (.int x1), none, none] [.int (wb yr21)] h
  refine w_if_eq X dX10_cost_8 rfl (t := 22) rfl (fun hc => ?_) (fun hc => ?_)
  · have hf := wok_f hf (wb_0 hc)
    refine w_iconst X dX10_cost_22 rfl ci_m1 ?_
    exact w_iret X dX10_cost_23 hr (hT _ _ (wok_s hf))
  · have hf := wok_t hf (wb_n0 hc)
    refine w_aload_n X dX10_cost_11 rfl rfl rfl ?_
    refine w_getR X dX10_cost_12 rfl fl_X10_19 S0_0 rfl ?_
    refine w_iload_n X dX10_cost_15 rfl rfl rfl ?_
    obtain ⟨yr22, eyr22, hf⟩ := wok_b hf
    refine w_callV X dX10_cost_16 rfl vl_X10_117 (kX4_hasSkin l in_3 eyr22) S0_3 (As := [.int x1]) (st := []) rfl rfl (Nat.le_of_ble_eq_true rfl) ⟨Nat.le_of_ble_eq_true rfl, Nat.le_of_ble_eq_true rfl⟩ ⟨Nat.zero_le _, Nat.zero_le _⟩ (fun r h2 hF => ?_)
    obtain ⟨_, rfl, rfl, rfl⟩ := hF
    show wM p l e (wR 5) s m args below meth c 0 0 (wE below args s D dA b0 ad S0 F) 5 D dA b0 ad S0 19 [some (.ref 0), some (.int x0), some (.int x1), none, none] [.int (wb yr22)] h
    refine w_if_ne X dX10_cost_19 rfl (t := 24) rfl (fun hc => ?_) (fun hc => ?_)
    · have hf := wok_t hf (wb_n0 hc)
      refine w_aload_n X dX10_cost_24 rfl rfl rfl ?_
      refine w_getR X dX10_cost_25 rfl fl_X10_31 S0_0 rfl ?_
      refine w_iload_n X dX10_cost_28 rfl rfl rfl ?_
      refine w_iload_n X dX10_cost_29 rfl rfl rfl ?_
      obtain ⟨yr23, eyr23, hf⟩ := wok_b hf
      refine w_callV X dX10_cost_30 rfl vl_X10_238 (kX6_firstPlace l in_29 eyr23) S0_29 (As := [.int x0, .int x1]) (st := []) rfl rfl (Nat.le_of_ble_eq_true rfl) ⟨Nat.le_of_ble_eq_true rfl, Nat.le_of_ble_eq_true rfl⟩ ⟨Nat.zero_le _, Nat.zero_le _⟩ (fun r h2 hF => ?_)
      obtain ⟨_, rfl, rfl, rfl⟩ := hF
      show wM p l e (wR 5) s m args below meth c 0 0 (wE below args s D dA b0 ad S0 F) 5 D dA b0 ad S0 33 [some (.ref 0), some (.int x0), some (.int x1), none, none] [.int yr23] h
      refine w_iconst X dX10_cost_33 rfl ci_m1 ?_
      refine w_icmp_eq X dX10_cost_34 rfl (t := 39) rfl (fun hc => ?_) (fun hc => ?_)
      · have hf := wok_t hf hc
        refine w_aload_n X dX10_cost_39 rfl rfl rfl ?_
        refine w_iload_n X dX10_cost_40 rfl rfl rfl ?_
        refine w_iload_n X dX10_cost_41 rfl rfl rfl ?_
        refine w_bipush X dX10_cost_42 rfl cb_9 ?_
        obtain ⟨yr24, eyr24, hf⟩ := wok_b hf
        refine w_callV X dX10_cost_44 rfl vl_X10_241 (kX10_costOfRubbing l  eyr24) S0_0 (As := [.int x0, .int x1, .int 9]) (st := []) rfl rfl (Nat.le_of_ble_eq_true rfl) ⟨Nat.le_of_ble_eq_true rfl, Nat.le_of_ble_eq_true rfl⟩ ⟨Nat.zero_le _, Nat.zero_le _⟩ (fun r h2 hF => ?_)
        obtain ⟨_, rfl, rfl, rfl⟩ := hF
        show wM p l e (wR 5) s m args below meth c 0 0 (wE below args s D dA b0 ad S0 F) 5 D dA b0 ad S0 47 [some (.ref 0), some (.int x0), some (.int x1), none, none] [.int yr24.1] yr24.2
        refine w_istore_n X dX10_cost_47 rfl rfl rfl (Nat.le_of_ble_eq_true rfl) (ls' := [some (.ref 0), some (.int x0), some (.int x1), some (.int yr24.1), none]) rfl ?_
        refine w_aload_n X dX10_cost_48 rfl rfl rfl ?_
        refine w_iload_n X dX10_cost_49 rfl rfl rfl ?_
        refine w_iload_n X dX10_cost_50 rfl rfl rfl ?_
        refine w_bipush X dX10_cost_51 rfl cb_63 ?_
        obtain ⟨yr25, eyr25, hf⟩ := wok_b hf
        refine w_callV X dX10_cost_53 rfl vl_X10_241 (kX10_costOfRubbing l  eyr25) S0_0 (As := [.int x0, .int x1, .int 63]) (st := []) rfl rfl (Nat.le_of_ble_eq_true rfl) ⟨Nat.le_of_ble_eq_true rfl, Nat.le_of_ble_eq_true rfl⟩ ⟨Nat.zero_le _, Nat.zero_le _⟩ (fun r h2 hF => ?_)
        obtain ⟨_, rfl, rfl, rfl⟩ := hF
        show wM p l e (wR 5) s m args below meth c 0 0 (wE below args s D dA b0 ad S0 F) 5 D dA b0 ad S0 56 [some (.ref 0), some (.int x0), some (.int x1), some (.int yr24.1), none] [.int yr25.1] yr25.2
        refine w_istore X dX10_cost_56 rfl rfl (Nat.le_of_ble_eq_true rfl) (ls' := [some (.ref 0), some (.int x0), some (.int x1), some (.int yr24.1), some (.int yr25.1)]) rfl ?_
        refine w_iload_n X dX10_cost_58 rfl rfl rfl ?_
        refine w_iconst X dX10_cost_59 rfl ci_m1 ?_
        refine w_icmp_eq X dX10_cost_60 rfl (t := 69) rfl (fun hc => ?_) (fun hc => ?_)
        · have hf := wok_t hf hc
          refine w_fg (ls2 := [none, none, none, some (.int yr24.1), some (.int yr25.1)]) ⟨rfl, rfl, trivial⟩ ?_
          exact pX10_cost_b69 X hr  hT hf
        · have hf := wok_f hf hc
          refine w_iload X dX10_cost_63 rfl rfl ?_
          refine w_iconst X dX10_cost_65 rfl ci_m1 ?_
          refine w_icmp_ne X dX10_cost_66 rfl (t := 76) rfl (fun hc => ?_) (fun hc => ?_)
          · have hf := wok_f hf hc
            refine w_iload_n X dX10_cost_76 rfl rfl rfl ?_
            refine w_iload X dX10_cost_77 rfl rfl ?_
            refine w_mmin X dX10_cost_79 rfl wd_934 wd_425 wd_15 wd_426 (Nat.le_of_ble_eq_true rfl) (Nat.le_of_ble_eq_true rfl) (Nat.zero_le _) (Nat.zero_le _) ?_
            exact w_iret X dX10_cost_82 hr (hT _ _ (wok_s hf))
          · have hf := wok_t hf hc
            refine w_fg (ls2 := [none, none, none, some (.int yr24.1), some (.int yr25.1)]) ⟨rfl, rfl, trivial⟩ ?_
            exact pX10_cost_b69 X hr  hT hf
      · have hf := wok_f hf hc
        refine w_iconst X dX10_cost_37 rfl ci_0 ?_
        exact w_iret X dX10_cost_38 hr (hT _ _ (wok_s hf))
    · have hf := wok_f hf (wb_0 hc)
      refine w_iconst X dX10_cost_22 rfl ci_m1 ?_
      exact w_iret X dX10_cost_23 hr (hT _ _ (wok_s hf))
set_option maxRecDepth 4000 in
theorem kX10_cost (l : Launch) {h : wSt} {x0 : Int32} {x1 : Int32} {res : Int32 × wSt} (hf : fX10_cost h x0 x1 = some res) : wC l yX10_cost cX10_cost 5 (some .int) 5 S0 [.ref 0, .int x0, .int x1] h (wFI (fun a b => res.1 = a ∧ res.2 = b)) := by
  refine w_meth2 2 (by decide) (Nat.le_of_ble_eq_true rfl) (ls := [some (.ref 0), some (.int x0), some (.int x1), none, none]) rfl ?_
  intro p e s m args below meth c D dA b0 ad X hr
  exact pX10_cost_b0 X hr  (K := fun z => res = z) (fun x h2 hz => ⟨x, rfl, by rw [hz], by rw [hz]⟩) ⟨res, hf, rfl⟩
set_option maxRecDepth 4000 in
theorem pX10_lay_b19 (X : wCx p s m args meth c RX10 cX10_lay 2 D dA b0 ad) (hr : meth.sig.returnType = (some .int)) {h : wSt} {v1 : Int32} {K : Int32 × wSt → Prop} (hT : ∀ (x : Int32) (h2 : wSt), K (x, h2) → F (some (.int x)) h2)  (hf : wok (fX10_lay_b19 h v1) K) : wM p l e (wR 69) s m args below meth c 0 0 (wE below args s D dA b0 ad S0 F) 2 D dA b0 ad S0 19 [some (.ref 0), some (.int v1)] [] h := by
  unfold fX10_lay_b19 at hf
  refine w_aload_n X dX10_lay_19 rfl rfl rfl ?_
  refine w_getR X dX10_lay_20 rfl fl_X10_65 S0_0 rfl ?_
  refine w_aload_n X dX10_lay_23 rfl rfl rfl ?_
  refine w_getR X dX10_lay_24 rfl fl_X10_31 S0_0 rfl ?_
  obtain ⟨yr21, eyr21, hf⟩ := wok_b hf
  refine w_callV X dX10_lay_27 rfl vl_X10_249 (kX6_freeLines l in_29 eyr21) S0_29 (As := []) (st := [.ref 130]) rfl rfl (Nat.le_of_ble_eq_true rfl) ⟨Nat.le_of_ble_eq_true rfl, Nat.le_of_ble_eq_true rfl⟩ ⟨Nat.zero_le _, Nat.zero_le _⟩ (fun r h2 hF => ?_)
  obtain ⟨_, rfl, rfl, rfl⟩ := hF
  show wM p l e (wR 69) s m args below meth c 0 0 (wE below args s D dA b0 ad S0 F) 2 D dA b0 ad S0 30 [some (.ref 0), some (.int v1)] [.int yr21, .ref 130] h
  obtain ⟨yr22, eyr22, hf⟩ := wok_b hf
  refine w_callV X dX10_lay_30 rfl vl_X10_252 (kX3_find l  eyr22) S0_130 (As := [.int yr21]) (st := []) rfl rfl (Nat.le_of_ble_eq_true rfl) ⟨Nat.le_of_ble_eq_true rfl, Nat.le_of_ble_eq_true rfl⟩ ⟨Nat.zero_le _, Nat.zero_le _⟩ (fun r h2 hF => ?_)
  obtain ⟨rfl, rfl⟩ := hF
  show wM p l e (wR 69) s m args below meth c 0 0 (wE below args s D dA b0 ad S0 F) 2 D dA b0 ad S0 33 [some (.ref 0), some (.int v1)] [] yr22
  refine w_iload_n X dX10_lay_33 rfl rfl rfl ?_
  refine w_iconst X dX10_lay_34 rfl ci_m1 ?_
  refine w_icmp_ne X dX10_lay_35 rfl (t := 48) rfl (fun hc => ?_) (fun hc => ?_)
  · have hf := wok_f hf hc
    refine w_aload_n X dX10_lay_48 rfl rfl rfl ?_
    refine w_getR X dX10_lay_49 rfl fl_X10_65 S0_0 rfl ?_
    refine w_getR X dX10_lay_52 rfl fl_X10_259 S0_130 rfl ?_
    refine w_iload_n X dX10_lay_55 rfl rfl rfl ?_
    obtain ⟨yhg23, hf⟩ := wok_g hf
    refine w_iald X dX10_lay_56 rfl (j := v1.toNatClampNeg) rfl S0_131 yhg23 ?_
    exact w_iret X dX10_lay_57 hr (hT _ _ (wok_s hf))
  · have hf := wok_t hf hc
    refine w_aload_n X dX10_lay_38 rfl rfl rfl ?_
    refine w_getR X dX10_lay_39 rfl fl_X10_65 S0_0 rfl ?_
    refine w_getI X dX10_lay_42 rfl fl_X10_256 S0_130 rfl ?_
    refine w_goto X dX10_lay_45 (t := 57) rfl ?_
    exact w_iret X dX10_lay_57 hr (hT _ _ (wok_s hf))
set_option maxRecDepth 4000 in
theorem pX10_lay_b0 (X : wCx p s m args meth c RX10 cX10_lay 2 D dA b0 ad) (hr : meth.sig.returnType = (some .int)) {h : wSt} {x0 : Int32} {K : Int32 × wSt → Prop} (hT : ∀ (x : Int32) (h2 : wSt), K (x, h2) → F (some (.int x)) h2) (hf : wok (fX10_lay h x0) K) : wM p l e (wR 69) s m args below meth c 0 0 (wE below args s D dA b0 ad S0 F) 2 D dA b0 ad S0 0 [some (.ref 0), some (.int x0)] [] h := by
  unfold fX10_lay at hf
  refine w_iload_n X dX10_lay_0 rfl rfl rfl ?_
  refine w_iconst X dX10_lay_1 rfl ci_m1 ?_
  refine w_icmp_eq X dX10_lay_2 rfl (t := 19) rfl (fun hc => ?_) (fun hc => ?_)
  · have hf := wok_t hf hc
    exact pX10_lay_b19 X hr  hT hf
  · have hf := wok_f hf hc
    refine w_aload_n X dX10_lay_5 rfl rfl rfl ?_
    refine w_getR X dX10_lay_6 rfl fl_X10_19 S0_0 rfl ?_
    refine w_iload_n X dX10_lay_9 rfl rfl rfl ?_
    obtain ⟨yr24, eyr24, hf⟩ := wok_b hf
    refine w_callV X dX10_lay_10 rfl vl_X10_142 (kX4_hasText l in_3 eyr24) S0_3 (As := [.int x0]) (st := []) rfl rfl (Nat.le_of_ble_eq_true rfl) ⟨Nat.le_of_ble_eq_true rfl, Nat.le_of_ble_eq_true rfl⟩ ⟨Nat.zero_le _, Nat.zero_le _⟩ (fun r h2 hF => ?_)
    obtain ⟨_, rfl, rfl, rfl⟩ := hF
    show wM p l e (wR 69) s m args below meth c 0 0 (wE below args s D dA b0 ad S0 F) 2 D dA b0 ad S0 13 [some (.ref 0), some (.int x0)] [.int (wb yr24)] h
    refine w_if_ne X dX10_lay_13 rfl (t := 19) rfl (fun hc => ?_) (fun hc => ?_)
    · have hf := wok_t hf (wb_n0 hc)
      exact pX10_lay_b19 X hr  hT hf
    · have hf := wok_f hf (wb_0 hc)
      refine w_bipush X dX10_lay_16 rfl cb_m2 ?_
      exact w_iret X dX10_lay_18 hr (hT _ _ (wok_s hf))
set_option maxRecDepth 4000 in
theorem kX10_lay (l : Launch) {h : wSt} {x0 : Int32} {res : Int32 × wSt} (hf : fX10_lay h x0 = some res) : wC l yX10_lay cX10_lay 2 (some .int) 69 S0 [.ref 0, .int x0] h (wFI (fun a b => res.1 = a ∧ res.2 = b)) := by
  refine w_meth2 0 (by decide) (Nat.le_of_ble_eq_true rfl) (ls := [some (.ref 0), some (.int x0)]) rfl ?_
  intro p e s m args below meth c D dA b0 ad X hr
  exact pX10_lay_b0 X hr  (K := fun z => res = z) (fun x h2 hz => ⟨x, rfl, by rw [hz], by rw [hz]⟩) ⟨res, hf, rfl⟩
set_option maxRecDepth 4000 in
theorem pX10_bears_l51b (X : wCx p s m args meth c RX10 cX10_bears 7 D dA b0 ad) (hr : meth.sig.returnType = (some .int)) {h : wSt} {v1 : Int32} {v2 : Int32} {v4 : Int32} {v3 : Int32} {v5 : Int32} {K : (Int32 × Int32 × wSt) ⊕ ((Int32 × wSt)) → Prop} (hN : ∀ (n3 : Int32) (n5 : Int32) (nh : wSt), K (.inl (n3, n5, nh)) → wM p l e (wR 4) s m args below meth c 0 0 (wE below args s D dA b0 ad S0 F) 7 D dA b0 ad S0 51 [some (.ref 0), some (.int v1), some (.int v2), some (.int n3), some (.int v4), some (.int n5), none] [] nh) (hX0 : ∀ (n3 : Int32) (nh : wSt), K (.inr (n3, nh)) → wM p l e (wR 4) s m args below meth c 0 0 (wE below args s D dA b0 ad S0 F) 7 D dA b0 ad S0 109 [none, none, none, some (.int n3), none, none, none] [] nh) (hf : wok (fX10_bears_l51 h v1 v2 v4 v3 v5) K) : wM p l e (wR 4) s m args below meth c 0 0 (wE below args s D dA b0 ad S0 F) 7 D dA b0 ad S0 51 [some (.ref 0), some (.int v1), some (.int v2), some (.int v3), some (.int v4), some (.int v5), none] [] h := by
  unfold fX10_bears_l51 at hf
  refine w_iload X dX10_bears_51 rfl rfl ?_
  refine w_iload X dX10_bears_53 rfl rfl ?_
  refine w_icmp_ge X dX10_bears_55 rfl (t := 109) rfl (fun hc => ?_) (fun hc => ?_)
  · have hf := wok_t hf hc
    refine w_fg (ls2 := [none, none, none, some (.int v3), none, none, none]) ⟨rfl, trivial⟩ ?_
    exact hX0 _ _ (wok_s hf)
  · have hf := wok_f hf hc
    refine w_aload_n X dX10_bears_58 rfl rfl rfl ?_
    refine w_getR X dX10_bears_59 rfl fl_X10_35 S0_0 rfl ?_
    refine w_iload_n X dX10_bears_62 rfl rfl rfl ?_
    refine w_iload_n X dX10_bears_63 rfl rfl rfl ?_
    obtain ⟨yr25, eyr25, hf⟩ := wok_b hf
    refine w_callV X dX10_bears_64 rfl vl_X10_238 (kX6_firstPlace l in_34 eyr25) S0_34 (As := [.int v2, .int v1]) (st := []) rfl rfl (Nat.le_of_ble_eq_true rfl) ⟨Nat.le_of_ble_eq_true rfl, Nat.le_of_ble_eq_true rfl⟩ ⟨Nat.zero_le _, Nat.zero_le _⟩ (fun r h2 hF => ?_)
    obtain ⟨_, rfl, rfl, rfl⟩ := hF
    show wM p l e (wR 4) s m args below meth c 0 0 (wE below args s D dA b0 ad S0 F) 7 D dA b0 ad S0 67 [some (.ref 0), some (.int v1), some (.int v2), some (.int v3), some (.int v4), some (.int v5), none] [.int yr25] h
    refine w_istore X dX10_bears_67 rfl rfl (Nat.le_of_ble_eq_true rfl) (ls' := [some (.ref 0), some (.int v1), some (.int v2), some (.int v3), some (.int v4), some (.int v5), some (.int yr25)]) rfl ?_
    refine w_iload X dX10_bears_69 rfl rfl ?_
    refine w_iconst X dX10_bears_71 rfl ci_m1 ?_
    refine w_icmp_ne X dX10_bears_72 rfl (t := 78) rfl (fun hc => ?_) (fun hc => ?_)
    · have hf := wok_f hf hc
      refine w_aload_n X dX10_bears_78 rfl rfl rfl ?_
      refine w_getR X dX10_bears_79 rfl fl_X10_35 S0_0 rfl ?_
      refine w_iload_n X dX10_bears_82 rfl rfl rfl ?_
      refine w_iload_n X dX10_bears_83 rfl rfl rfl ?_
      refine w_iload X dX10_bears_84 rfl rfl ?_
      obtain ⟨yr26, eyr26, hf⟩ := wok_b hf
      refine w_callV X dX10_bears_86 rfl vl_X10_182 (kX6_put l in_34 eyr26) S0_34 (As := [.int v2, .int v1, .int yr25]) (st := []) rfl rfl (Nat.le_of_ble_eq_true rfl) ⟨Nat.le_of_ble_eq_true rfl, Nat.le_of_ble_eq_true rfl⟩ ⟨Nat.zero_le _, Nat.zero_le _⟩ (fun r h2 hF => ?_)
      obtain ⟨rfl, rfl⟩ := hF
      show wM p l e (wR 4) s m args below meth c 0 0 (wE below args s D dA b0 ad S0 F) 7 D dA b0 ad S0 89 [some (.ref 0), some (.int v1), some (.int v2), some (.int v3), some (.int v4), some (.int v5), some (.int yr25)] [] yr26
      refine w_aload_n X dX10_bears_89 rfl rfl rfl ?_
      refine w_getR X dX10_bears_90 rfl fl_X10_35 S0_0 rfl ?_
      refine w_iload_n X dX10_bears_93 rfl rfl rfl ?_
      refine w_bipush X dX10_bears_94 rfl cb_63 ?_
      obtain ⟨yr27, eyr27, hf⟩ := wok_b hf
      refine w_callV X dX10_bears_96 rfl vl_X10_192 (kX6_rub l in_34 eyr27) S0_34 (As := [.int v1, .int 63]) (st := []) rfl rfl (Nat.le_of_ble_eq_true rfl) ⟨Nat.le_of_ble_eq_true rfl, Nat.le_of_ble_eq_true rfl⟩ ⟨Nat.zero_le _, Nat.zero_le _⟩ (fun r h2 hF => ?_)
      obtain ⟨_, rfl, rfl, rfl⟩ := hF
      show wM p l e (wR 4) s m args below meth c 0 0 (wE below args s D dA b0 ad S0 F) 7 D dA b0 ad S0 99 [some (.ref 0), some (.int v1), some (.int v2), some (.int v3), some (.int v4), some (.int v5), some (.int yr25)] [.int (wb yr27.1)] yr27.2
      refine w_pop X dX10_bears_99 rfl rfl ?_
      refine w_iinc X dX10_bears_100 rfl (v := (v3 + 1)) rfl rfl (Nat.le_of_ble_eq_true rfl) (cinc_1 _) (ls' := [some (.ref 0), some (.int v1), some (.int v2), some (.int (v3 + 1)), some (.int v4), some (.int v5), some (.int yr25)]) rfl ?_
      refine w_iinc X dX10_bears_103 rfl (v := (v5 + 1)) rfl rfl (Nat.le_of_ble_eq_true rfl) (cinc_1 _) (ls' := [some (.ref 0), some (.int v1), some (.int v2), some (.int (v3 + 1)), some (.int v4), some (.int (v5 + 1)), some (.int yr25)]) rfl ?_
      refine w_goto X dX10_bears_106 (t := 51) rfl ?_
      refine w_fg (ls2 := [some (.ref 0), some (.int v1), some (.int v2), some (.int (v3 + 1)), some (.int v4), some (.int (v5 + 1)), none]) ⟨rfl, rfl, rfl, rfl, rfl, rfl, trivial⟩ ?_
      exact hN _ _ _ (wok_s hf)
    · have hf := wok_t hf hc
      refine w_goto X dX10_bears_75 (t := 109) rfl ?_
      refine w_fg (ls2 := [none, none, none, some (.int v3), none, none, none]) ⟨rfl, trivial⟩ ?_
      exact hX0 _ _ (wok_s hf)
set_option maxRecDepth 4000 in
theorem pX10_bears_l51 (X : wCx p s m args meth c RX10 cX10_bears 7 D dA b0 ad) (hr : meth.sig.returnType = (some .int))  {v1 : Int32} {v2 : Int32} {v4 : Int32} {KE : (Int32 × wSt) → Prop} (hX0 : ∀ (n3 : Int32) (nh : wSt), KE ((n3, nh)) → wM p l e (wR 4) s m args below meth c 0 0 (wE below args s D dA b0 ad S0 F) 7 D dA b0 ad S0 109 [none, none, none, some (.int n3), none, none, none] [] nh) : ∀ (n : Nat) (v3 : Int32) (v5 : Int32) (h : wSt), wok (wit (fun v : (Int32 × Int32 × wSt) => fX10_bears_l51 v.2.2 v1 v2 v4 v.1 v.2.1) n (v3, v5, h)) KE → wM p l e (wR 4) s m args below meth c 0 0 (wE below args s D dA b0 ad S0 F) 7 D dA b0 ad S0 51 [some (.ref 0), some (.int v1), some (.int v2), some (.int v3), some (.int v4), some (.int v5), none] [] h := by
  have key := wit_M (b := (fun v : (Int32 × Int32 × wSt) => fX10_bears_l51 v.2.2 v1 v2 v4 v.1 v.2.1)) (KE := KE) (G := fun v => wM p l e (wR 4) s m args below meth c 0 0 (wE below args s D dA b0 ad S0 F) 7 D dA b0 ad S0 51 [some (.ref 0), some (.int v1), some (.int v2), some (.int v.1), some (.int v4), some (.int v.2.1), none] [] v.2.2) (fun v K hN hE hf => pX10_bears_l51b X hr  (fun n3 n5 nh hz => hN (n3, n5, nh) hz) (fun z0 z1 hz => hX0 z0 z1 (hE _ hz)) hf)
  exact fun n v3 v5 h hf => key n (v3, v5, h) hf
set_option maxRecDepth 4000 in
theorem pX10_bears_b0 (X : wCx p s m args meth c RX10 cX10_bears 7 D dA b0 ad) (hr : meth.sig.returnType = (some .int)) {h : wSt} {x0 : Int32} {x1 : Int32} {K : Int32 × wSt → Prop} (hT : ∀ (x : Int32) (h2 : wSt), K (x, h2) → F (some (.int x)) h2) (hf : wok (fX10_bears h x0 x1) K) : wM p l e (wR 4) s m args below meth c 0 0 (wE below args s D dA b0 ad S0 F) 7 D dA b0 ad S0 0 [some (.ref 0), some (.int x0), some (.int x1), none, none, none, none] [] h := by
  unfold fX10_bears at hf
  refine w_aload_n X dX10_bears_0 rfl rfl rfl ?_
  refine w_getR X dX10_bears_1 rfl fl_X10_19 S0_0 rfl ?_
  refine w_iload_n X dX10_bears_4 rfl rfl rfl ?_
  obtain ⟨yr21, eyr21, hf⟩ := wok_b hf
  refine w_callV X dX10_bears_5 rfl vl_X10_117 (kX4_hasSkin l in_3 eyr21) S0_3 (As := [.int x0]) (st := []) rfl rfl (Nat.le_of_ble_eq_true rfl) ⟨Nat.le_of_ble_eq_true rfl, Nat.le_of_ble_eq_true rfl⟩ ⟨Nat.zero_le _, Nat.zero_le _⟩ (fun r h2 hF => ?_)
  obtain ⟨_, rfl, rfl, rfl⟩ := hF
  show wM p l e (wR 4) s m args below meth c 0 0 (wE below args s D dA b0 ad S0 F) 7 D dA b0 ad S0 8 [some (.ref 0), some (.int x0), some (.int x1), none, none, none, none] [.int (wb yr21)] h
  refine w_if_eq X dX10_bears_8 rfl (t := 22) rfl (fun hc => ?_) (fun hc => ?_)
  · have hf := wok_f hf (wb_0 hc)
    refine w_iconst X dX10_bears_22 rfl ci_m1 ?_
    exact w_iret X dX10_bears_23 hr (hT _ _ (wok_s hf))
  · have hf := wok_t hf (wb_n0 hc)
    refine w_aload_n X dX10_bears_11 rfl rfl rfl ?_
    refine w_getR X dX10_bears_12 rfl fl_X10_19 S0_0 rfl ?_
    refine w_iload_n X dX10_bears_15 rfl rfl rfl ?_
    obtain ⟨yr22, eyr22, hf⟩ := wok_b hf
    refine w_callV X dX10_bears_16 rfl vl_X10_142 (kX4_hasText l in_3 eyr22) S0_3 (As := [.int x1]) (st := []) rfl rfl (Nat.le_of_ble_eq_true rfl) ⟨Nat.le_of_ble_eq_true rfl, Nat.le_of_ble_eq_true rfl⟩ ⟨Nat.zero_le _, Nat.zero_le _⟩ (fun r h2 hF => ?_)
    obtain ⟨_, rfl, rfl, rfl⟩ := hF
    show wM p l e (wR 4) s m args below meth c 0 0 (wE below args s D dA b0 ad S0 F) 7 D dA b0 ad S0 19 [some (.ref 0), some (.int x0), some (.int x1), none, none, none, none] [.int (wb yr22)] h
    refine w_if_ne X dX10_bears_19 rfl (t := 24) rfl (fun hc => ?_) (fun hc => ?_)
    · have hf := wok_t hf (wb_n0 hc)
      refine w_aload_n X dX10_bears_24 rfl rfl rfl ?_
      refine w_getR X dX10_bears_25 rfl fl_X10_35 S0_0 rfl ?_
      refine w_aload_n X dX10_bears_28 rfl rfl rfl ?_
      refine w_getR X dX10_bears_29 rfl fl_X10_31 S0_0 rfl ?_
      obtain ⟨yr23, eyr23, hf⟩ := wok_b hf
      refine w_callV X dX10_bears_32 rfl vl_X10_247 (kX6_copyFrom l in_34 in_29 eyr23) S0_34 (As := [.ref 29]) (st := []) rfl rfl (Nat.le_of_ble_eq_true rfl) ⟨Nat.le_of_ble_eq_true rfl, Nat.le_of_ble_eq_true rfl⟩ ⟨Nat.zero_le _, Nat.zero_le _⟩ (fun r h2 hF => ?_)
      obtain ⟨rfl, rfl⟩ := hF
      show wM p l e (wR 4) s m args below meth c 0 0 (wE below args s D dA b0 ad S0 F) 7 D dA b0 ad S0 35 [some (.ref 0), some (.int x0), some (.int x1), none, none, none, none] [] yr23
      refine w_iconst X dX10_bears_35 rfl ci_0 ?_
      refine w_istore_n X dX10_bears_36 rfl rfl rfl (Nat.le_of_ble_eq_true rfl) (ls' := [some (.ref 0), some (.int x0), some (.int x1), some (.int 0), none, none, none]) rfl ?_
      refine w_aload_n X dX10_bears_37 rfl rfl rfl ?_
      refine w_getR X dX10_bears_38 rfl fl_X10_31 S0_0 rfl ?_
      refine w_getR X dX10_bears_41 rfl fl_X10_125 S0_29 rfl ?_
      refine w_iload_n X dX10_bears_44 rfl rfl rfl ?_
      obtain ⟨yhg24, hf⟩ := wok_g hf
      refine w_iald X dX10_bears_45 rfl (j := x0.toNatClampNeg) rfl S0_30 yhg24 ?_
      refine w_istore X dX10_bears_46 rfl rfl (Nat.le_of_ble_eq_true rfl) (ls' := [some (.ref 0), some (.int x0), some (.int x1), some (.int 0), some (.int (yr23.1 30 x0.toNatClampNeg)), none, none]) rfl ?_
      refine w_iconst X dX10_bears_48 rfl ci_0 ?_
      refine w_istore X dX10_bears_49 rfl rfl (Nat.le_of_ble_eq_true rfl) (ls' := [some (.ref 0), some (.int x0), some (.int x1), some (.int 0), some (.int (yr23.1 30 x0.toNatClampNeg)), some (.int 0), none]) rfl ?_
      obtain ⟨ye28, hye28, hf⟩ := wok_b hf
      refine pX10_bears_l51 X hr  (KE := fun z => ye28 = z) ?_ 3000 _ _ _ ⟨ye28, hye28, rfl⟩
      · intro yz29 yz30 hz
        subst hz
        refine w_iload_n X dX10_bears_109 rfl rfl rfl ?_
        exact w_iret X dX10_bears_110 hr (hT _ _ (wok_s hf))
    · have hf := wok_f hf (wb_0 hc)
      refine w_iconst X dX10_bears_22 rfl ci_m1 ?_
      exact w_iret X dX10_bears_23 hr (hT _ _ (wok_s hf))
set_option maxRecDepth 4000 in
theorem kX10_bears (l : Launch) {h : wSt} {x0 : Int32} {x1 : Int32} {res : Int32 × wSt} (hf : fX10_bears h x0 x1 = some res) : wC l yX10_bears cX10_bears 7 (some .int) 4 S0 [.ref 0, .int x0, .int x1] h (wFI (fun a b => res.1 = a ∧ res.2 = b)) := by
  refine w_meth2 4 (by decide) (Nat.le_of_ble_eq_true rfl) (ls := [some (.ref 0), some (.int x0), some (.int x1), none, none, none, none]) rfl ?_
  intro p e s m args below meth c D dA b0 ad X hr
  exact pX10_bears_b0 X hr  (K := fun z => res = z) (fun x h2 hz => ⟨x, rfl, by rw [hz], by rw [hz]⟩) ⟨res, hf, rfl⟩
set_option maxRecDepth 4000 in
theorem pX10_over_b0 (X : wCx p s m args meth c RX10 cX10_over 2 D dA b0 ad) (hr : meth.sig.returnType = (some .int)) {h : wSt} {x0 : Int32} {K : Int32 → Prop} (hT : ∀ (x : Int32), K x → F (some (.int x)) h) (hf : wok (fX10_over h x0) K) : wM p l e (wR 3) s m args below meth c 0 0 (wE below args s D dA b0 ad S0 F) 2 D dA b0 ad S0 0 [some (.ref 0), some (.int x0)] [] h := by
  unfold fX10_over at hf
  refine w_aload_n X dX10_over_0 rfl rfl rfl ?_
  refine w_getR X dX10_over_1 rfl fl_X10_19 S0_0 rfl ?_
  refine w_iload_n X dX10_over_4 rfl rfl rfl ?_
  obtain ⟨yr21, eyr21, hf⟩ := wok_b hf
  refine w_callV X dX10_over_5 rfl vl_X10_142 (kX4_hasText l in_3 eyr21) S0_3 (As := [.int x0]) (st := []) rfl rfl (Nat.le_of_ble_eq_true rfl) ⟨Nat.le_of_ble_eq_true rfl, Nat.le_of_ble_eq_true rfl⟩ ⟨Nat.zero_le _, Nat.zero_le _⟩ (fun r h2 hF => ?_)
  obtain ⟨_, rfl, rfl, rfl⟩ := hF
  show wM p l e (wR 3) s m args below meth c 0 0 (wE below args s D dA b0 ad S0 F) 2 D dA b0 ad S0 8 [some (.ref 0), some (.int x0)] [.int (wb yr21)] h
  refine w_if_eq X dX10_over_8 rfl (t := 22) rfl (fun hc => ?_) (fun hc => ?_)
  · have hf := wok_f hf (wb_0 hc)
    refine w_iconst X dX10_over_22 rfl ci_m1 ?_
    exact w_iret X dX10_over_23 hr (hT _ (wok_s hf))
  · have hf := wok_t hf (wb_n0 hc)
    refine w_aload_n X dX10_over_11 rfl rfl rfl ?_
    refine w_getR X dX10_over_12 rfl fl_X10_31 S0_0 rfl ?_
    refine w_iload_n X dX10_over_15 rfl rfl rfl ?_
    obtain ⟨yr22, eyr22, hf⟩ := wok_b hf
    refine w_callV X dX10_over_16 rfl vl_X10_262 (kX6_textsOver l in_29 eyr22) S0_29 (As := [.int x0]) (st := []) rfl rfl (Nat.le_of_ble_eq_true rfl) ⟨Nat.le_of_ble_eq_true rfl, Nat.le_of_ble_eq_true rfl⟩ ⟨Nat.zero_le _, Nat.zero_le _⟩ (fun r h2 hF => ?_)
    obtain ⟨_, rfl, rfl, rfl⟩ := hF
    show wM p l e (wR 3) s m args below meth c 0 0 (wE below args s D dA b0 ad S0 F) 2 D dA b0 ad S0 19 [some (.ref 0), some (.int x0)] [.int yr22] h
    refine w_goto X dX10_over_19 (t := 23) rfl ?_
    exact w_iret X dX10_over_23 hr (hT _ (wok_s hf))
set_option maxRecDepth 4000 in
theorem kX10_over (l : Launch) {h : wSt} {x0 : Int32} {res : Int32} (hf : fX10_over h x0 = some res) : wC l yX10_over cX10_over 2 (some .int) 3 S0 [.ref 0, .int x0] h (wFI (fun a b => res = a ∧ h = b)) := by
  refine w_meth2 0 (by decide) (Nat.le_of_ble_eq_true rfl) (ls := [some (.ref 0), some (.int x0)]) rfl ?_
  intro p e s m args below meth c D dA b0 ad X hr
  exact pX10_over_b0 X hr  (K := fun z => res = z) (fun x hz => ⟨x, rfl, hz, rfl⟩) ⟨res, hf, rfl⟩
set_option maxRecDepth 4000 in
theorem pX10_deepest_b63_17 (X : wCx p s m args meth c RX10 cX10_deepest 4 D dA b0 ad) (hr : meth.sig.returnType = (some .int)) {h : wSt} {v1 : Int32} {v2 : Int32} {v3 : Int32} {K : (Int32 × Int32) ⊕ ((Int32)) → Prop} (hN : ∀ (n2 : Int32) (n3 : Int32), K (.inl (n2, n3)) → wM p l e (wR 2) s m args below meth c 0 0 (wE below args s D dA b0 ad S0 F) 4 D dA b0 ad S0 17 [some (.ref 0), some (.int v1), some (.int n2), some (.int n3)] [] h) (hX0 : ∀ (n2 : Int32), K (.inr n2) → wM p l e (wR 2) s m args below meth c 0 0 (wE below args s D dA b0 ad S0 F) 4 D dA b0 ad S0 69 [none, none, some (.int n2), none] [] h) (hf : wok (fX10_deepest_b63_17 h v1 v2 v3) K) : wM p l e (wR 2) s m args below meth c 0 0 (wE below args s D dA b0 ad S0 F) 4 D dA b0 ad S0 63 [some (.ref 0), some (.int v1), some (.int v2), some (.int v3)] [] h := by
  unfold fX10_deepest_b63_17 at hf
  refine w_iinc X dX10_deepest_63 rfl (v := (v3 + 1)) rfl rfl (Nat.le_of_ble_eq_true rfl) (cinc_1 _) (ls' := [some (.ref 0), some (.int v1), some (.int v2), some (.int (v3 + 1))]) rfl ?_
  refine w_goto X dX10_deepest_66 (t := 17) rfl ?_
  exact hN _ _ (wok_s hf)
set_option maxRecDepth 4000 in
theorem pX10_deepest_l17b (X : wCx p s m args meth c RX10 cX10_deepest 4 D dA b0 ad) (hr : meth.sig.returnType = (some .int)) {h : wSt} {v1 : Int32} {v2 : Int32} {v3 : Int32} {K : (Int32 × Int32) ⊕ ((Int32)) → Prop} (hN : ∀ (n2 : Int32) (n3 : Int32), K (.inl (n2, n3)) → wM p l e (wR 2) s m args below meth c 0 0 (wE below args s D dA b0 ad S0 F) 4 D dA b0 ad S0 17 [some (.ref 0), some (.int v1), some (.int n2), some (.int n3)] [] h) (hX0 : ∀ (n2 : Int32), K (.inr n2) → wM p l e (wR 2) s m args below meth c 0 0 (wE below args s D dA b0 ad S0 F) 4 D dA b0 ad S0 69 [none, none, some (.int n2), none] [] h) (hf : wok (fX10_deepest_l17 h v1 v2 v3) K) : wM p l e (wR 2) s m args below meth c 0 0 (wE below args s D dA b0 ad S0 F) 4 D dA b0 ad S0 17 [some (.ref 0), some (.int v1), some (.int v2), some (.int v3)] [] h := by
  unfold fX10_deepest_l17 at hf
  refine w_iload_n X dX10_deepest_17 rfl rfl rfl ?_
  refine w_aload_n X dX10_deepest_18 rfl rfl rfl ?_
  refine w_getR X dX10_deepest_19 rfl fl_X10_19 S0_0 rfl ?_
  refine w_getR X dX10_deepest_22 rfl fl_X10_121 S0_3 rfl ?_
  refine w_iload_n X dX10_deepest_25 rfl rfl rfl ?_
  obtain ⟨yhg22, hf⟩ := wok_g hf
  refine w_iald X dX10_deepest_26 rfl (j := v1.toNatClampNeg) rfl S0_5 yhg22 ?_
  refine w_icmp_ge X dX10_deepest_27 rfl (t := 69) rfl (fun hc => ?_) (fun hc => ?_)
  · have hf := wok_t hf hc
    refine w_fg (ls2 := [none, none, some (.int v2), none]) ⟨rfl, trivial⟩ ?_
    exact hX0 _ (wok_s hf)
  · have hf := wok_f hf hc
    refine w_aload_n X dX10_deepest_30 rfl rfl rfl ?_
    refine w_getR X dX10_deepest_31 rfl fl_X10_31 S0_0 rfl ?_
    refine w_getR X dX10_deepest_34 rfl fl_X10_164 S0_29 rfl ?_
    refine w_bipush X dX10_deepest_37 rfl cb_6 ?_
    refine w_iload_n X dX10_deepest_39 rfl rfl rfl ?_
    refine w_imul X dX10_deepest_40 rfl ?_
    refine w_iload_n X dX10_deepest_41 rfl rfl rfl ?_
    refine w_iadd X dX10_deepest_42 rfl ?_
    obtain ⟨yhg23, hf⟩ := wok_g hf
    refine w_iald X dX10_deepest_43 rfl (j := ((6 * v1) + v3).toNatClampNeg) rfl S0_32 yhg23 ?_
    refine w_aload_n X dX10_deepest_44 rfl rfl rfl ?_
    refine w_getR X dX10_deepest_45 rfl fl_X10_31 S0_0 rfl ?_
    refine w_getR X dX10_deepest_48 rfl fl_X10_164 S0_29 rfl ?_
    refine w_bipush X dX10_deepest_51 rfl cb_6 ?_
    refine w_iload_n X dX10_deepest_53 rfl rfl rfl ?_
    refine w_imul X dX10_deepest_54 rfl ?_
    refine w_iload_n X dX10_deepest_55 rfl rfl rfl ?_
    refine w_iadd X dX10_deepest_56 rfl ?_
    obtain ⟨yhg24, hf⟩ := wok_g hf
    refine w_iald X dX10_deepest_57 rfl (j := ((6 * v1) + v2).toNatClampNeg) rfl S0_32 yhg24 ?_
    refine w_icmp_le X dX10_deepest_58 rfl (t := 63) rfl (fun hc => ?_) (fun hc => ?_)
    · have hf := wok_t hf hc
      exact pX10_deepest_b63_17 X hr  hN hX0 hf
    · have hf := wok_f hf hc
      refine w_iload_n X dX10_deepest_61 rfl rfl rfl ?_
      refine w_istore_n X dX10_deepest_62 rfl rfl rfl (Nat.le_of_ble_eq_true rfl) (ls' := [some (.ref 0), some (.int v1), some (.int v3), some (.int v3)]) rfl ?_
      exact pX10_deepest_b63_17 X hr  hN hX0 hf
set_option maxRecDepth 4000 in
theorem pX10_deepest_l17 (X : wCx p s m args meth c RX10 cX10_deepest 4 D dA b0 ad) (hr : meth.sig.returnType = (some .int)) {h : wSt} {v1 : Int32} {KE : (Int32) → Prop} (hX0 : ∀ (n2 : Int32), KE (n2) → wM p l e (wR 2) s m args below meth c 0 0 (wE below args s D dA b0 ad S0 F) 4 D dA b0 ad S0 69 [none, none, some (.int n2), none] [] h) : ∀ (n : Nat) (v2 : Int32) (v3 : Int32), wok (wit (fun v : (Int32 × Int32) => fX10_deepest_l17 h v1 v.1 v.2) n (v2, v3)) KE → wM p l e (wR 2) s m args below meth c 0 0 (wE below args s D dA b0 ad S0 F) 4 D dA b0 ad S0 17 [some (.ref 0), some (.int v1), some (.int v2), some (.int v3)] [] h := by
  have key := wit_M (b := (fun v : (Int32 × Int32) => fX10_deepest_l17 h v1 v.1 v.2)) (KE := KE) (G := fun v => wM p l e (wR 2) s m args below meth c 0 0 (wE below args s D dA b0 ad S0 F) 4 D dA b0 ad S0 17 [some (.ref 0), some (.int v1), some (.int v.1), some (.int v.2)] [] h) (fun v K hN hE hf => pX10_deepest_l17b X hr  (fun n2 n3 hz => hN (n2, n3) hz) (fun z0 hz => hX0 z0 (hE _ hz)) hf)
  exact fun n v2 v3 hf => key n (v2, v3) hf
set_option maxRecDepth 4000 in
theorem pX10_deepest_b0 (X : wCx p s m args meth c RX10 cX10_deepest 4 D dA b0 ad) (hr : meth.sig.returnType = (some .int)) {h : wSt} {x0 : Int32} {K : Int32 → Prop} (hT : ∀ (x : Int32), K x → F (some (.int x)) h) (hf : wok (fX10_deepest h x0) K) : wM p l e (wR 2) s m args below meth c 0 0 (wE below args s D dA b0 ad S0 F) 4 D dA b0 ad S0 0 [some (.ref 0), some (.int x0), none, none] [] h := by
  unfold fX10_deepest at hf
  refine w_aload_n X dX10_deepest_0 rfl rfl rfl ?_
  refine w_getR X dX10_deepest_1 rfl fl_X10_19 S0_0 rfl ?_
  refine w_iload_n X dX10_deepest_4 rfl rfl rfl ?_
  obtain ⟨yr21, eyr21, hf⟩ := wok_b hf
  refine w_callV X dX10_deepest_5 rfl vl_X10_117 (kX4_hasSkin l in_3 eyr21) S0_3 (As := [.int x0]) (st := []) rfl rfl (Nat.le_of_ble_eq_true rfl) ⟨Nat.le_of_ble_eq_true rfl, Nat.le_of_ble_eq_true rfl⟩ ⟨Nat.zero_le _, Nat.zero_le _⟩ (fun r h2 hF => ?_)
  obtain ⟨_, rfl, rfl, rfl⟩ := hF
  show wM p l e (wR 2) s m args below meth c 0 0 (wE below args s D dA b0 ad S0 F) 4 D dA b0 ad S0 8 [some (.ref 0), some (.int x0), none, none] [.int (wb yr21)] h
  refine w_if_ne X dX10_deepest_8 rfl (t := 13) rfl (fun hc => ?_) (fun hc => ?_)
  · have hf := wok_t hf (wb_n0 hc)
    refine w_iconst X dX10_deepest_13 rfl ci_0 ?_
    refine w_istore_n X dX10_deepest_14 rfl rfl rfl (Nat.le_of_ble_eq_true rfl) (ls' := [some (.ref 0), some (.int x0), some (.int 0), none]) rfl ?_
    refine w_iconst X dX10_deepest_15 rfl ci_1 ?_
    refine w_istore_n X dX10_deepest_16 rfl rfl rfl (Nat.le_of_ble_eq_true rfl) (ls' := [some (.ref 0), some (.int x0), some (.int 0), some (.int 1)]) rfl ?_
    obtain ⟨ye25, hye25, hf⟩ := wok_b hf
    refine pX10_deepest_l17 X hr  (KE := fun z => ye25 = z) ?_ 3000 _ _ ⟨ye25, hye25, rfl⟩
    · intro yz26 hz
      subst hz
      refine w_iload_n X dX10_deepest_69 rfl rfl rfl ?_
      exact w_iret X dX10_deepest_70 hr (hT _ (wok_s hf))
  · have hf := wok_f hf (wb_0 hc)
    refine w_iconst X dX10_deepest_11 rfl ci_m1 ?_
    exact w_iret X dX10_deepest_12 hr (hT _ (wok_s hf))
set_option maxRecDepth 4000 in
theorem kX10_deepest (l : Launch) {h : wSt} {x0 : Int32} {res : Int32} (hf : fX10_deepest h x0 = some res) : wC l yX10_deepest cX10_deepest 4 (some .int) 2 S0 [.ref 0, .int x0] h (wFI (fun a b => res = a ∧ h = b)) := by
  refine w_meth2 2 (by decide) (Nat.le_of_ble_eq_true rfl) (ls := [some (.ref 0), some (.int x0), none, none]) rfl ?_
  intro p e s m args below meth c D dA b0 ad X hr
  exact pX10_deepest_b0 X hr  (K := fun z => res = z) (fun x hz => ⟨x, rfl, hz, rfl⟩) ⟨res, hf, rfl⟩
set_option maxRecDepth 4000 in
theorem pX10_bare_b53_17 (X : wCx p s m args meth c RX10 cX10_bare 4 D dA b0 ad) (hr : meth.sig.returnType = (some .int)) {h : wSt} {v1 : Int32} {v2 : Int32} {v3 : Int32} {K : (Int32 × Int32) ⊕ ((Int32)) → Prop} (hN : ∀ (n2 : Int32) (n3 : Int32), K (.inl (n2, n3)) → wM p l e (wR 2) s m args below meth c 0 0 (wE below args s D dA b0 ad S0 F) 4 D dA b0 ad S0 17 [some (.ref 0), some (.int v1), some (.int n2), some (.int n3)] [] h) (hX0 : ∀ (n2 : Int32), K (.inr n2) → wM p l e (wR 2) s m args below meth c 0 0 (wE below args s D dA b0 ad S0 F) 4 D dA b0 ad S0 59 [some (.ref 0), some (.int v1), some (.int n2), none] [] h) (hf : wok (fX10_bare_b53_17 h v1 v2 v3) K) : wM p l e (wR 2) s m args below meth c 0 0 (wE below args s D dA b0 ad S0 F) 4 D dA b0 ad S0 53 [some (.ref 0), some (.int v1), some (.int v2), some (.int v3)] [] h := by
  unfold fX10_bare_b53_17 at hf
  refine w_iinc X dX10_bare_53 rfl (v := (v3 + 1)) rfl rfl (Nat.le_of_ble_eq_true rfl) (cinc_1 _) (ls' := [some (.ref 0), some (.int v1), some (.int v2), some (.int (v3 + 1))]) rfl ?_
  refine w_goto X dX10_bare_56 (t := 17) rfl ?_
  exact hN _ _ (wok_s hf)
set_option maxRecDepth 4000 in
theorem pX10_bare_l17b (X : wCx p s m args meth c RX10 cX10_bare 4 D dA b0 ad) (hr : meth.sig.returnType = (some .int)) {h : wSt} {v1 : Int32} {v2 : Int32} {v3 : Int32} {K : (Int32 × Int32) ⊕ ((Int32)) → Prop} (hN : ∀ (n2 : Int32) (n3 : Int32), K (.inl (n2, n3)) → wM p l e (wR 2) s m args below meth c 0 0 (wE below args s D dA b0 ad S0 F) 4 D dA b0 ad S0 17 [some (.ref 0), some (.int v1), some (.int n2), some (.int n3)] [] h) (hX0 : ∀ (n2 : Int32), K (.inr n2) → wM p l e (wR 2) s m args below meth c 0 0 (wE below args s D dA b0 ad S0 F) 4 D dA b0 ad S0 59 [some (.ref 0), some (.int v1), some (.int n2), none] [] h) (hf : wok (fX10_bare_l17 h v1 v2 v3) K) : wM p l e (wR 2) s m args below meth c 0 0 (wE below args s D dA b0 ad S0 F) 4 D dA b0 ad S0 17 [some (.ref 0), some (.int v1), some (.int v2), some (.int v3)] [] h := by
  unfold fX10_bare_l17 at hf
  refine w_iload_n X dX10_bare_17 rfl rfl rfl ?_
  refine w_aload_n X dX10_bare_18 rfl rfl rfl ?_
  refine w_getR X dX10_bare_19 rfl fl_X10_19 S0_0 rfl ?_
  refine w_getR X dX10_bare_22 rfl fl_X10_121 S0_3 rfl ?_
  refine w_iload_n X dX10_bare_25 rfl rfl rfl ?_
  obtain ⟨yhg22, hf⟩ := wok_g hf
  refine w_iald X dX10_bare_26 rfl (j := v1.toNatClampNeg) rfl S0_5 yhg22 ?_
  refine w_icmp_ge X dX10_bare_27 rfl (t := 59) rfl (fun hc => ?_) (fun hc => ?_)
  · have hf := wok_t hf hc
    refine w_fg (ls2 := [some (.ref 0), some (.int v1), some (.int v2), none]) ⟨rfl, rfl, rfl, trivial⟩ ?_
    exact hX0 _ (wok_s hf)
  · have hf := wok_f hf hc
    refine w_aload_n X dX10_bare_30 rfl rfl rfl ?_
    refine w_getR X dX10_bare_31 rfl fl_X10_31 S0_0 rfl ?_
    refine w_getR X dX10_bare_34 rfl fl_X10_164 S0_29 rfl ?_
    refine w_bipush X dX10_bare_37 rfl cb_6 ?_
    refine w_iload_n X dX10_bare_39 rfl rfl rfl ?_
    refine w_imul X dX10_bare_40 rfl ?_
    refine w_iload_n X dX10_bare_41 rfl rfl rfl ?_
    refine w_iadd X dX10_bare_42 rfl ?_
    obtain ⟨yhg23, hf⟩ := wok_g hf
    refine w_iald X dX10_bare_43 rfl (j := ((6 * v1) + v3).toNatClampNeg) rfl S0_32 yhg23 ?_
    refine w_if_ne X dX10_bare_44 rfl (t := 53) rfl (fun hc => ?_) (fun hc => ?_)
    · have hf := wok_f hf hc
      exact pX10_bare_b53_17 X hr  hN hX0 hf
    · have hf := wok_t hf hc
      refine w_iload_n X dX10_bare_47 rfl rfl rfl ?_
      refine w_iconst X dX10_bare_48 rfl ci_1 ?_
      refine w_iload_n X dX10_bare_49 rfl rfl rfl ?_
      refine w_ishl X dX10_bare_50 rfl ?_
      refine w_ior X dX10_bare_51 rfl ?_
      refine w_istore_n X dX10_bare_52 rfl rfl rfl (Nat.le_of_ble_eq_true rfl) (ls' := [some (.ref 0), some (.int v1), some (.int (v2 ||| (1 <<< (v3 &&& 31)))), some (.int v3)]) rfl ?_
      exact pX10_bare_b53_17 X hr  hN hX0 hf
set_option maxRecDepth 4000 in
theorem pX10_bare_l17 (X : wCx p s m args meth c RX10 cX10_bare 4 D dA b0 ad) (hr : meth.sig.returnType = (some .int)) {h : wSt} {v1 : Int32} {KE : (Int32) → Prop} (hX0 : ∀ (n2 : Int32), KE (n2) → wM p l e (wR 2) s m args below meth c 0 0 (wE below args s D dA b0 ad S0 F) 4 D dA b0 ad S0 59 [some (.ref 0), some (.int v1), some (.int n2), none] [] h) : ∀ (n : Nat) (v2 : Int32) (v3 : Int32), wok (wit (fun v : (Int32 × Int32) => fX10_bare_l17 h v1 v.1 v.2) n (v2, v3)) KE → wM p l e (wR 2) s m args below meth c 0 0 (wE below args s D dA b0 ad S0 F) 4 D dA b0 ad S0 17 [some (.ref 0), some (.int v1), some (.int v2), some (.int v3)] [] h := by
  have key := wit_M (b := (fun v : (Int32 × Int32) => fX10_bare_l17 h v1 v.1 v.2)) (KE := KE) (G := fun v => wM p l e (wR 2) s m args below meth c 0 0 (wE below args s D dA b0 ad S0 F) 4 D dA b0 ad S0 17 [some (.ref 0), some (.int v1), some (.int v.1), some (.int v.2)] [] h) (fun v K hN hE hf => pX10_bare_l17b X hr  (fun n2 n3 hz => hN (n2, n3) hz) (fun z0 hz => hX0 z0 (hE _ hz)) hf)
  exact fun n v2 v3 hf => key n (v2, v3) hf
set_option maxRecDepth 4000 in
theorem pX10_bare_b0 (X : wCx p s m args meth c RX10 cX10_bare 4 D dA b0 ad) (hr : meth.sig.returnType = (some .int)) {h : wSt} {x0 : Int32} {K : Int32 → Prop} (hT : ∀ (x : Int32), K x → F (some (.int x)) h) (hf : wok (fX10_bare h x0) K) : wM p l e (wR 2) s m args below meth c 0 0 (wE below args s D dA b0 ad S0 F) 4 D dA b0 ad S0 0 [some (.ref 0), some (.int x0), none, none] [] h := by
  unfold fX10_bare at hf
  refine w_aload_n X dX10_bare_0 rfl rfl rfl ?_
  refine w_getR X dX10_bare_1 rfl fl_X10_19 S0_0 rfl ?_
  refine w_iload_n X dX10_bare_4 rfl rfl rfl ?_
  obtain ⟨yr21, eyr21, hf⟩ := wok_b hf
  refine w_callV X dX10_bare_5 rfl vl_X10_117 (kX4_hasSkin l in_3 eyr21) S0_3 (As := [.int x0]) (st := []) rfl rfl (Nat.le_of_ble_eq_true rfl) ⟨Nat.le_of_ble_eq_true rfl, Nat.le_of_ble_eq_true rfl⟩ ⟨Nat.zero_le _, Nat.zero_le _⟩ (fun r h2 hF => ?_)
  obtain ⟨_, rfl, rfl, rfl⟩ := hF
  show wM p l e (wR 2) s m args below meth c 0 0 (wE below args s D dA b0 ad S0 F) 4 D dA b0 ad S0 8 [some (.ref 0), some (.int x0), none, none] [.int (wb yr21)] h
  refine w_if_ne X dX10_bare_8 rfl (t := 13) rfl (fun hc => ?_) (fun hc => ?_)
  · have hf := wok_t hf (wb_n0 hc)
    refine w_iconst X dX10_bare_13 rfl ci_0 ?_
    refine w_istore_n X dX10_bare_14 rfl rfl rfl (Nat.le_of_ble_eq_true rfl) (ls' := [some (.ref 0), some (.int x0), some (.int 0), none]) rfl ?_
    refine w_iconst X dX10_bare_15 rfl ci_0 ?_
    refine w_istore_n X dX10_bare_16 rfl rfl rfl (Nat.le_of_ble_eq_true rfl) (ls' := [some (.ref 0), some (.int x0), some (.int 0), some (.int 0)]) rfl ?_
    obtain ⟨ye24, hye24, hf⟩ := wok_b hf
    refine pX10_bare_l17 X hr  (KE := fun z => ye24 = z) ?_ 3000 _ _ ⟨ye24, hye24, rfl⟩
    · intro yz25 hz
      subst hz
      refine w_iload_n X dX10_bare_59 rfl rfl rfl ?_
      refine w_aload_n X dX10_bare_60 rfl rfl rfl ?_
      refine w_getR X dX10_bare_61 rfl fl_X10_19 S0_0 rfl ?_
      refine w_getR X dX10_bare_64 rfl fl_X10_128 S0_3 rfl ?_
      refine w_iload_n X dX10_bare_67 rfl rfl rfl ?_
      obtain ⟨yhg26, hf⟩ := wok_g hf
      refine w_iald X dX10_bare_68 rfl (j := x0.toNatClampNeg) rfl S0_7 yhg26 ?_
      refine w_iconst X dX10_bare_69 rfl ci_m1 ?_
      refine w_ixor X dX10_bare_70 rfl ?_
      refine w_iand X dX10_bare_71 rfl ?_
      exact w_iret X dX10_bare_72 hr (hT _ (wok_s hf))
  · have hf := wok_f hf (wb_0 hc)
    refine w_iconst X dX10_bare_11 rfl ci_m1 ?_
    exact w_iret X dX10_bare_12 hr (hT _ (wok_s hf))
set_option maxRecDepth 4000 in
theorem kX10_bare (l : Launch) {h : wSt} {x0 : Int32} {res : Int32} (hf : fX10_bare h x0 = some res) : wC l yX10_bare cX10_bare 4 (some .int) 2 S0 [.ref 0, .int x0] h (wFI (fun a b => res = a ∧ h = b)) := by
  refine w_meth2 2 (by decide) (Nat.le_of_ble_eq_true rfl) (ls := [some (.ref 0), some (.int x0), none, none]) rfl ?_
  intro p e s m args below meth c D dA b0 ad X hr
  exact pX10_bare_b0 X hr  (K := fun z => res = z) (fun x hz => ⟨x, rfl, hz, rfl⟩) ⟨res, hf, rfl⟩
set_option maxRecDepth 4000 in
theorem pX10_same_b0 (X : wCx p s m args meth c RX10 cX10_same 1 D dA b0 ad) (hr : meth.sig.returnType = (some .int)) {h : wSt} {K : Int32 → Prop} (hT : ∀ (x : Int32), K x → F (some (.int x)) h) (hf : wok (fX10_same h ) K) : wM p l e (wR 2) s m args below meth c 0 0 (wE below args s D dA b0 ad S0 F) 1 D dA b0 ad S0 0 [some (.ref 0)] [] h := by
  unfold fX10_same at hf
  refine w_aload_n X dX10_same_0 rfl rfl rfl ?_
  refine w_getR X dX10_same_1 rfl fl_X10_31 S0_0 rfl ?_
  obtain ⟨yr21, eyr21, hf⟩ := wok_b hf
  refine w_callV X dX10_same_4 rfl vl_X10_265 (kX6_pairsAlike l in_29 eyr21) S0_29 (As := []) (st := []) rfl rfl (Nat.le_of_ble_eq_true rfl) ⟨Nat.le_of_ble_eq_true rfl, Nat.le_of_ble_eq_true rfl⟩ ⟨Nat.zero_le _, Nat.zero_le _⟩ (fun r h2 hF => ?_)
  obtain ⟨_, rfl, rfl, rfl⟩ := hF
  show wM p l e (wR 2) s m args below meth c 0 0 (wE below args s D dA b0 ad S0 F) 1 D dA b0 ad S0 7 [some (.ref 0)] [.int yr21] h
  exact w_iret X dX10_same_7 hr (hT _ (wok_s hf))
set_option maxRecDepth 4000 in
theorem kX10_same (l : Launch) {h : wSt} {res : Int32} (hf : fX10_same h  = some res) : wC l yX10_same cX10_same 1 (some .int) 2 S0 [.ref 0] h (wFI (fun a b => res = a ∧ h = b)) := by
  refine w_meth2 0 (by decide) (Nat.le_of_ble_eq_true rfl) (ls := [some (.ref 0)]) rfl ?_
  intro p e s m args below meth c D dA b0 ad X hr
  exact pX10_same_b0 X hr  (K := fun z => res = z) (fun x hz => ⟨x, rfl, hz, rfl⟩) ⟨res, hf, rfl⟩
set_option maxRecDepth 4000 in
theorem pX10_giveup_b107_23 (X : wCx p s m args meth c RX10 cX10_giveup 6 D dA b0 ad) (hr : meth.sig.returnType = (some .int)) {h : wSt} {v1 : Int32} {v2 : Int32} {v3 : Int32} {v4 : Int32} {K : (Int32 × Int32 × Int32 × wSt) ⊕ ((Int32 × wSt)) → Prop} (hN : ∀ (n2 : Int32) (n3 : Int32) (n4 : Int32) (nh : wSt), K (.inl (n2, n3, n4, nh)) → wM p l e (wR 6) s m args below meth c 0 0 (wE below args s D dA b0 ad S0 F) 6 D dA b0 ad S0 23 [some (.ref 0), some (.int v1), some (.int n2), some (.int n3), some (.int n4), none] [] nh) (hX0 : ∀ (n2 : Int32) (nh : wSt), K (.inr (n2, nh)) → wM p l e (wR 6) s m args below meth c 0 0 (wE below args s D dA b0 ad S0 F) 6 D dA b0 ad S0 113 [none, none, some (.int n2), none, none, none] [] nh) (hf : wok (fX10_giveup_b107_23 h v1 v2 v3 v4) K) : wM p l e (wR 6) s m args below meth c 0 0 (wE below args s D dA b0 ad S0 F) 6 D dA b0 ad S0 107 [some (.ref 0), some (.int v1), some (.int v2), some (.int v3), some (.int v4), none] [] h := by
  unfold fX10_giveup_b107_23 at hf
  refine w_iinc X dX10_giveup_107 rfl (v := (v4 + 1)) rfl rfl (Nat.le_of_ble_eq_true rfl) (cinc_1 _) (ls' := [some (.ref 0), some (.int v1), some (.int v2), some (.int v3), some (.int (v4 + 1)), none]) rfl ?_
  refine w_goto X dX10_giveup_110 (t := 23) rfl ?_
  exact hN _ _ _ _ (wok_s hf)
set_option maxRecDepth 4000 in
theorem pX10_giveup_l23b (X : wCx p s m args meth c RX10 cX10_giveup 6 D dA b0 ad) (hr : meth.sig.returnType = (some .int)) {h : wSt} {v1 : Int32} {v2 : Int32} {v3 : Int32} {v4 : Int32} {K : (Int32 × Int32 × Int32 × wSt) ⊕ ((Int32 × wSt)) → Prop} (hN : ∀ (n2 : Int32) (n3 : Int32) (n4 : Int32) (nh : wSt), K (.inl (n2, n3, n4, nh)) → wM p l e (wR 6) s m args below meth c 0 0 (wE below args s D dA b0 ad S0 F) 6 D dA b0 ad S0 23 [some (.ref 0), some (.int v1), some (.int n2), some (.int n3), some (.int n4), none] [] nh) (hX0 : ∀ (n2 : Int32) (nh : wSt), K (.inr (n2, nh)) → wM p l e (wR 6) s m args below meth c 0 0 (wE below args s D dA b0 ad S0 F) 6 D dA b0 ad S0 113 [none, none, some (.int n2), none, none, none] [] nh) (hf : wok (fX10_giveup_l23 h v1 v2 v3 v4) K) : wM p l e (wR 6) s m args below meth c 0 0 (wE below args s D dA b0 ad S0 F) 6 D dA b0 ad S0 23 [some (.ref 0), some (.int v1), some (.int v2), some (.int v3), some (.int v4), none] [] h := by
  unfold fX10_giveup_l23 at hf
  refine w_iload X dX10_giveup_23 rfl rfl ?_
  refine w_aload_n X dX10_giveup_25 rfl rfl rfl ?_
  refine w_getR X dX10_giveup_26 rfl fl_X10_19 S0_0 rfl ?_
  refine w_getI X dX10_giveup_29 rfl fl_X10_268 S0_3 rfl ?_
  refine w_icmp_ge X dX10_giveup_32 rfl (t := 113) rfl (fun hc => ?_) (fun hc => ?_)
  · have hf := wok_t hf hc
    refine w_fg (ls2 := [none, none, some (.int v2), none, none, none]) ⟨rfl, trivial⟩ ?_
    exact hX0 _ _ (wok_s hf)
  · have hf := wok_f hf hc
    refine w_aload_n X dX10_giveup_35 rfl rfl rfl ?_
    refine w_getR X dX10_giveup_36 rfl fl_X10_31 S0_0 rfl ?_
    refine w_iload X dX10_giveup_39 rfl rfl ?_
    refine w_bipush X dX10_giveup_41 rfl cb_63 ?_
    obtain ⟨yr23, eyr23, hf⟩ := wok_b hf
    refine w_callV X dX10_giveup_43 rfl vl_X10_189 (kX6_canRub l in_29 eyr23) S0_29 (As := [.int v4, .int 63]) (st := []) rfl rfl (Nat.le_of_ble_eq_true rfl) ⟨Nat.le_of_ble_eq_true rfl, Nat.le_of_ble_eq_true rfl⟩ ⟨Nat.zero_le _, Nat.zero_le _⟩ (fun r h2 hF => ?_)
    obtain ⟨_, rfl, rfl, rfl⟩ := hF
    show wM p l e (wR 6) s m args below meth c 0 0 (wE below args s D dA b0 ad S0 F) 6 D dA b0 ad S0 46 [some (.ref 0), some (.int v1), some (.int v2), some (.int v3), some (.int v4), none] [.int (wb yr23)] h
    refine w_if_eq X dX10_giveup_46 rfl (t := 107) rfl (fun hc => ?_) (fun hc => ?_)
    · have hf := wok_f hf (wb_0 hc)
      exact pX10_giveup_b107_23 X hr  hN hX0 hf
    · have hf := wok_t hf (wb_n0 hc)
      refine w_aload_n X dX10_giveup_49 rfl rfl rfl ?_
      refine w_getR X dX10_giveup_50 rfl fl_X10_35 S0_0 rfl ?_
      refine w_aload_n X dX10_giveup_53 rfl rfl rfl ?_
      refine w_getR X dX10_giveup_54 rfl fl_X10_31 S0_0 rfl ?_
      obtain ⟨yr24, eyr24, hf⟩ := wok_b hf
      refine w_callV X dX10_giveup_57 rfl vl_X10_247 (kX6_copyFrom l in_34 in_29 eyr24) S0_34 (As := [.ref 29]) (st := []) rfl rfl (Nat.le_of_ble_eq_true rfl) ⟨Nat.le_of_ble_eq_true rfl, Nat.le_of_ble_eq_true rfl⟩ ⟨Nat.zero_le _, Nat.zero_le _⟩ (fun r h2 hF => ?_)
      obtain ⟨rfl, rfl⟩ := hF
      show wM p l e (wR 6) s m args below meth c 0 0 (wE below args s D dA b0 ad S0 F) 6 D dA b0 ad S0 60 [some (.ref 0), some (.int v1), some (.int v2), some (.int v3), some (.int v4), none] [] yr24
      refine w_aload_n X dX10_giveup_60 rfl rfl rfl ?_
      refine w_getR X dX10_giveup_61 rfl fl_X10_35 S0_0 rfl ?_
      refine w_iload X dX10_giveup_64 rfl rfl ?_
      refine w_bipush X dX10_giveup_66 rfl cb_63 ?_
      obtain ⟨yr25, eyr25, hf⟩ := wok_b hf
      refine w_callV X dX10_giveup_68 rfl vl_X10_192 (kX6_rub l in_34 eyr25) S0_34 (As := [.int v4, .int 63]) (st := []) rfl rfl (Nat.le_of_ble_eq_true rfl) ⟨Nat.le_of_ble_eq_true rfl, Nat.le_of_ble_eq_true rfl⟩ ⟨Nat.zero_le _, Nat.zero_le _⟩ (fun r h2 hF => ?_)
      obtain ⟨_, rfl, rfl, rfl⟩ := hF
      show wM p l e (wR 6) s m args below meth c 0 0 (wE below args s D dA b0 ad S0 F) 6 D dA b0 ad S0 71 [some (.ref 0), some (.int v1), some (.int v2), some (.int v3), some (.int v4), none] [.int (wb yr25.1)] yr25.2
      refine w_pop X dX10_giveup_71 rfl rfl ?_
      refine w_iload_n X dX10_giveup_72 rfl rfl rfl ?_
      refine w_aload_n X dX10_giveup_73 rfl rfl rfl ?_
      refine w_getR X dX10_giveup_74 rfl fl_X10_35 S0_0 rfl ?_
      refine w_aload_n X dX10_giveup_77 rfl rfl rfl ?_
      refine w_getR X dX10_giveup_78 rfl fl_X10_35 S0_0 rfl ?_
      obtain ⟨yr26, eyr26, hf⟩ := wok_b hf
      refine w_callV X dX10_giveup_81 rfl vl_X10_134 (kX6_damp l in_34 eyr26) S0_34 (As := []) (st := [.ref 34, .int v1]) rfl rfl (Nat.le_of_ble_eq_true rfl) ⟨Nat.le_of_ble_eq_true rfl, Nat.le_of_ble_eq_true rfl⟩ ⟨Nat.zero_le _, Nat.zero_le _⟩ (fun r h2 hF => ?_)
      obtain ⟨_, rfl, rfl, rfl⟩ := hF
      show wM p l e (wR 6) s m args below meth c 0 0 (wE below args s D dA b0 ad S0 F) 6 D dA b0 ad S0 84 [some (.ref 0), some (.int v1), some (.int v2), some (.int v3), some (.int v4), none] [.int yr26, .ref 34, .int v1] yr25.2
      obtain ⟨yr27, eyr27, hf⟩ := wok_b hf
      refine w_callV X dX10_giveup_84 rfl vl_X10_212 (kX6_wholeTexts l in_34 eyr27) S0_34 (As := [.int yr26]) (st := [.int v1]) rfl rfl (Nat.le_of_ble_eq_true rfl) ⟨Nat.le_of_ble_eq_true rfl, Nat.le_of_ble_eq_true rfl⟩ ⟨Nat.zero_le _, Nat.zero_le _⟩ (fun r h2 hF => ?_)
      obtain ⟨_, rfl, rfl, rfl⟩ := hF
      show wM p l e (wR 6) s m args below meth c 0 0 (wE below args s D dA b0 ad S0 F) 6 D dA b0 ad S0 87 [some (.ref 0), some (.int v1), some (.int v2), some (.int v3), some (.int v4), none] [.int yr27.1, .int v1] yr27.2
      refine w_iconst X dX10_giveup_87 rfl ci_m1 ?_
      refine w_ixor X dX10_giveup_88 rfl ?_
      refine w_iand X dX10_giveup_89 rfl ?_
      obtain ⟨yr28, eyr28, hf⟩ := wok_b hf
      refine w_callS X dX10_giveup_90 rfl sl_X10_216 (kJ6_bitCount_0f7a4 l  eyr28) (As := [.int (v1 &&& (yr27.1 ^^^ (-1)))]) (st := []) rfl rfl (Nat.le_of_ble_eq_true rfl) ⟨Nat.le_of_ble_eq_true rfl, Nat.le_of_ble_eq_true rfl⟩ ⟨Nat.zero_le _, Nat.zero_le _⟩ (fun r h2 hF => ?_)
      obtain ⟨_, rfl, rfl, rfl⟩ := hF
      show wM p l e (wR 6) s m args below meth c 0 0 (wE below args s D dA b0 ad S0 F) 6 D dA b0 ad S0 93 [some (.ref 0), some (.int v1), some (.int v2), some (.int v3), some (.int v4), none] [.int yr28] yr27.2
      refine w_istore X dX10_giveup_93 rfl rfl (Nat.le_of_ble_eq_true rfl) (ls' := [some (.ref 0), some (.int v1), some (.int v2), some (.int v3), some (.int v4), some (.int yr28)]) rfl ?_
      refine w_iload X dX10_giveup_95 rfl rfl ?_
      refine w_iload_n X dX10_giveup_97 rfl rfl rfl ?_
      refine w_icmp_ge X dX10_giveup_98 rfl (t := 107) rfl (fun hc => ?_) (fun hc => ?_)
      · have hf := wok_t hf hc
        refine w_fg (ls2 := [some (.ref 0), some (.int v1), some (.int v2), some (.int v3), some (.int v4), none]) ⟨rfl, rfl, rfl, rfl, rfl, trivial⟩ ?_
        exact pX10_giveup_b107_23 X hr  hN hX0 hf
      · have hf := wok_f hf hc
        refine w_iload X dX10_giveup_101 rfl rfl ?_
        refine w_istore_n X dX10_giveup_103 rfl rfl rfl (Nat.le_of_ble_eq_true rfl) (ls' := [some (.ref 0), some (.int v1), some (.int v2), some (.int yr28), some (.int v4), some (.int yr28)]) rfl ?_
        refine w_iload X dX10_giveup_104 rfl rfl ?_
        refine w_istore_n X dX10_giveup_106 rfl rfl rfl (Nat.le_of_ble_eq_true rfl) (ls' := [some (.ref 0), some (.int v1), some (.int v4), some (.int yr28), some (.int v4), some (.int yr28)]) rfl ?_
        refine w_fg (ls2 := [some (.ref 0), some (.int v1), some (.int v4), some (.int yr28), some (.int v4), none]) ⟨rfl, rfl, rfl, rfl, rfl, trivial⟩ ?_
        exact pX10_giveup_b107_23 X hr  hN hX0 hf
set_option maxRecDepth 4000 in
theorem pX10_giveup_l23 (X : wCx p s m args meth c RX10 cX10_giveup 6 D dA b0 ad) (hr : meth.sig.returnType = (some .int))  {v1 : Int32} {KE : (Int32 × wSt) → Prop} (hX0 : ∀ (n2 : Int32) (nh : wSt), KE ((n2, nh)) → wM p l e (wR 6) s m args below meth c 0 0 (wE below args s D dA b0 ad S0 F) 6 D dA b0 ad S0 113 [none, none, some (.int n2), none, none, none] [] nh) : ∀ (n : Nat) (v2 : Int32) (v3 : Int32) (v4 : Int32) (h : wSt), wok (wit (fun v : (Int32 × Int32 × Int32 × wSt) => fX10_giveup_l23 v.2.2.2 v1 v.1 v.2.1 v.2.2.1) n (v2, v3, v4, h)) KE → wM p l e (wR 6) s m args below meth c 0 0 (wE below args s D dA b0 ad S0 F) 6 D dA b0 ad S0 23 [some (.ref 0), some (.int v1), some (.int v2), some (.int v3), some (.int v4), none] [] h := by
  have key := wit_M (b := (fun v : (Int32 × Int32 × Int32 × wSt) => fX10_giveup_l23 v.2.2.2 v1 v.1 v.2.1 v.2.2.1)) (KE := KE) (G := fun v => wM p l e (wR 6) s m args below meth c 0 0 (wE below args s D dA b0 ad S0 F) 6 D dA b0 ad S0 23 [some (.ref 0), some (.int v1), some (.int v.1), some (.int v.2.1), some (.int v.2.2.1), none] [] v.2.2.2) (fun v K hN hE hf => pX10_giveup_l23b X hr  (fun n2 n3 n4 nh hz => hN (n2, n3, n4, nh) hz) (fun z0 z1 hz => hX0 z0 z1 (hE _ hz)) hf)
  exact fun n v2 v3 v4 h hf => key n (v2, v3, v4, h) hf
set_option maxRecDepth 4000 in
theorem pX10_giveup_b0 (X : wCx p s m args meth c RX10 cX10_giveup 6 D dA b0 ad) (hr : meth.sig.returnType = (some .int)) {h : wSt} {K : Int32 × wSt → Prop} (hT : ∀ (x : Int32) (h2 : wSt), K (x, h2) → F (some (.int x)) h2) (hf : wok (fX10_giveup h ) K) : wM p l e (wR 6) s m args below meth c 0 0 (wE below args s D dA b0 ad S0 F) 6 D dA b0 ad S0 0 [some (.ref 0), none, none, none, none, none] [] h := by
  unfold fX10_giveup at hf
  refine w_aload_n X dX10_giveup_0 rfl rfl rfl ?_
  refine w_getR X dX10_giveup_1 rfl fl_X10_31 S0_0 rfl ?_
  refine w_aload_n X dX10_giveup_4 rfl rfl rfl ?_
  refine w_getR X dX10_giveup_5 rfl fl_X10_31 S0_0 rfl ?_
  obtain ⟨yr21, eyr21, hf⟩ := wok_b hf
  refine w_callV X dX10_giveup_8 rfl vl_X10_134 (kX6_damp l in_29 eyr21) S0_29 (As := []) (st := [.ref 29]) rfl rfl (Nat.le_of_ble_eq_true rfl) ⟨Nat.le_of_ble_eq_true rfl, Nat.le_of_ble_eq_true rfl⟩ ⟨Nat.zero_le _, Nat.zero_le _⟩ (fun r h2 hF => ?_)
  obtain ⟨_, rfl, rfl, rfl⟩ := hF
  show wM p l e (wR 6) s m args below meth c 0 0 (wE below args s D dA b0 ad S0 F) 6 D dA b0 ad S0 11 [some (.ref 0), none, none, none, none, none] [.int yr21, .ref 29] h
  obtain ⟨yr22, eyr22, hf⟩ := wok_b hf
  refine w_callV X dX10_giveup_11 rfl vl_X10_212 (kX6_wholeTexts l in_29 eyr22) S0_29 (As := [.int yr21]) (st := []) rfl rfl (Nat.le_of_ble_eq_true rfl) ⟨Nat.le_of_ble_eq_true rfl, Nat.le_of_ble_eq_true rfl⟩ ⟨Nat.zero_le _, Nat.zero_le _⟩ (fun r h2 hF => ?_)
  obtain ⟨_, rfl, rfl, rfl⟩ := hF
  show wM p l e (wR 6) s m args below meth c 0 0 (wE below args s D dA b0 ad S0 F) 6 D dA b0 ad S0 14 [some (.ref 0), none, none, none, none, none] [.int yr22.1] yr22.2
  refine w_istore_n X dX10_giveup_14 rfl rfl rfl (Nat.le_of_ble_eq_true rfl) (ls' := [some (.ref 0), some (.int yr22.1), none, none, none, none]) rfl ?_
  refine w_iconst X dX10_giveup_15 rfl ci_m1 ?_
  refine w_istore_n X dX10_giveup_16 rfl rfl rfl (Nat.le_of_ble_eq_true rfl) (ls' := [some (.ref 0), some (.int yr22.1), some (.int (-1)), none, none, none]) rfl ?_
  refine w_bipush X dX10_giveup_17 rfl cb_7 ?_
  refine w_istore_n X dX10_giveup_19 rfl rfl rfl (Nat.le_of_ble_eq_true rfl) (ls' := [some (.ref 0), some (.int yr22.1), some (.int (-1)), some (.int 7), none, none]) rfl ?_
  refine w_iconst X dX10_giveup_20 rfl ci_0 ?_
  refine w_istore X dX10_giveup_21 rfl rfl (Nat.le_of_ble_eq_true rfl) (ls' := [some (.ref 0), some (.int yr22.1), some (.int (-1)), some (.int 7), some (.int 0), none]) rfl ?_
  obtain ⟨ye29, hye29, hf⟩ := wok_b hf
  refine pX10_giveup_l23 X hr  (KE := fun z => ye29 = z) ?_ 3000 _ _ _ _ ⟨ye29, hye29, rfl⟩
  · intro yz30 yz31 hz
    subst hz
    refine w_iload_n X dX10_giveup_113 rfl rfl rfl ?_
    exact w_iret X dX10_giveup_114 hr (hT _ _ (wok_s hf))
set_option maxRecDepth 4000 in
theorem kX10_giveup (l : Launch) {h : wSt} {res : Int32 × wSt} (hf : fX10_giveup h  = some res) : wC l yX10_giveup cX10_giveup 6 (some .int) 6 S0 [.ref 0] h (wFI (fun a b => res.1 = a ∧ res.2 = b)) := by
  refine w_meth2 5 (by decide) (Nat.le_of_ble_eq_true rfl) (ls := [some (.ref 0), none, none, none, none, none]) rfl ?_
  intro p e s m args below meth c D dA b0 ad X hr
  exact pX10_giveup_b0 X hr  (K := fun z => res = z) (fun x h2 hz => ⟨x, rfl, by rw [hz], by rw [hz]⟩) ⟨res, hf, rfl⟩
set_option maxRecDepth 4000 in
theorem pX10_psalter_b38_17 (X : wCx p s m args meth c RX10 cX10_psalter 4 D dA b0 ad) (hr : meth.sig.returnType = (some .int)) {h : wSt} {v1 : Int32} {v2 : Int32} {v3 : Int32} {K : (Int32 × Int32 × wSt) ⊕ ((Int32 × wSt)) → Prop} (hN : ∀ (n2 : Int32) (n3 : Int32) (nh : wSt), K (.inl (n2, n3, nh)) → wM p l e (wR 7) s m args below meth c 0 0 (wE below args s D dA b0 ad S0 F) 4 D dA b0 ad S0 17 [some (.ref 0), some (.int v1), some (.int n2), some (.int n3)] [] nh) (hX0 : ∀ (n2 : Int32) (nh : wSt), K (.inr (n2, nh)) → wM p l e (wR 7) s m args below meth c 0 0 (wE below args s D dA b0 ad S0 F) 4 D dA b0 ad S0 44 [none, none, some (.int n2), none] [] nh) (hf : wok (fX10_psalter_b38_17 h v1 v2 v3) K) : wM p l e (wR 7) s m args below meth c 0 0 (wE below args s D dA b0 ad S0 F) 4 D dA b0 ad S0 38 [some (.ref 0), some (.int v1), some (.int v2), some (.int v3)] [] h := by
  unfold fX10_psalter_b38_17 at hf
  refine w_iinc X dX10_psalter_38 rfl (v := (v3 + 1)) rfl rfl (Nat.le_of_ble_eq_true rfl) (cinc_1 _) (ls' := [some (.ref 0), some (.int v1), some (.int v2), some (.int (v3 + 1))]) rfl ?_
  refine w_goto X dX10_psalter_41 (t := 17) rfl ?_
  exact hN _ _ _ (wok_s hf)
set_option maxRecDepth 4000 in
theorem pX10_psalter_l17b (X : wCx p s m args meth c RX10 cX10_psalter 4 D dA b0 ad) (hr : meth.sig.returnType = (some .int)) {h : wSt} {v1 : Int32} {v2 : Int32} {v3 : Int32} {K : (Int32 × Int32 × wSt) ⊕ ((Int32 × wSt)) → Prop} (hN : ∀ (n2 : Int32) (n3 : Int32) (nh : wSt), K (.inl (n2, n3, nh)) → wM p l e (wR 7) s m args below meth c 0 0 (wE below args s D dA b0 ad S0 F) 4 D dA b0 ad S0 17 [some (.ref 0), some (.int v1), some (.int n2), some (.int n3)] [] nh) (hX0 : ∀ (n2 : Int32) (nh : wSt), K (.inr (n2, nh)) → wM p l e (wR 7) s m args below meth c 0 0 (wE below args s D dA b0 ad S0 F) 4 D dA b0 ad S0 44 [none, none, some (.int n2), none] [] nh) (hf : wok (fX10_psalter_l17 h v1 v2 v3) K) : wM p l e (wR 7) s m args below meth c 0 0 (wE below args s D dA b0 ad S0 F) 4 D dA b0 ad S0 17 [some (.ref 0), some (.int v1), some (.int v2), some (.int v3)] [] h := by
  unfold fX10_psalter_l17 at hf
  refine w_iload_n X dX10_psalter_17 rfl rfl rfl ?_
  refine w_bipush X dX10_psalter_18 rfl cb_9 ?_
  refine w_icmp_gt X dX10_psalter_20 rfl (t := 44) rfl (fun hc => ?_) (fun hc => ?_)
  · have hf := wok_t hf hc
    refine w_fg (ls2 := [none, none, some (.int v2), none]) ⟨rfl, trivial⟩ ?_
    exact hX0 _ _ (wok_s hf)
  · have hf := wok_f hf hc
    refine w_aload_n X dX10_psalter_23 rfl rfl rfl ?_
    refine w_getR X dX10_psalter_24 rfl fl_X10_31 S0_0 rfl ?_
    refine w_iload_n X dX10_psalter_27 rfl rfl rfl ?_
    refine w_iload_n X dX10_psalter_28 rfl rfl rfl ?_
    obtain ⟨yr22, eyr22, hf⟩ := wok_b hf
    refine w_callV X dX10_psalter_29 rfl vl_X10_154 (kX6_isWhole l in_29 eyr22) S0_29 (As := [.int v1, .int v3]) (st := []) rfl rfl (Nat.le_of_ble_eq_true rfl) ⟨Nat.le_of_ble_eq_true rfl, Nat.le_of_ble_eq_true rfl⟩ ⟨Nat.zero_le _, Nat.zero_le _⟩ (fun r h2 hF => ?_)
    obtain ⟨_, rfl, rfl, rfl⟩ := hF
    show wM p l e (wR 7) s m args below meth c 0 0 (wE below args s D dA b0 ad S0 F) 4 D dA b0 ad S0 32 [some (.ref 0), some (.int v1), some (.int v2), some (.int v3)] [.int (wb yr22.1)] yr22.2
    refine w_if_eq X dX10_psalter_32 rfl (t := 38) rfl (fun hc => ?_) (fun hc => ?_)
    · have hf := wok_f hf (wb_0 hc)
      exact pX10_psalter_b38_17 X hr  hN hX0 hf
    · have hf := wok_t hf (wb_n0 hc)
      refine w_iinc X dX10_psalter_35 rfl (v := (v2 + 1)) rfl rfl (Nat.le_of_ble_eq_true rfl) (cinc_1 _) (ls' := [some (.ref 0), some (.int v1), some (.int (v2 + 1)), some (.int v3)]) rfl ?_
      exact pX10_psalter_b38_17 X hr  hN hX0 hf
set_option maxRecDepth 4000 in
theorem pX10_psalter_l17 (X : wCx p s m args meth c RX10 cX10_psalter 4 D dA b0 ad) (hr : meth.sig.returnType = (some .int))  {v1 : Int32} {KE : (Int32 × wSt) → Prop} (hX0 : ∀ (n2 : Int32) (nh : wSt), KE ((n2, nh)) → wM p l e (wR 7) s m args below meth c 0 0 (wE below args s D dA b0 ad S0 F) 4 D dA b0 ad S0 44 [none, none, some (.int n2), none] [] nh) : ∀ (n : Nat) (v2 : Int32) (v3 : Int32) (h : wSt), wok (wit (fun v : (Int32 × Int32 × wSt) => fX10_psalter_l17 v.2.2 v1 v.1 v.2.1) n (v2, v3, h)) KE → wM p l e (wR 7) s m args below meth c 0 0 (wE below args s D dA b0 ad S0 F) 4 D dA b0 ad S0 17 [some (.ref 0), some (.int v1), some (.int v2), some (.int v3)] [] h := by
  have key := wit_M (b := (fun v : (Int32 × Int32 × wSt) => fX10_psalter_l17 v.2.2 v1 v.1 v.2.1)) (KE := KE) (G := fun v => wM p l e (wR 7) s m args below meth c 0 0 (wE below args s D dA b0 ad S0 F) 4 D dA b0 ad S0 17 [some (.ref 0), some (.int v1), some (.int v.1), some (.int v.2.1)] [] v.2.2) (fun v K hN hE hf => pX10_psalter_l17b X hr  (fun n2 n3 nh hz => hN (n2, n3, nh) hz) (fun z0 z1 hz => hX0 z0 z1 (hE _ hz)) hf)
  exact fun n v2 v3 h hf => key n (v2, v3, h) hf
set_option maxRecDepth 4000 in
theorem pX10_psalter_b0 (X : wCx p s m args meth c RX10 cX10_psalter 4 D dA b0 ad) (hr : meth.sig.returnType = (some .int)) {h : wSt} {x0 : Int32} {K : Int32 × wSt → Prop} (hT : ∀ (x : Int32) (h2 : wSt), K (x, h2) → F (some (.int x)) h2) (hf : wok (fX10_psalter h x0) K) : wM p l e (wR 7) s m args below meth c 0 0 (wE below args s D dA b0 ad S0 F) 4 D dA b0 ad S0 0 [some (.ref 0), some (.int x0), none, none] [] h := by
  unfold fX10_psalter at hf
  refine w_aload_n X dX10_psalter_0 rfl rfl rfl ?_
  refine w_getR X dX10_psalter_1 rfl fl_X10_19 S0_0 rfl ?_
  refine w_iload_n X dX10_psalter_4 rfl rfl rfl ?_
  obtain ⟨yr21, eyr21, hf⟩ := wok_b hf
  refine w_callV X dX10_psalter_5 rfl vl_X10_142 (kX4_hasText l in_3 eyr21) S0_3 (As := [.int x0]) (st := []) rfl rfl (Nat.le_of_ble_eq_true rfl) ⟨Nat.le_of_ble_eq_true rfl, Nat.le_of_ble_eq_true rfl⟩ ⟨Nat.zero_le _, Nat.zero_le _⟩ (fun r h2 hF => ?_)
  obtain ⟨_, rfl, rfl, rfl⟩ := hF
  show wM p l e (wR 7) s m args below meth c 0 0 (wE below args s D dA b0 ad S0 F) 4 D dA b0 ad S0 8 [some (.ref 0), some (.int x0), none, none] [.int (wb yr21)] h
  refine w_if_ne X dX10_psalter_8 rfl (t := 13) rfl (fun hc => ?_) (fun hc => ?_)
  · have hf := wok_t hf (wb_n0 hc)
    refine w_iconst X dX10_psalter_13 rfl ci_0 ?_
    refine w_istore_n X dX10_psalter_14 rfl rfl rfl (Nat.le_of_ble_eq_true rfl) (ls' := [some (.ref 0), some (.int x0), some (.int 0), none]) rfl ?_
    refine w_iconst X dX10_psalter_15 rfl ci_0 ?_
    refine w_istore_n X dX10_psalter_16 rfl rfl rfl (Nat.le_of_ble_eq_true rfl) (ls' := [some (.ref 0), some (.int x0), some (.int 0), some (.int 0)]) rfl ?_
    obtain ⟨ye23, hye23, hf⟩ := wok_b hf
    refine pX10_psalter_l17 X hr  (KE := fun z => ye23 = z) ?_ 3000 _ _ _ ⟨ye23, hye23, rfl⟩
    · intro yz24 yz25 hz
      subst hz
      refine w_iload_n X dX10_psalter_44 rfl rfl rfl ?_
      exact w_iret X dX10_psalter_45 hr (hT _ _ (wok_s hf))
  · have hf := wok_f hf (wb_0 hc)
    refine w_iconst X dX10_psalter_11 rfl ci_m1 ?_
    exact w_iret X dX10_psalter_12 hr (hT _ _ (wok_s hf))
set_option maxRecDepth 4000 in
theorem kX10_psalter (l : Launch) {h : wSt} {x0 : Int32} {res : Int32 × wSt} (hf : fX10_psalter h x0 = some res) : wC l yX10_psalter cX10_psalter 4 (some .int) 7 S0 [.ref 0, .int x0] h (wFI (fun a b => res.1 = a ∧ res.2 = b)) := by
  refine w_meth2 2 (by decide) (Nat.le_of_ble_eq_true rfl) (ls := [some (.ref 0), some (.int x0), none, none]) rfl ?_
  intro p e s m args below meth c D dA b0 ad X hr
  exact pX10_psalter_b0 X hr  (K := fun z => res = z) (fun x h2 hz => ⟨x, rfl, by rw [hz], by rw [hz]⟩) ⟨res, hf, rfl⟩
set_option maxRecDepth 4000 in
theorem pX10_see_b0 (X : wCx p s m args meth c RX10 cX10_see 5 D dA b0 ad) (hr : meth.sig.returnType = (some .boolean)) {h : wSt} {x0 : Int32} {x1 : Int32} {x2 : Int32} {x3 : Int32} {K : Bool × wSt → Prop} (hT : ∀ (x : Bool) (h2 : wSt), K (x, h2) → F (some (.int (wb x))) h2) (hf : wok (fX10_see h x0 x1 x2 x3) K) : wM p l e (wR 2) s m args below meth c 0 0 (wE below args s D dA b0 ad S0 F) 5 D dA b0 ad S0 0 [some (.ref 0), some (.int x0), some (.int x1), some (.int x2), some (.int x3)] [] h := by
  unfold fX10_see at hf
  refine w_aload_n X dX10_see_0 rfl rfl rfl ?_
  refine w_getR X dX10_see_1 rfl fl_X10_19 S0_0 rfl ?_
  refine w_iload_n X dX10_see_4 rfl rfl rfl ?_
  obtain ⟨yr21, eyr21, hf⟩ := wok_b hf
  refine w_callV X dX10_see_5 rfl vl_X10_117 (kX4_hasSkin l in_3 eyr21) S0_3 (As := [.int x0]) (st := []) rfl rfl (Nat.le_of_ble_eq_true rfl) ⟨Nat.le_of_ble_eq_true rfl, Nat.le_of_ble_eq_true rfl⟩ ⟨Nat.zero_le _, Nat.zero_le _⟩ (fun r h2 hF => ?_)
  obtain ⟨_, rfl, rfl, rfl⟩ := hF
  show wM p l e (wR 2) s m args below meth c 0 0 (wE below args s D dA b0 ad S0 F) 5 D dA b0 ad S0 8 [some (.ref 0), some (.int x0), some (.int x1), some (.int x2), some (.int x3)] [.int (wb yr21)] h
  refine w_if_eq X dX10_see_8 rfl (t := 32) rfl (fun hc => ?_) (fun hc => ?_)
  · have hf := wok_f hf (wb_0 hc)
    refine w_iconst X dX10_see_32 rfl ci_0 ?_
    exact w_zret X dX10_see_33 hr rfl (hT false _ (wok_s hf))
  · have hf := wok_t hf (wb_n0 hc)
    refine w_iload_n X dX10_see_11 rfl rfl rfl ?_
    refine w_iconst X dX10_see_12 rfl ci_1 ?_
    refine w_icmp_lt X dX10_see_13 rfl (t := 32) rfl (fun hc => ?_) (fun hc => ?_)
    · have hf := wok_t hf hc
      refine w_iconst X dX10_see_32 rfl ci_0 ?_
      exact w_zret X dX10_see_33 hr rfl (hT false _ (wok_s hf))
    · have hf := wok_f hf hc
      refine w_iload_n X dX10_see_16 rfl rfl rfl ?_
      refine w_bipush X dX10_see_17 rfl cb_9 ?_
      refine w_icmp_gt X dX10_see_19 rfl (t := 32) rfl (fun hc => ?_) (fun hc => ?_)
      · have hf := wok_t hf hc
        refine w_iconst X dX10_see_32 rfl ci_0 ?_
        exact w_zret X dX10_see_33 hr rfl (hT false _ (wok_s hf))
      · have hf := wok_f hf hc
        refine w_iload_n X dX10_see_22 rfl rfl rfl ?_
        refine w_if_lt X dX10_see_23 rfl (t := 32) rfl (fun hc => ?_) (fun hc => ?_)
        · have hf := wok_t hf hc
          refine w_iconst X dX10_see_32 rfl ci_0 ?_
          exact w_zret X dX10_see_33 hr rfl (hT false _ (wok_s hf))
        · have hf := wok_f hf hc
          refine w_iload_n X dX10_see_26 rfl rfl rfl ?_
          refine w_bipush X dX10_see_27 rfl cb_9 ?_
          refine w_icmp_le X dX10_see_29 rfl (t := 34) rfl (fun hc => ?_) (fun hc => ?_)
          · have hf := wok_t hf hc
            refine w_aload_n X dX10_see_34 rfl rfl rfl ?_
            refine w_getR X dX10_see_35 rfl fl_X10_51 S0_0 rfl ?_
            refine w_iload_n X dX10_see_38 rfl rfl rfl ?_
            refine w_iload_n X dX10_see_39 rfl rfl rfl ?_
            refine w_iload_n X dX10_see_40 rfl rfl rfl ?_
            refine w_iload X dX10_see_41 rfl rfl ?_
            obtain ⟨yr22, eyr22, hf⟩ := wok_b hf
            refine w_callV X dX10_see_43 rfl vl_X10_271 (kX5_add l in_43 eyr22) S0_43 (As := [.int x0, .int x1, .int x2, .int x3]) (st := []) rfl rfl (Nat.le_of_ble_eq_true rfl) ⟨Nat.le_of_ble_eq_true rfl, Nat.le_of_ble_eq_true rfl⟩ ⟨Nat.zero_le _, Nat.zero_le _⟩ (fun r h2 hF => ?_)
            obtain ⟨_, rfl, rfl, rfl⟩ := hF
            show wM p l e (wR 2) s m args below meth c 0 0 (wE below args s D dA b0 ad S0 F) 5 D dA b0 ad S0 46 [some (.ref 0), some (.int x0), some (.int x1), some (.int x2), some (.int x3)] [.int (wb yr22.1)] yr22.2
            exact w_zret X dX10_see_46 hr (wb_n _) (hT _ _ (wok_s hf))
          · have hf := wok_f hf hc
            refine w_iconst X dX10_see_32 rfl ci_0 ?_
            exact w_zret X dX10_see_33 hr rfl (hT false _ (wok_s hf))
set_option maxRecDepth 4000 in
theorem kX10_see (l : Launch) {h : wSt} {x0 : Int32} {x1 : Int32} {x2 : Int32} {x3 : Int32} {res : Bool × wSt} (hf : fX10_see h x0 x1 x2 x3 = some res) : wC l yX10_see cX10_see 5 (some .boolean) 2 S0 [.ref 0, .int x0, .int x1, .int x2, .int x3] h (wFZ (fun a b => res.1 = a ∧ res.2 = b)) := by
  refine w_meth2 0 (by decide) (Nat.le_of_ble_eq_true rfl) (ls := [some (.ref 0), some (.int x0), some (.int x1), some (.int x2), some (.int x3)]) rfl ?_
  intro p e s m args below meth c D dA b0 ad X hr
  exact pX10_see_b0 X hr  (K := fun z => res = z) (fun x h2 hz => ⟨x, rfl, by rw [hz], by rw [hz]⟩) ⟨res, hf, rfl⟩
set_option maxRecDepth 4000 in
theorem pX10_textsAsSeen_b40_4 (X : wCx p s m args meth c RX10 cX10_textsAsSeen 3 D dA b0 ad) (hr : meth.sig.returnType = (some .int)) {h : wSt} {v1 : Int32} {v2 : Int32} {K : (Int32 × Int32 × wSt) ⊕ ((Int32 × wSt)) → Prop} (hN : ∀ (n1 : Int32) (n2 : Int32) (nh : wSt), K (.inl (n1, n2, nh)) → wM p l e (wR 5) s m args below meth c 0 0 (wE below args s D dA b0 ad S0 F) 3 D dA b0 ad S0 4 [some (.ref 0), some (.int n1), some (.int n2)] [] nh) (hX0 : ∀ (n1 : Int32) (nh : wSt), K (.inr (n1, nh)) → wM p l e (wR 5) s m args below meth c 0 0 (wE below args s D dA b0 ad S0 F) 3 D dA b0 ad S0 46 [none, some (.int n1), none] [] nh) (hf : wok (fX10_textsAsSeen_b40_4 h v1 v2) K) : wM p l e (wR 5) s m args below meth c 0 0 (wE below args s D dA b0 ad S0 F) 3 D dA b0 ad S0 40 [some (.ref 0), some (.int v1), some (.int v2)] [] h := by
  unfold fX10_textsAsSeen_b40_4 at hf
  refine w_iinc X dX10_textsAsSeen_40 rfl (v := (v2 + 1)) rfl rfl (Nat.le_of_ble_eq_true rfl) (cinc_1 _) (ls' := [some (.ref 0), some (.int v1), some (.int (v2 + 1))]) rfl ?_
  refine w_goto X dX10_textsAsSeen_43 (t := 4) rfl ?_
  exact hN _ _ _ (wok_s hf)
set_option maxRecDepth 4000 in
theorem pX10_textsAsSeen_l4b (X : wCx p s m args meth c RX10 cX10_textsAsSeen 3 D dA b0 ad) (hr : meth.sig.returnType = (some .int)) {h : wSt} {v1 : Int32} {v2 : Int32} {K : (Int32 × Int32 × wSt) ⊕ ((Int32 × wSt)) → Prop} (hN : ∀ (n1 : Int32) (n2 : Int32) (nh : wSt), K (.inl (n1, n2, nh)) → wM p l e (wR 5) s m args below meth c 0 0 (wE below args s D dA b0 ad S0 F) 3 D dA b0 ad S0 4 [some (.ref 0), some (.int n1), some (.int n2)] [] nh) (hX0 : ∀ (n1 : Int32) (nh : wSt), K (.inr (n1, nh)) → wM p l e (wR 5) s m args below meth c 0 0 (wE below args s D dA b0 ad S0 F) 3 D dA b0 ad S0 46 [none, some (.int n1), none] [] nh) (hf : wok (fX10_textsAsSeen_l4 h v1 v2) K) : wM p l e (wR 5) s m args below meth c 0 0 (wE below args s D dA b0 ad S0 F) 3 D dA b0 ad S0 4 [some (.ref 0), some (.int v1), some (.int v2)] [] h := by
  unfold fX10_textsAsSeen_l4 at hf
  refine w_iload_n X dX10_textsAsSeen_4 rfl rfl rfl ?_
  refine w_aload_n X dX10_textsAsSeen_5 rfl rfl rfl ?_
  refine w_getR X dX10_textsAsSeen_6 rfl fl_X10_19 S0_0 rfl ?_
  refine w_getI X dX10_textsAsSeen_9 rfl fl_X10_278 S0_3 rfl ?_
  refine w_icmp_ge X dX10_textsAsSeen_12 rfl (t := 46) rfl (fun hc => ?_) (fun hc => ?_)
  · have hf := wok_t hf hc
    refine w_fg (ls2 := [none, some (.int v1), none]) ⟨rfl, trivial⟩ ?_
    exact hX0 _ _ (wok_s hf)
  · have hf := wok_f hf hc
    refine w_aload_n X dX10_textsAsSeen_15 rfl rfl rfl ?_
    refine w_getR X dX10_textsAsSeen_16 rfl fl_X10_51 S0_0 rfl ?_
    refine w_iload_n X dX10_textsAsSeen_19 rfl rfl rfl ?_
    refine w_aload_n X dX10_textsAsSeen_20 rfl rfl rfl ?_
    refine w_getR X dX10_textsAsSeen_21 rfl fl_X10_19 S0_0 rfl ?_
    refine w_aload_n X dX10_textsAsSeen_24 rfl rfl rfl ?_
    refine w_getR X dX10_textsAsSeen_25 rfl fl_X10_31 S0_0 rfl ?_
    obtain ⟨yr21, eyr21, hf⟩ := wok_b hf
    refine w_callV X dX10_textsAsSeen_28 rfl vl_X10_281 (kX5_agrees l in_43 in_3 in_29 eyr21) S0_43 (As := [.int v2, .ref 3, .ref 29]) (st := []) rfl rfl (Nat.le_of_ble_eq_true rfl) ⟨Nat.le_of_ble_eq_true rfl, Nat.le_of_ble_eq_true rfl⟩ ⟨Nat.zero_le _, Nat.zero_le _⟩ (fun r h2 hF => ?_)
    obtain ⟨_, rfl, rfl, rfl⟩ := hF
    show wM p l e (wR 5) s m args below meth c 0 0 (wE below args s D dA b0 ad S0 F) 3 D dA b0 ad S0 31 [some (.ref 0), some (.int v1), some (.int v2)] [.int (wb yr21.1)] yr21.2
    refine w_if_eq X dX10_textsAsSeen_31 rfl (t := 40) rfl (fun hc => ?_) (fun hc => ?_)
    · have hf := wok_f hf (wb_0 hc)
      exact pX10_textsAsSeen_b40_4 X hr  hN hX0 hf
    · have hf := wok_t hf (wb_n0 hc)
      refine w_iload_n X dX10_textsAsSeen_34 rfl rfl rfl ?_
      refine w_iconst X dX10_textsAsSeen_35 rfl ci_1 ?_
      refine w_iload_n X dX10_textsAsSeen_36 rfl rfl rfl ?_
      refine w_ishl X dX10_textsAsSeen_37 rfl ?_
      refine w_ior X dX10_textsAsSeen_38 rfl ?_
      refine w_istore_n X dX10_textsAsSeen_39 rfl rfl rfl (Nat.le_of_ble_eq_true rfl) (ls' := [some (.ref 0), some (.int (v1 ||| (1 <<< (v2 &&& 31)))), some (.int v2)]) rfl ?_
      exact pX10_textsAsSeen_b40_4 X hr  hN hX0 hf
set_option maxRecDepth 4000 in
theorem pX10_textsAsSeen_l4 (X : wCx p s m args meth c RX10 cX10_textsAsSeen 3 D dA b0 ad) (hr : meth.sig.returnType = (some .int))  {KE : (Int32 × wSt) → Prop} (hX0 : ∀ (n1 : Int32) (nh : wSt), KE ((n1, nh)) → wM p l e (wR 5) s m args below meth c 0 0 (wE below args s D dA b0 ad S0 F) 3 D dA b0 ad S0 46 [none, some (.int n1), none] [] nh) : ∀ (n : Nat) (v1 : Int32) (v2 : Int32) (h : wSt), wok (wit (fun v : (Int32 × Int32 × wSt) => fX10_textsAsSeen_l4 v.2.2 v.1 v.2.1) n (v1, v2, h)) KE → wM p l e (wR 5) s m args below meth c 0 0 (wE below args s D dA b0 ad S0 F) 3 D dA b0 ad S0 4 [some (.ref 0), some (.int v1), some (.int v2)] [] h := by
  have key := wit_M (b := (fun v : (Int32 × Int32 × wSt) => fX10_textsAsSeen_l4 v.2.2 v.1 v.2.1)) (KE := KE) (G := fun v => wM p l e (wR 5) s m args below meth c 0 0 (wE below args s D dA b0 ad S0 F) 3 D dA b0 ad S0 4 [some (.ref 0), some (.int v.1), some (.int v.2.1)] [] v.2.2) (fun v K hN hE hf => pX10_textsAsSeen_l4b X hr  (fun n1 n2 nh hz => hN (n1, n2, nh) hz) (fun z0 z1 hz => hX0 z0 z1 (hE _ hz)) hf)
  exact fun n v1 v2 h hf => key n (v1, v2, h) hf
set_option maxRecDepth 4000 in
theorem pX10_textsAsSeen_b0 (X : wCx p s m args meth c RX10 cX10_textsAsSeen 3 D dA b0 ad) (hr : meth.sig.returnType = (some .int)) {h : wSt} {K : Int32 × wSt → Prop} (hT : ∀ (x : Int32) (h2 : wSt), K (x, h2) → F (some (.int x)) h2) (hf : wok (fX10_textsAsSeen h ) K) : wM p l e (wR 5) s m args below meth c 0 0 (wE below args s D dA b0 ad S0 F) 3 D dA b0 ad S0 0 [some (.ref 0), none, none] [] h := by
  unfold fX10_textsAsSeen at hf
  refine w_iconst X dX10_textsAsSeen_0 rfl ci_0 ?_
  refine w_istore_n X dX10_textsAsSeen_1 rfl rfl rfl (Nat.le_of_ble_eq_true rfl) (ls' := [some (.ref 0), some (.int 0), none]) rfl ?_
  refine w_iconst X dX10_textsAsSeen_2 rfl ci_0 ?_
  refine w_istore_n X dX10_textsAsSeen_3 rfl rfl rfl (Nat.le_of_ble_eq_true rfl) (ls' := [some (.ref 0), some (.int 0), some (.int 0)]) rfl ?_
  obtain ⟨ye22, hye22, hf⟩ := wok_b hf
  refine pX10_textsAsSeen_l4 X hr  (KE := fun z => ye22 = z) ?_ 3000 _ _ _ ⟨ye22, hye22, rfl⟩
  · intro yz23 yz24 hz
    subst hz
    refine w_iload_n X dX10_textsAsSeen_46 rfl rfl rfl ?_
    exact w_iret X dX10_textsAsSeen_47 hr (hT _ _ (wok_s hf))
set_option maxRecDepth 4000 in
theorem kX10_textsAsSeen (l : Launch) {h : wSt} {res : Int32 × wSt} (hf : fX10_textsAsSeen h  = some res) : wC l yX10_textsAsSeen cX10_textsAsSeen 3 (some .int) 5 S0 [.ref 0] h (wFI (fun a b => res.1 = a ∧ res.2 = b)) := by
  refine w_meth2 2 (by decide) (Nat.le_of_ble_eq_true rfl) (ls := [some (.ref 0), none, none]) rfl ?_
  intro p e s m args below meth c D dA b0 ad X hr
  exact pX10_textsAsSeen_b0 X hr  (K := fun z => res = z) (fun x h2 hz => ⟨x, rfl, by rw [hz], by rw [hz]⟩) ⟨res, hf, rfl⟩
set_option maxRecDepth 4000 in
theorem pX10_who_b0 (X : wCx p s m args meth c RX10 cX10_who 1 D dA b0 ad) (hr : meth.sig.returnType = (some .int)) {h : wSt} {K : Int32 × wSt → Prop} (hT : ∀ (x : Int32) (h2 : wSt), K (x, h2) → F (some (.int x)) h2) (hf : wok (fX10_who h ) K) : wM p l e (wR 6) s m args below meth c 0 0 (wE below args s D dA b0 ad S0 F) 1 D dA b0 ad S0 0 [some (.ref 0)] [] h := by
  unfold fX10_who at hf
  refine w_aload_n X dX10_who_0 rfl rfl rfl ?_
  obtain ⟨yr21, eyr21, hf⟩ := wok_b hf
  refine w_callV X dX10_who_1 rfl vl_X10_275 (kX10_textsAsSeen l  eyr21) S0_0 (As := []) (st := []) rfl rfl (Nat.le_of_ble_eq_true rfl) ⟨Nat.le_of_ble_eq_true rfl, Nat.le_of_ble_eq_true rfl⟩ ⟨Nat.zero_le _, Nat.zero_le _⟩ (fun r h2 hF => ?_)
  obtain ⟨_, rfl, rfl, rfl⟩ := hF
  show wM p l e (wR 6) s m args below meth c 0 0 (wE below args s D dA b0 ad S0 F) 1 D dA b0 ad S0 4 [some (.ref 0)] [.int yr21.1] yr21.2
  exact w_iret X dX10_who_4 hr (hT _ _ (wok_s hf))
set_option maxRecDepth 4000 in
theorem kX10_who (l : Launch) {h : wSt} {res : Int32 × wSt} (hf : fX10_who h  = some res) : wC l yX10_who cX10_who 1 (some .int) 6 S0 [.ref 0] h (wFI (fun a b => res.1 = a ∧ res.2 = b)) := by
  refine w_meth2 0 (by decide) (Nat.le_of_ble_eq_true rfl) (ls := [some (.ref 0)]) rfl ?_
  intro p e s m args below meth c D dA b0 ad X hr
  exact pX10_who_b0 X hr  (K := fun z => res = z) (fun x h2 hz => ⟨x, rfl, by rw [hz], by rw [hz]⟩) ⟨res, hf, rfl⟩
set_option maxRecDepth 4000 in
theorem pX10_ask_b104_42 (X : wCx p s m args meth c RX10 cX10_ask 10 D dA b0 ad) (hr : meth.sig.returnType = (some .int)) {h : wSt} {v1 : Int32} {v2 : Int32} {v3 : Int32} {v4 : Int32} {v5 : Int32} {v6 : Int32} {v7 : Int32} {K : (Int32 × Int32 × Int32 × wSt) ⊕ ((Int32 × Int32 × wSt)) → Prop} (hN : ∀ (n4 : Int32) (n5 : Int32) (n7 : Int32) (nh : wSt), K (.inl (n4, n5, n7, nh)) → wM p l e (wR 6) s m args below meth c 0 0 (wE below args s D dA b0 ad S0 F) 10 D dA b0 ad S0 42 [some (.ref 0), some (.int v1), some (.int v2), some (.int v3), some (.int n4), some (.int n5), some (.int v6), some (.int n7), none, none] [] nh) (hX0 : ∀ (n4 : Int32) (n5 : Int32) (nh : wSt), K (.inr (n4, n5, nh)) → wM p l e (wR 6) s m args below meth c 0 0 (wE below args s D dA b0 ad S0 F) 10 D dA b0 ad S0 110 [some (.ref 0), some (.int v1), some (.int v2), some (.int v3), some (.int n4), some (.int n5), some (.int v6), none, none, none] [] nh) (hf : wok (fX10_ask_b104_42 h v1 v2 v3 v4 v5 v6 v7) K) : wM p l e (wR 6) s m args below meth c 0 0 (wE below args s D dA b0 ad S0 F) 10 D dA b0 ad S0 104 [some (.ref 0), some (.int v1), some (.int v2), some (.int v3), some (.int v4), some (.int v5), some (.int v6), some (.int v7), none, none] [] h := by
  unfold fX10_ask_b104_42 at hf
  refine w_iinc X dX10_ask_104 rfl (v := (v7 + 1)) rfl rfl (Nat.le_of_ble_eq_true rfl) (cinc_1 _) (ls' := [some (.ref 0), some (.int v1), some (.int v2), some (.int v3), some (.int v4), some (.int v5), some (.int v6), some (.int (v7 + 1)), none, none]) rfl ?_
  refine w_goto X dX10_ask_107 (t := 42) rfl ?_
  exact hN _ _ _ _ (wok_s hf)
set_option maxRecDepth 4000 in
theorem pX10_ask_l42b (X : wCx p s m args meth c RX10 cX10_ask 10 D dA b0 ad) (hr : meth.sig.returnType = (some .int)) {h : wSt} {v1 : Int32} {v2 : Int32} {v3 : Int32} {v6 : Int32} {v4 : Int32} {v5 : Int32} {v7 : Int32} {K : (Int32 × Int32 × Int32 × wSt) ⊕ ((Int32 × Int32 × wSt)) → Prop} (hN : ∀ (n4 : Int32) (n5 : Int32) (n7 : Int32) (nh : wSt), K (.inl (n4, n5, n7, nh)) → wM p l e (wR 6) s m args below meth c 0 0 (wE below args s D dA b0 ad S0 F) 10 D dA b0 ad S0 42 [some (.ref 0), some (.int v1), some (.int v2), some (.int v3), some (.int n4), some (.int n5), some (.int v6), some (.int n7), none, none] [] nh) (hX0 : ∀ (n4 : Int32) (n5 : Int32) (nh : wSt), K (.inr (n4, n5, nh)) → wM p l e (wR 6) s m args below meth c 0 0 (wE below args s D dA b0 ad S0 F) 10 D dA b0 ad S0 110 [some (.ref 0), some (.int v1), some (.int v2), some (.int v3), some (.int n4), some (.int n5), some (.int v6), none, none, none] [] nh) (hf : wok (fX10_ask_l42 h v1 v2 v3 v6 v4 v5 v7) K) : wM p l e (wR 6) s m args below meth c 0 0 (wE below args s D dA b0 ad S0 F) 10 D dA b0 ad S0 42 [some (.ref 0), some (.int v1), some (.int v2), some (.int v3), some (.int v4), some (.int v5), some (.int v6), some (.int v7), none, none] [] h := by
  unfold fX10_ask_l42 at hf
  refine w_iload X dX10_ask_42 rfl rfl ?_
  refine w_bipush X dX10_ask_44 rfl cb_9 ?_
  refine w_icmp_gt X dX10_ask_46 rfl (t := 110) rfl (fun hc => ?_) (fun hc => ?_)
  · have hf := wok_t hf hc
    refine w_fg (ls2 := [some (.ref 0), some (.int v1), some (.int v2), some (.int v3), some (.int v4), some (.int v5), some (.int v6), none, none, none]) ⟨rfl, rfl, rfl, rfl, rfl, rfl, rfl, trivial⟩ ?_
    exact hX0 _ _ _ (wok_s hf)
  · have hf := wok_f hf hc
    refine w_aload_n X dX10_ask_49 rfl rfl rfl ?_
    refine w_getR X dX10_ask_50 rfl fl_X10_19 S0_0 rfl ?_
    refine w_iload_n X dX10_ask_53 rfl rfl rfl ?_
    refine w_iload X dX10_ask_54 rfl rfl ?_
    refine w_iload X dX10_ask_56 rfl rfl ?_
    refine w_aload_n X dX10_ask_58 rfl rfl rfl ?_
    refine w_getR X dX10_ask_59 rfl fl_X10_31 S0_0 rfl ?_
    refine w_getR X dX10_ask_62 rfl fl_X10_125 S0_29 rfl ?_
    refine w_iload_n X dX10_ask_65 rfl rfl rfl ?_
    obtain ⟨yhg24, hf⟩ := wok_g hf
    refine w_iald X dX10_ask_66 rfl (j := v1.toNatClampNeg) rfl S0_30 yhg24 ?_
    obtain ⟨yr25, eyr25, hf⟩ := wok_b hf
    refine w_callV X dX10_ask_67 rfl vl_X10_285 (kX4_howManyShow l in_3 eyr25) S0_3 (As := [.int v2, .int v6, .int v7, .int (h.1 30 v1.toNatClampNeg)]) (st := []) rfl rfl (Nat.le_of_ble_eq_true rfl) ⟨Nat.le_of_ble_eq_true rfl, Nat.le_of_ble_eq_true rfl⟩ ⟨Nat.zero_le _, Nat.zero_le _⟩ (fun r h2 hF => ?_)
    obtain ⟨_, rfl, rfl, rfl⟩ := hF
    show wM p l e (wR 6) s m args below meth c 0 0 (wE below args s D dA b0 ad S0 F) 10 D dA b0 ad S0 70 [some (.ref 0), some (.int v1), some (.int v2), some (.int v3), some (.int v4), some (.int v5), some (.int v6), some (.int v7), none, none] [.int yr25.1] yr25.2
    refine w_istore X dX10_ask_70 rfl rfl (Nat.le_of_ble_eq_true rfl) (ls' := [some (.ref 0), some (.int v1), some (.int v2), some (.int v3), some (.int v4), some (.int v5), some (.int v6), some (.int v7), some (.int yr25.1), none]) rfl ?_
    refine w_iload X dX10_ask_72 rfl rfl ?_
    refine w_iload_n X dX10_ask_74 rfl rfl rfl ?_
    refine w_iload X dX10_ask_75 rfl rfl ?_
    refine w_isub X dX10_ask_77 rfl ?_
    refine w_mmax X dX10_ask_78 rfl wd_900 wd_422 wd_15 wd_423 (Nat.le_of_ble_eq_true rfl) (Nat.le_of_ble_eq_true rfl) (Nat.zero_le _) (Nat.zero_le _) ?_
    refine w_istore X dX10_ask_81 rfl rfl (Nat.le_of_ble_eq_true rfl) (ls' := [some (.ref 0), some (.int v1), some (.int v2), some (.int v3), some (.int v4), some (.int v5), some (.int v6), some (.int v7), some (.int yr25.1), some (.int (wmx yr25.1 (v3 - yr25.1)))]) rfl ?_
    refine w_iload X dX10_ask_83 rfl rfl ?_
    refine w_iload X dX10_ask_85 rfl rfl ?_
    refine w_icmp_ge X dX10_ask_87 rfl (t := 104) rfl (fun hc => ?_) (fun hc => ?_)
    · have hf := wok_t hf hc
      refine w_fg (ls2 := [some (.ref 0), some (.int v1), some (.int v2), some (.int v3), some (.int v4), some (.int v5), some (.int v6), some (.int v7), none, none]) ⟨rfl, rfl, rfl, rfl, rfl, rfl, rfl, rfl, trivial⟩ ?_
      exact pX10_ask_b104_42 X hr  hN hX0 hf
    · have hf := wok_f hf hc
      refine w_iload X dX10_ask_90 rfl rfl ?_
      refine w_istore X dX10_ask_92 rfl rfl (Nat.le_of_ble_eq_true rfl) (ls' := [some (.ref 0), some (.int v1), some (.int v2), some (.int v3), some (.int (wmx yr25.1 (v3 - yr25.1))), some (.int v5), some (.int v6), some (.int v7), some (.int yr25.1), some (.int (wmx yr25.1 (v3 - yr25.1)))]) rfl ?_
      refine w_bipush X dX10_ask_94 rfl cb_10 ?_
      refine w_iload X dX10_ask_96 rfl rfl ?_
      refine w_imul X dX10_ask_98 rfl ?_
      refine w_iload X dX10_ask_99 rfl rfl ?_
      refine w_iadd X dX10_ask_101 rfl ?_
      refine w_istore X dX10_ask_102 rfl rfl (Nat.le_of_ble_eq_true rfl) (ls' := [some (.ref 0), some (.int v1), some (.int v2), some (.int v3), some (.int (wmx yr25.1 (v3 - yr25.1))), some (.int ((10 * v6) + v7)), some (.int v6), some (.int v7), some (.int yr25.1), some (.int (wmx yr25.1 (v3 - yr25.1)))]) rfl ?_
      refine w_fg (ls2 := [some (.ref 0), some (.int v1), some (.int v2), some (.int v3), some (.int (wmx yr25.1 (v3 - yr25.1))), some (.int ((10 * v6) + v7)), some (.int v6), some (.int v7), none, none]) ⟨rfl, rfl, rfl, rfl, rfl, rfl, rfl, rfl, trivial⟩ ?_
      exact pX10_ask_b104_42 X hr  hN hX0 hf
set_option maxRecDepth 4000 in
theorem pX10_ask_l42 (X : wCx p s m args meth c RX10 cX10_ask 10 D dA b0 ad) (hr : meth.sig.returnType = (some .int))  {v1 : Int32} {v2 : Int32} {v3 : Int32} {v6 : Int32} {KE : (Int32 × Int32 × wSt) → Prop} (hX0 : ∀ (n4 : Int32) (n5 : Int32) (nh : wSt), KE ((n4, n5, nh)) → wM p l e (wR 6) s m args below meth c 0 0 (wE below args s D dA b0 ad S0 F) 10 D dA b0 ad S0 110 [some (.ref 0), some (.int v1), some (.int v2), some (.int v3), some (.int n4), some (.int n5), some (.int v6), none, none, none] [] nh) : ∀ (n : Nat) (v4 : Int32) (v5 : Int32) (v7 : Int32) (h : wSt), wok (wit (fun v : (Int32 × Int32 × Int32 × wSt) => fX10_ask_l42 v.2.2.2 v1 v2 v3 v6 v.1 v.2.1 v.2.2.1) n (v4, v5, v7, h)) KE → wM p l e (wR 6) s m args below meth c 0 0 (wE below args s D dA b0 ad S0 F) 10 D dA b0 ad S0 42 [some (.ref 0), some (.int v1), some (.int v2), some (.int v3), some (.int v4), some (.int v5), some (.int v6), some (.int v7), none, none] [] h := by
  have key := wit_M (b := (fun v : (Int32 × Int32 × Int32 × wSt) => fX10_ask_l42 v.2.2.2 v1 v2 v3 v6 v.1 v.2.1 v.2.2.1)) (KE := KE) (G := fun v => wM p l e (wR 6) s m args below meth c 0 0 (wE below args s D dA b0 ad S0 F) 10 D dA b0 ad S0 42 [some (.ref 0), some (.int v1), some (.int v2), some (.int v3), some (.int v.1), some (.int v.2.1), some (.int v6), some (.int v.2.2.1), none, none] [] v.2.2.2) (fun v K hN hE hf => pX10_ask_l42b X hr  (fun n4 n5 n7 nh hz => hN (n4, n5, n7, nh) hz) (fun z0 z1 z2 hz => hX0 z0 z1 z2 (hE _ hz)) hf)
  exact fun n v4 v5 v7 h hf => key n (v4, v5, v7, h) hf
set_option maxRecDepth 4000 in
theorem pX10_ask_l32b (X : wCx p s m args meth c RX10 cX10_ask 10 D dA b0 ad) (hr : meth.sig.returnType = (some .int)) {h : wSt} {v1 : Int32} {v2 : Int32} {v3 : Int32} {v4 : Int32} {v5 : Int32} {v6 : Int32} {K : (Int32 × Int32 × Int32 × wSt) ⊕ ((Int32 × wSt)) → Prop} (hN : ∀ (n4 : Int32) (n5 : Int32) (n6 : Int32) (nh : wSt), K (.inl (n4, n5, n6, nh)) → wM p l e (wR 6) s m args below meth c 0 0 (wE below args s D dA b0 ad S0 F) 10 D dA b0 ad S0 32 [some (.ref 0), some (.int v1), some (.int v2), some (.int v3), some (.int n4), some (.int n5), some (.int n6), none, none, none] [] nh) (hX0 : ∀ (n5 : Int32) (nh : wSt), K (.inr (n5, nh)) → wM p l e (wR 6) s m args below meth c 0 0 (wE below args s D dA b0 ad S0 F) 10 D dA b0 ad S0 116 [none, none, none, none, none, some (.int n5), none, none, none, none] [] nh) (hf : wok (fX10_ask_l32 h v1 v2 v3 v4 v5 v6) K) : wM p l e (wR 6) s m args below meth c 0 0 (wE below args s D dA b0 ad S0 F) 10 D dA b0 ad S0 32 [some (.ref 0), some (.int v1), some (.int v2), some (.int v3), some (.int v4), some (.int v5), some (.int v6), none, none, none] [] h := by
  unfold fX10_ask_l32 at hf
  refine w_iload X dX10_ask_32 rfl rfl ?_
  refine w_bipush X dX10_ask_34 rfl cb_9 ?_
  refine w_icmp_gt X dX10_ask_36 rfl (t := 116) rfl (fun hc => ?_) (fun hc => ?_)
  · have hf := wok_t hf hc
    refine w_fg (ls2 := [none, none, none, none, none, some (.int v5), none, none, none, none]) ⟨rfl, trivial⟩ ?_
    exact hX0 _ _ (wok_s hf)
  · have hf := wok_f hf hc
    refine w_iconst X dX10_ask_39 rfl ci_0 ?_
    refine w_istore X dX10_ask_40 rfl rfl (Nat.le_of_ble_eq_true rfl) (ls' := [some (.ref 0), some (.int v1), some (.int v2), some (.int v3), some (.int v4), some (.int v5), some (.int v6), some (.int 0), none, none]) rfl ?_
    obtain ⟨ye26, hye26, hf⟩ := wok_b hf
    refine pX10_ask_l42 X hr  (KE := fun z => ye26 = z) ?_ 3000 _ _ _ _ ⟨ye26, hye26, rfl⟩
    · intro yz27 yz28 yz29 hz
      subst hz
      refine w_iinc X dX10_ask_110 rfl (v := (v6 + 1)) rfl rfl (Nat.le_of_ble_eq_true rfl) (cinc_1 _) (ls' := [some (.ref 0), some (.int v1), some (.int v2), some (.int v3), some (.int yz27), some (.int yz28), some (.int (v6 + 1)), none, none, none]) rfl ?_
      refine w_goto X dX10_ask_113 (t := 32) rfl ?_
      exact hN _ _ _ _ (wok_s hf)
set_option maxRecDepth 4000 in
theorem pX10_ask_l32 (X : wCx p s m args meth c RX10 cX10_ask 10 D dA b0 ad) (hr : meth.sig.returnType = (some .int))  {v1 : Int32} {v2 : Int32} {v3 : Int32} {KE : (Int32 × wSt) → Prop} (hX0 : ∀ (n5 : Int32) (nh : wSt), KE ((n5, nh)) → wM p l e (wR 6) s m args below meth c 0 0 (wE below args s D dA b0 ad S0 F) 10 D dA b0 ad S0 116 [none, none, none, none, none, some (.int n5), none, none, none, none] [] nh) : ∀ (n : Nat) (v4 : Int32) (v5 : Int32) (v6 : Int32) (h : wSt), wok (wit (fun v : (Int32 × Int32 × Int32 × wSt) => fX10_ask_l32 v.2.2.2 v1 v2 v3 v.1 v.2.1 v.2.2.1) n (v4, v5, v6, h)) KE → wM p l e (wR 6) s m args below meth c 0 0 (wE below args s D dA b0 ad S0 F) 10 D dA b0 ad S0 32 [some (.ref 0), some (.int v1), some (.int v2), some (.int v3), some (.int v4), some (.int v5), some (.int v6), none, none, none] [] h := by
  have key := wit_M (b := (fun v : (Int32 × Int32 × Int32 × wSt) => fX10_ask_l32 v.2.2.2 v1 v2 v3 v.1 v.2.1 v.2.2.1)) (KE := KE) (G := fun v => wM p l e (wR 6) s m args below meth c 0 0 (wE below args s D dA b0 ad S0 F) 10 D dA b0 ad S0 32 [some (.ref 0), some (.int v1), some (.int v2), some (.int v3), some (.int v.1), some (.int v.2.1), some (.int v.2.2.1), none, none, none] [] v.2.2.2) (fun v K hN hE hf => pX10_ask_l32b X hr  (fun n4 n5 n6 nh hz => hN (n4, n5, n6, nh) hz) (fun z0 z1 hz => hX0 z0 z1 (hE _ hz)) hf)
  exact fun n v4 v5 v6 h hf => key n (v4, v5, v6, h) hf
set_option maxRecDepth 4000 in
theorem pX10_ask_b0 (X : wCx p s m args meth c RX10 cX10_ask 10 D dA b0 ad) (hr : meth.sig.returnType = (some .int)) {h : wSt} {x0 : Int32} {K : Int32 × wSt → Prop} (hT : ∀ (x : Int32) (h2 : wSt), K (x, h2) → F (some (.int x)) h2) (hf : wok (fX10_ask h x0) K) : wM p l e (wR 6) s m args below meth c 0 0 (wE below args s D dA b0 ad S0 F) 10 D dA b0 ad S0 0 [some (.ref 0), some (.int x0), none, none, none, none, none, none, none, none] [] h := by
  unfold fX10_ask at hf
  refine w_aload_n X dX10_ask_0 rfl rfl rfl ?_
  refine w_getR X dX10_ask_1 rfl fl_X10_19 S0_0 rfl ?_
  refine w_iload_n X dX10_ask_4 rfl rfl rfl ?_
  obtain ⟨yr21, eyr21, hf⟩ := wok_b hf
  refine w_callV X dX10_ask_5 rfl vl_X10_117 (kX4_hasSkin l in_3 eyr21) S0_3 (As := [.int x0]) (st := []) rfl rfl (Nat.le_of_ble_eq_true rfl) ⟨Nat.le_of_ble_eq_true rfl, Nat.le_of_ble_eq_true rfl⟩ ⟨Nat.zero_le _, Nat.zero_le _⟩ (fun r h2 hF => ?_)
  obtain ⟨_, rfl, rfl, rfl⟩ := hF
  show wM p l e (wR 6) s m args below meth c 0 0 (wE below args s D dA b0 ad S0 F) 10 D dA b0 ad S0 8 [some (.ref 0), some (.int x0), none, none, none, none, none, none, none, none] [.int (wb yr21)] h
  refine w_if_ne X dX10_ask_8 rfl (t := 13) rfl (fun hc => ?_) (fun hc => ?_)
  · have hf := wok_t hf (wb_n0 hc)
    refine w_aload_n X dX10_ask_13 rfl rfl rfl ?_
    obtain ⟨yr22, eyr22, hf⟩ := wok_b hf
    refine w_callV X dX10_ask_14 rfl vl_X10_275 (kX10_textsAsSeen l  eyr22) S0_0 (As := []) (st := []) rfl rfl (Nat.le_of_ble_eq_true rfl) ⟨Nat.le_of_ble_eq_true rfl, Nat.le_of_ble_eq_true rfl⟩ ⟨Nat.zero_le _, Nat.zero_le _⟩ (fun r h2 hF => ?_)
    obtain ⟨_, rfl, rfl, rfl⟩ := hF
    show wM p l e (wR 6) s m args below meth c 0 0 (wE below args s D dA b0 ad S0 F) 10 D dA b0 ad S0 17 [some (.ref 0), some (.int x0), none, none, none, none, none, none, none, none] [.int yr22.1] yr22.2
    refine w_istore_n X dX10_ask_17 rfl rfl rfl (Nat.le_of_ble_eq_true rfl) (ls' := [some (.ref 0), some (.int x0), some (.int yr22.1), none, none, none, none, none, none, none]) rfl ?_
    refine w_iload_n X dX10_ask_18 rfl rfl rfl ?_
    obtain ⟨yr23, eyr23, hf⟩ := wok_b hf
    refine w_callS X dX10_ask_19 rfl sl_X10_216 (kJ6_bitCount_0f7a4 l  eyr23) (As := [.int yr22.1]) (st := []) rfl rfl (Nat.le_of_ble_eq_true rfl) ⟨Nat.le_of_ble_eq_true rfl, Nat.le_of_ble_eq_true rfl⟩ ⟨Nat.zero_le _, Nat.zero_le _⟩ (fun r h2 hF => ?_)
    obtain ⟨_, rfl, rfl, rfl⟩ := hF
    show wM p l e (wR 6) s m args below meth c 0 0 (wE below args s D dA b0 ad S0 F) 10 D dA b0 ad S0 22 [some (.ref 0), some (.int x0), some (.int yr22.1), none, none, none, none, none, none, none] [.int yr23] yr22.2
    refine w_istore_n X dX10_ask_22 rfl rfl rfl (Nat.le_of_ble_eq_true rfl) (ls' := [some (.ref 0), some (.int x0), some (.int yr22.1), some (.int yr23), none, none, none, none, none, none]) rfl ?_
    refine w_iload_n X dX10_ask_23 rfl rfl rfl ?_
    refine w_istore X dX10_ask_24 rfl rfl (Nat.le_of_ble_eq_true rfl) (ls' := [some (.ref 0), some (.int x0), some (.int yr22.1), some (.int yr23), some (.int yr23), none, none, none, none, none]) rfl ?_
    refine w_iconst X dX10_ask_26 rfl ci_m1 ?_
    refine w_istore X dX10_ask_27 rfl rfl (Nat.le_of_ble_eq_true rfl) (ls' := [some (.ref 0), some (.int x0), some (.int yr22.1), some (.int yr23), some (.int yr23), some (.int (-1)), none, none, none, none]) rfl ?_
    refine w_iconst X dX10_ask_29 rfl ci_1 ?_
    refine w_istore X dX10_ask_30 rfl rfl (Nat.le_of_ble_eq_true rfl) (ls' := [some (.ref 0), some (.int x0), some (.int yr22.1), some (.int yr23), some (.int yr23), some (.int (-1)), some (.int 1), none, none, none]) rfl ?_
    obtain ⟨ye30, hye30, hf⟩ := wok_b hf
    refine pX10_ask_l32 X hr  (KE := fun z => ye30 = z) ?_ 3000 _ _ _ _ ⟨ye30, hye30, rfl⟩
    · intro yz31 yz32 hz
      subst hz
      refine w_iload X dX10_ask_116 rfl rfl ?_
      exact w_iret X dX10_ask_118 hr (hT _ _ (wok_s hf))
  · have hf := wok_f hf (wb_0 hc)
    refine w_iconst X dX10_ask_11 rfl ci_m1 ?_
    exact w_iret X dX10_ask_12 hr (hT _ _ (wok_s hf))
set_option maxRecDepth 4000 in
theorem kX10_ask (l : Launch) {h : wSt} {x0 : Int32} {res : Int32 × wSt} (hf : fX10_ask h x0 = some res) : wC l yX10_ask cX10_ask 10 (some .int) 6 S0 [.ref 0, .int x0] h (wFI (fun a b => res.1 = a ∧ res.2 = b)) := by
  refine w_meth2 8 (by decide) (Nat.le_of_ble_eq_true rfl) (ls := [some (.ref 0), some (.int x0), none, none, none, none, none, none, none, none]) rfl ?_
  intro p e s m args below meth c D dA b0 ad X hr
  exact pX10_ask_b0 X hr  (K := fun z => res = z) (fun x h2 hz => ⟨x, rfl, by rw [hz], by rw [hz]⟩) ⟨res, hf, rfl⟩
set_option maxRecDepth 4000 in
theorem pX10_chance_b94_65 (X : wCx p s m args meth c RX10 cX10_chance 9 D dA b0 ad) (hr : meth.sig.returnType = (some .int)) {h : wSt} {v2 : Int32} {v3 : Int32} {v4 : Int32} {v5 : Int32} {v6 : Int32} {v7 : Int32} {w0 : Int32} {w1 : Int32} {K : (Int32 × Int32) ⊕ ((Int32)) → Prop} (hN : ∀ (n6 : Int32) (n7 : Int32), K (.inl (n6, n7)) → wM p l e (wR 7) s m args below meth c 0 0 (wE below args s D dA b0 ad S0 F) 9 D dA b0 ad S0 65 [none, none, some (.int v2), some (.int v3), some (.int v4), some (.int v5), some (.int n6), some (.int n7), none] [] h) (hX0 : ∀ (n6 : Int32), K (.inr n6) → wM p l e (wR 7) s m args below meth c 0 0 (wE below args s D dA b0 ad S0 F) 9 D dA b0 ad S0 113 [none, none, none, none, none, none, some (.int n6), none, none] [] h) (hf : wok (fX10_chance_b94_65 h v2 v3 v4 v5 v6 v7 w0 w1) K) : wM p l e (wR 7) s m args below meth c 0 0 (wE below args s D dA b0 ad S0 F) 9 D dA b0 ad S0 94 [none, none, some (.int v2), some (.int v3), some (.int v4), some (.int v5), some (.int v6), some (.int v7), none] [.int w1, .int w0] h := by
  unfold fX10_chance_b94_65 at hf
  refine w_iadd X dX10_chance_94 rfl ?_
  refine w_istore X dX10_chance_95 rfl rfl (Nat.le_of_ble_eq_true rfl) (ls' := [none, none, some (.int v2), some (.int v3), some (.int v4), some (.int v5), some (.int v6), some (.int v7), some (.int (w0 + w1))]) rfl ?_
  refine w_iload X dX10_chance_97 rfl rfl ?_
  refine w_bipush X dX10_chance_99 rfl cb_10 ?_
  refine w_idiv X dX10_chance_101 rfl (by decide) ?_
  refine w_iload X dX10_chance_102 rfl rfl ?_
  refine w_imul X dX10_chance_104 rfl ?_
  refine w_istore X dX10_chance_105 rfl rfl (Nat.le_of_ble_eq_true rfl) (ls' := [none, none, some (.int v2), some (.int v3), some (.int v4), some (.int v5), some (.int ((v6 / 10) * (w0 + w1))), some (.int v7), some (.int (w0 + w1))]) rfl ?_
  refine w_iinc X dX10_chance_107 rfl (v := (v7 + 1)) rfl rfl (Nat.le_of_ble_eq_true rfl) (cinc_1 _) (ls' := [none, none, some (.int v2), some (.int v3), some (.int v4), some (.int v5), some (.int ((v6 / 10) * (w0 + w1))), some (.int (v7 + 1)), some (.int (w0 + w1))]) rfl ?_
  refine w_goto X dX10_chance_110 (t := 65) rfl ?_
  refine w_fg (ls2 := [none, none, some (.int v2), some (.int v3), some (.int v4), some (.int v5), some (.int ((v6 / 10) * (w0 + w1))), some (.int (v7 + 1)), none]) ⟨rfl, rfl, rfl, rfl, rfl, rfl, trivial⟩ ?_
  exact hN _ _ (wok_s hf)
set_option maxRecDepth 4000 in
theorem pX10_chance_b81_65 (X : wCx p s m args meth c RX10 cX10_chance 9 D dA b0 ad) (hr : meth.sig.returnType = (some .int)) {h : wSt} {v2 : Int32} {v3 : Int32} {v4 : Int32} {v5 : Int32} {v6 : Int32} {v7 : Int32} {w0 : Int32} {K : (Int32 × Int32) ⊕ ((Int32)) → Prop} (hN : ∀ (n6 : Int32) (n7 : Int32), K (.inl (n6, n7)) → wM p l e (wR 7) s m args below meth c 0 0 (wE below args s D dA b0 ad S0 F) 9 D dA b0 ad S0 65 [none, none, some (.int v2), some (.int v3), some (.int v4), some (.int v5), some (.int n6), some (.int n7), none] [] h) (hX0 : ∀ (n6 : Int32), K (.inr n6) → wM p l e (wR 7) s m args below meth c 0 0 (wE below args s D dA b0 ad S0 F) 9 D dA b0 ad S0 113 [none, none, none, none, none, none, some (.int n6), none, none] [] h) (hf : wok (fX10_chance_b81_65 h v2 v3 v4 v5 v6 v7 w0) K) : wM p l e (wR 7) s m args below meth c 0 0 (wE below args s D dA b0 ad S0 F) 9 D dA b0 ad S0 81 [none, none, some (.int v2), some (.int v3), some (.int v4), some (.int v5), some (.int v6), some (.int v7), none] [.int w0] h := by
  unfold fX10_chance_b81_65 at hf
  refine w_iload X dX10_chance_81 rfl rfl ?_
  refine w_if_eq X dX10_chance_83 rfl (t := 90) rfl (fun hc => ?_) (fun hc => ?_)
  · have hf := wok_t hf hc
    refine w_bipush X dX10_chance_90 rfl cb_10 ?_
    refine w_iload_n X dX10_chance_92 rfl rfl rfl ?_
    refine w_isub X dX10_chance_93 rfl ?_
    exact pX10_chance_b94_65 X hr  hN hX0 hf
  · have hf := wok_f hf hc
    refine w_iconst X dX10_chance_86 rfl ci_0 ?_
    refine w_goto X dX10_chance_87 (t := 94) rfl ?_
    exact pX10_chance_b94_65 X hr  hN hX0 hf
set_option maxRecDepth 4000 in
theorem pX10_chance_l65b (X : wCx p s m args meth c RX10 cX10_chance 9 D dA b0 ad) (hr : meth.sig.returnType = (some .int)) {h : wSt} {v2 : Int32} {v3 : Int32} {v4 : Int32} {v5 : Int32} {v6 : Int32} {v7 : Int32} {K : (Int32 × Int32) ⊕ ((Int32)) → Prop} (hN : ∀ (n6 : Int32) (n7 : Int32), K (.inl (n6, n7)) → wM p l e (wR 7) s m args below meth c 0 0 (wE below args s D dA b0 ad S0 F) 9 D dA b0 ad S0 65 [none, none, some (.int v2), some (.int v3), some (.int v4), some (.int v5), some (.int n6), some (.int n7), none] [] h) (hX0 : ∀ (n6 : Int32), K (.inr n6) → wM p l e (wR 7) s m args below meth c 0 0 (wE below args s D dA b0 ad S0 F) 9 D dA b0 ad S0 113 [none, none, none, none, none, none, some (.int n6), none, none] [] h) (hf : wok (fX10_chance_l65 h v2 v3 v4 v5 v6 v7) K) : wM p l e (wR 7) s m args below meth c 0 0 (wE below args s D dA b0 ad S0 F) 9 D dA b0 ad S0 65 [none, none, some (.int v2), some (.int v3), some (.int v4), some (.int v5), some (.int v6), some (.int v7), none] [] h := by
  unfold fX10_chance_l65 at hf
  refine w_iload X dX10_chance_65 rfl rfl ?_
  refine w_iload_n X dX10_chance_67 rfl rfl rfl ?_
  refine w_icmp_ge X dX10_chance_68 rfl (t := 113) rfl (fun hc => ?_) (fun hc => ?_)
  · have hf := wok_t hf hc
    refine w_fg (ls2 := [none, none, none, none, none, none, some (.int v6), none, none]) ⟨rfl, trivial⟩ ?_
    exact hX0 _ (wok_s hf)
  · have hf := wok_f hf hc
    refine w_iload X dX10_chance_71 rfl rfl ?_
    refine w_if_eq X dX10_chance_73 rfl (t := 80) rfl (fun hc => ?_) (fun hc => ?_)
    · have hf := wok_t hf hc
      refine w_iload_n X dX10_chance_80 rfl rfl rfl ?_
      exact pX10_chance_b81_65 X hr  hN hX0 hf
    · have hf := wok_f hf hc
      refine w_iconst X dX10_chance_76 rfl ci_0 ?_
      refine w_goto X dX10_chance_77 (t := 81) rfl ?_
      exact pX10_chance_b81_65 X hr  hN hX0 hf
set_option maxRecDepth 4000 in
theorem pX10_chance_l65 (X : wCx p s m args meth c RX10 cX10_chance 9 D dA b0 ad) (hr : meth.sig.returnType = (some .int)) {h : wSt} {v2 : Int32} {v3 : Int32} {v4 : Int32} {v5 : Int32} {KE : (Int32) → Prop} (hX0 : ∀ (n6 : Int32), KE (n6) → wM p l e (wR 7) s m args below meth c 0 0 (wE below args s D dA b0 ad S0 F) 9 D dA b0 ad S0 113 [none, none, none, none, none, none, some (.int n6), none, none] [] h) : ∀ (n : Nat) (v6 : Int32) (v7 : Int32), wok (wit (fun v : (Int32 × Int32) => fX10_chance_l65 h v2 v3 v4 v5 v.1 v.2) n (v6, v7)) KE → wM p l e (wR 7) s m args below meth c 0 0 (wE below args s D dA b0 ad S0 F) 9 D dA b0 ad S0 65 [none, none, some (.int v2), some (.int v3), some (.int v4), some (.int v5), some (.int v6), some (.int v7), none] [] h := by
  have key := wit_M (b := (fun v : (Int32 × Int32) => fX10_chance_l65 h v2 v3 v4 v5 v.1 v.2)) (KE := KE) (G := fun v => wM p l e (wR 7) s m args below meth c 0 0 (wE below args s D dA b0 ad S0 F) 9 D dA b0 ad S0 65 [none, none, some (.int v2), some (.int v3), some (.int v4), some (.int v5), some (.int v.1), some (.int v.2), none] [] h) (fun v K hN hE hf => pX10_chance_l65b X hr  (fun n6 n7 hz => hN (n6, n7) hz) (fun z0 hz => hX0 z0 (hE _ hz)) hf)
  exact fun n v6 v7 hf => key n (v6, v7) hf
set_option maxRecDepth 4000 in
theorem pX10_chance_b0 (X : wCx p s m args meth c RX10 cX10_chance 9 D dA b0 ad) (hr : meth.sig.returnType = (some .int)) {h : wSt} {x0 : Int32} {x1 : Int32} {x2 : Int32} {K : Int32 × wSt → Prop} (hT : ∀ (x : Int32) (h2 : wSt), K (x, h2) → F (some (.int x)) h2) (hf : wok (fX10_chance h x0 x1 x2) K) : wM p l e (wR 7) s m args below meth c 0 0 (wE below args s D dA b0 ad S0 F) 9 D dA b0 ad S0 0 [some (.ref 0), some (.int x0), some (.int x1), some (.int x2), none, none, none, none, none] [] h := by
  unfold fX10_chance at hf
  refine w_aload_n X dX10_chance_0 rfl rfl rfl ?_
  refine w_getR X dX10_chance_1 rfl fl_X10_19 S0_0 rfl ?_
  refine w_iload_n X dX10_chance_4 rfl rfl rfl ?_
  obtain ⟨yr21, eyr21, hf⟩ := wok_b hf
  refine w_callV X dX10_chance_5 rfl vl_X10_142 (kX4_hasText l in_3 eyr21) S0_3 (As := [.int x0]) (st := []) rfl rfl (Nat.le_of_ble_eq_true rfl) ⟨Nat.le_of_ble_eq_true rfl, Nat.le_of_ble_eq_true rfl⟩ ⟨Nat.zero_le _, Nat.zero_le _⟩ (fun r h2 hF => ?_)
  obtain ⟨_, rfl, rfl, rfl⟩ := hF
  show wM p l e (wR 7) s m args below meth c 0 0 (wE below args s D dA b0 ad S0 F) 9 D dA b0 ad S0 8 [some (.ref 0), some (.int x0), some (.int x1), some (.int x2), none, none, none, none, none] [.int (wb yr21)] h
  refine w_if_eq X dX10_chance_8 rfl (t := 32) rfl (fun hc => ?_) (fun hc => ?_)
  · have hf := wok_f hf (wb_0 hc)
    refine w_iconst X dX10_chance_32 rfl ci_m1 ?_
    exact w_iret X dX10_chance_33 hr (hT _ _ (wok_s hf))
  · have hf := wok_t hf (wb_n0 hc)
    refine w_iload_n X dX10_chance_11 rfl rfl rfl ?_
    refine w_iconst X dX10_chance_12 rfl ci_1 ?_
    refine w_icmp_lt X dX10_chance_13 rfl (t := 32) rfl (fun hc => ?_) (fun hc => ?_)
    · have hf := wok_t hf hc
      refine w_iconst X dX10_chance_32 rfl ci_m1 ?_
      exact w_iret X dX10_chance_33 hr (hT _ _ (wok_s hf))
    · have hf := wok_f hf hc
      refine w_iload_n X dX10_chance_16 rfl rfl rfl ?_
      refine w_bipush X dX10_chance_17 rfl cb_6 ?_
      refine w_icmp_gt X dX10_chance_19 rfl (t := 32) rfl (fun hc => ?_) (fun hc => ?_)
      · have hf := wok_t hf hc
        refine w_iconst X dX10_chance_32 rfl ci_m1 ?_
        exact w_iret X dX10_chance_33 hr (hT _ _ (wok_s hf))
      · have hf := wok_f hf hc
        refine w_iload_n X dX10_chance_22 rfl rfl rfl ?_
        refine w_if_lt X dX10_chance_23 rfl (t := 32) rfl (fun hc => ?_) (fun hc => ?_)
        · have hf := wok_t hf hc
          refine w_iconst X dX10_chance_32 rfl ci_m1 ?_
          exact w_iret X dX10_chance_33 hr (hT _ _ (wok_s hf))
        · have hf := wok_f hf hc
          refine w_iload_n X dX10_chance_26 rfl rfl rfl ?_
          refine w_bipush X dX10_chance_27 rfl cb_10 ?_
          refine w_icmp_le X dX10_chance_29 rfl (t := 34) rfl (fun hc => ?_) (fun hc => ?_)
          · have hf := wok_t hf hc
            refine w_aload_n X dX10_chance_34 rfl rfl rfl ?_
            refine w_getR X dX10_chance_35 rfl fl_X10_31 S0_0 rfl ?_
            refine w_iload_n X dX10_chance_38 rfl rfl rfl ?_
            refine w_bipush X dX10_chance_39 rfl cb_9 ?_
            obtain ⟨yr22, eyr22, hf⟩ := wok_b hf
            refine w_callV X dX10_chance_41 rfl vl_X10_154 (kX6_isWhole l in_29 eyr22) S0_29 (As := [.int x0, .int 9]) (st := []) rfl rfl (Nat.le_of_ble_eq_true rfl) ⟨Nat.le_of_ble_eq_true rfl, Nat.le_of_ble_eq_true rfl⟩ ⟨Nat.zero_le _, Nat.zero_le _⟩ (fun r h2 hF => ?_)
            obtain ⟨_, rfl, rfl, rfl⟩ := hF
            show wM p l e (wR 7) s m args below meth c 0 0 (wE below args s D dA b0 ad S0 F) 9 D dA b0 ad S0 44 [some (.ref 0), some (.int x0), some (.int x1), some (.int x2), none, none, none, none, none] [.int (wb yr22.1)] yr22.2
            refine w_istore X dX10_chance_44 rfl rfl (Nat.le_of_ble_eq_true rfl) (ls' := [some (.ref 0), some (.int x0), some (.int x1), some (.int x2), some (.int (wb yr22.1)), none, none, none, none]) rfl ?_
            refine w_aload_n X dX10_chance_46 rfl rfl rfl ?_
            refine w_getR X dX10_chance_47 rfl fl_X10_31 S0_0 rfl ?_
            refine w_iload_n X dX10_chance_50 rfl rfl rfl ?_
            refine w_iconst X dX10_chance_51 rfl ci_0 ?_
            obtain ⟨yr23, eyr23, hf⟩ := wok_b hf
            refine w_callV X dX10_chance_52 rfl vl_X10_154 (kX6_isWhole l in_29 eyr23) S0_29 (As := [.int x0, .int 0]) (st := []) rfl rfl (Nat.le_of_ble_eq_true rfl) ⟨Nat.le_of_ble_eq_true rfl, Nat.le_of_ble_eq_true rfl⟩ ⟨Nat.zero_le _, Nat.zero_le _⟩ (fun r h2 hF => ?_)
            obtain ⟨_, rfl, rfl, rfl⟩ := hF
            show wM p l e (wR 7) s m args below meth c 0 0 (wE below args s D dA b0 ad S0 F) 9 D dA b0 ad S0 55 [some (.ref 0), some (.int x0), some (.int x1), some (.int x2), some (.int (wb yr22.1)), none, none, none, none] [.int (wb yr23.1)] yr23.2
            refine w_istore X dX10_chance_55 rfl rfl (Nat.le_of_ble_eq_true rfl) (ls' := [some (.ref 0), some (.int x0), some (.int x1), some (.int x2), some (.int (wb yr22.1)), some (.int (wb yr23.1)), none, none, none]) rfl ?_
            refine w_ldcw X dX10_chance_57 rfl wd_1041 ?_
            refine w_istore X dX10_chance_60 rfl rfl (Nat.le_of_ble_eq_true rfl) (ls' := [some (.ref 0), some (.int x0), some (.int x1), some (.int x2), some (.int (wb yr22.1)), some (.int (wb yr23.1)), some (.int 1000000), none, none]) rfl ?_
            refine w_iconst X dX10_chance_62 rfl ci_0 ?_
            refine w_istore X dX10_chance_63 rfl rfl (Nat.le_of_ble_eq_true rfl) (ls' := [some (.ref 0), some (.int x0), some (.int x1), some (.int x2), some (.int (wb yr22.1)), some (.int (wb yr23.1)), some (.int 1000000), some (.int 0), none]) rfl ?_
            refine w_fg (ls2 := [none, none, some (.int x1), some (.int x2), some (.int (wb yr22.1)), some (.int (wb yr23.1)), some (.int 1000000), some (.int 0), none]) ⟨rfl, rfl, rfl, rfl, rfl, rfl, trivial⟩ ?_
            obtain ⟨ye24, hye24, hf⟩ := wok_b hf
            refine pX10_chance_l65 X hr  (KE := fun z => ye24 = z) ?_ 3000 _ _ ⟨ye24, hye24, rfl⟩
            · intro yz25 hz
              subst hz
              refine w_ldcw X dX10_chance_113 rfl wd_1041 ?_
              refine w_iload X dX10_chance_116 rfl rfl ?_
              refine w_isub X dX10_chance_118 rfl ?_
              exact w_iret X dX10_chance_119 hr (hT _ _ (wok_s hf))
          · have hf := wok_f hf hc
            refine w_iconst X dX10_chance_32 rfl ci_m1 ?_
            exact w_iret X dX10_chance_33 hr (hT _ _ (wok_s hf))
set_option maxRecDepth 4000 in
theorem kX10_chance (l : Launch) {h : wSt} {x0 : Int32} {x1 : Int32} {x2 : Int32} {res : Int32 × wSt} (hf : fX10_chance h x0 x1 x2 = some res) : wC l yX10_chance cX10_chance 9 (some .int) 7 S0 [.ref 0, .int x0, .int x1, .int x2] h (wFI (fun a b => res.1 = a ∧ res.2 = b)) := by
  refine w_meth2 5 (by decide) (Nat.le_of_ble_eq_true rfl) (ls := [some (.ref 0), some (.int x0), some (.int x1), some (.int x2), none, none, none, none, none]) rfl ?_
  intro p e s m args below meth c D dA b0 ad X hr
  exact pX10_chance_b0 X hr  (K := fun z => res = z) (fun x h2 hz => ⟨x, rfl, by rw [hz], by rw [hz]⟩) ⟨res, hf, rfl⟩
set_option maxRecDepth 4000 in
theorem pX10_isGain_b0 (X : wCx p s m args meth c RX10 cX10_isGain 1 D dA b0 ad) (hr : meth.sig.returnType = (some .boolean)) {h : wSt} {x0 : Int32} {K : Bool → Prop} (hT : ∀ (x : Bool), K x → F (some (.int (wb x))) h) (hf : wok (fX10_isGain h x0) K) : wM p l e (wR 1) s m args below meth c 0 0 (wE below args s D dA b0 ad S0 F) 1 D dA b0 ad S0 0 [some (.int x0)] [] h := by
  unfold fX10_isGain at hf
  refine w_iload_n X dX10_isGain_0 rfl rfl rfl ?_
  refine w_if_lt X dX10_isGain_1 rfl (t := 14) rfl (fun hc => ?_) (fun hc => ?_)
  · have hf := wok_t hf hc
    refine w_iconst X dX10_isGain_14 rfl ci_0 ?_
    exact w_zret X dX10_isGain_15 hr rfl (hT false (wok_s hf))
  · have hf := wok_f hf hc
    refine w_iload_n X dX10_isGain_4 rfl rfl rfl ?_
    refine w_bipush X dX10_isGain_5 rfl cb_9 ?_
    refine w_icmp_gt X dX10_isGain_7 rfl (t := 14) rfl (fun hc => ?_) (fun hc => ?_)
    · have hf := wok_t hf hc
      refine w_iconst X dX10_isGain_14 rfl ci_0 ?_
      exact w_zret X dX10_isGain_15 hr rfl (hT false (wok_s hf))
    · have hf := wok_f hf hc
      refine w_iconst X dX10_isGain_10 rfl ci_1 ?_
      refine w_goto X dX10_isGain_11 (t := 15) rfl ?_
      exact w_zret X dX10_isGain_15 hr rfl (hT true (wok_s hf))
set_option maxRecDepth 4000 in
theorem kX10_isGain (l : Launch) {h : wSt} {x0 : Int32} {res : Bool} (hf : fX10_isGain h x0 = some res) : wC l yX10_isGain cX10_isGain 1 (some .boolean) 1 S0 [.int x0] h (wFZ (fun a b => res = a ∧ h = b)) := by
  refine w_meth2 0 (by decide) (Nat.le_of_ble_eq_true rfl) (ls := [some (.int x0)]) rfl ?_
  intro p e s m args below meth c D dA b0 ad X hr
  exact pX10_isGain_b0 X hr  (K := fun z => res = z) (fun x hz => ⟨x, rfl, hz, rfl⟩) ⟨res, hf, rfl⟩
set_option maxRecDepth 4000 in
theorem pX10_gainOf_b0 (X : wCx p s m args meth c RX10 cX10_gainOf 5 D dA b0 ad) (hr : meth.sig.returnType = (some .int)) {h : wSt} {x0 : Int32} {x1 : Int32} {x2 : Int32} {x3 : Int32} {x4 : Int32} {K : Int32 → Prop} (hT : ∀ (x : Int32), K x → F (some (.int x)) h) (hf : wok (fX10_gainOf h x0 x1 x2 x3 x4) K) : wM p l e (wR 1) s m args below meth c 0 0 (wE below args s D dA b0 ad S0 F) 5 D dA b0 ad S0 0 [some (.int x0), some (.int x1), some (.int x2), some (.int x3), some (.int x4)] [] h := by
  unfold fX10_gainOf at hf
  refine w_iload_n X dX10_gainOf_0 rfl rfl rfl ?_
  refine w_if_eq X dX10_gainOf_1 rfl (t := 15) rfl (fun hc => ?_) (fun hc => ?_)
  · have hf := wok_t hf hc
    refine w_iload_n X dX10_gainOf_15 rfl rfl rfl ?_
    refine w_if_eq X dX10_gainOf_16 rfl (t := 24) rfl (fun hc => ?_) (fun hc => ?_)
    · have hf := wok_t hf hc
      refine w_iconst X dX10_gainOf_24 rfl ci_0 ?_
      exact w_iret X dX10_gainOf_25 hr (hT _ (wok_s hf))
    · have hf := wok_f hf hc
      refine w_iload X dX10_gainOf_19 rfl rfl ?_
      refine w_goto X dX10_gainOf_21 (t := 25) rfl ?_
      exact w_iret X dX10_gainOf_25 hr (hT _ (wok_s hf))
  · have hf := wok_f hf hc
    refine w_iload_n X dX10_gainOf_4 rfl rfl rfl ?_
    refine w_if_eq X dX10_gainOf_5 rfl (t := 13) rfl (fun hc => ?_) (fun hc => ?_)
    · have hf := wok_t hf hc
      refine w_iload_n X dX10_gainOf_13 rfl rfl rfl ?_
      exact w_iret X dX10_gainOf_14 hr (hT _ (wok_s hf))
    · have hf := wok_f hf hc
      refine w_iload_n X dX10_gainOf_8 rfl rfl rfl ?_
      refine w_ineg X dX10_gainOf_9 rfl ?_
      refine w_goto X dX10_gainOf_10 (t := 14) rfl ?_
      exact w_iret X dX10_gainOf_14 hr (hT _ (wok_s hf))
set_option maxRecDepth 4000 in
theorem kX10_gainOf (l : Launch) {h : wSt} {x0 : Int32} {x1 : Int32} {x2 : Int32} {x3 : Int32} {x4 : Int32} {res : Int32} (hf : fX10_gainOf h x0 x1 x2 x3 x4 = some res) : wC l yX10_gainOf cX10_gainOf 5 (some .int) 1 S0 [.int x0, .int x1, .int x2, .int x3, .int x4] h (wFI (fun a b => res = a ∧ h = b)) := by
  refine w_meth2 0 (by decide) (Nat.le_of_ble_eq_true rfl) (ls := [some (.int x0), some (.int x1), some (.int x2), some (.int x3), some (.int x4)]) rfl ?_
  intro p e s m args below meth c D dA b0 ad X hr
  exact pX10_gainOf_b0 X hr  (K := fun z => res = z) (fun x hz => ⟨x, rfl, hz, rfl⟩) ⟨res, hf, rfl⟩
set_option maxRecDepth 4000 in
theorem pX10_isContent_b18 (X : wCx p s m args meth c RX10 cX10_isContent 5 D dA b0 ad) (hr : meth.sig.returnType = (some .boolean)) {h : wSt} {v1 : Int32} {v2 : Int32} {v3 : Int32} {v4 : Int32} {w0 : Int32} {w1 : Int32} {K : Bool → Prop} (hT : ∀ (x : Bool), K x → F (some (.int (wb x))) h)  (hf : wok (fX10_isContent_b18 h v1 v2 v3 v4 w0 w1) K) : wM p l e (wR 2) s m args below meth c 0 0 (wE below args s D dA b0 ad S0 F) 5 D dA b0 ad S0 18 [none, some (.int v1), some (.int v2), some (.int v3), some (.int v4)] [.int w1, .int w0] h := by
  unfold fX10_isContent_b18 at hf
  refine w_iload_n X dX10_isContent_18 rfl rfl rfl ?_
  refine w_iload_n X dX10_isContent_19 rfl rfl rfl ?_
  refine w_iload_n X dX10_isContent_20 rfl rfl rfl ?_
  refine w_iload X dX10_isContent_21 rfl rfl ?_
  obtain ⟨yr22, eyr22, hf⟩ := wok_b hf
  refine w_callS X dX10_isContent_23 rfl sl_X10_300 (kX10_gainOf l  eyr22) (As := [.int w1, .int v1, .int v2, .int v3, .int v4]) (st := [.int w0]) rfl rfl (Nat.le_of_ble_eq_true rfl) ⟨Nat.le_of_ble_eq_true rfl, Nat.le_of_ble_eq_true rfl⟩ ⟨Nat.zero_le _, Nat.zero_le _⟩ (fun r h2 hF => ?_)
  obtain ⟨_, rfl, rfl, rfl⟩ := hF
  show wM p l e (wR 2) s m args below meth c 0 0 (wE below args s D dA b0 ad S0 F) 5 D dA b0 ad S0 26 [none, some (.int v1), some (.int v2), some (.int v3), some (.int v4)] [.int yr22, .int w0] h
  refine w_icmp_lt X dX10_isContent_26 rfl (t := 33) rfl (fun hc => ?_) (fun hc => ?_)
  · have hf := wok_t hf hc
    refine w_iconst X dX10_isContent_33 rfl ci_0 ?_
    exact w_zret X dX10_isContent_34 hr rfl (hT false (wok_s hf))
  · have hf := wok_f hf hc
    refine w_iconst X dX10_isContent_29 rfl ci_1 ?_
    refine w_goto X dX10_isContent_30 (t := 34) rfl ?_
    exact w_zret X dX10_isContent_34 hr rfl (hT true (wok_s hf))
set_option maxRecDepth 4000 in
theorem pX10_isContent_b0 (X : wCx p s m args meth c RX10 cX10_isContent 5 D dA b0 ad) (hr : meth.sig.returnType = (some .boolean)) {h : wSt} {x0 : Int32} {x1 : Int32} {x2 : Int32} {x3 : Int32} {x4 : Int32} {K : Bool → Prop} (hT : ∀ (x : Bool), K x → F (some (.int (wb x))) h) (hf : wok (fX10_isContent h x0 x1 x2 x3 x4) K) : wM p l e (wR 2) s m args below meth c 0 0 (wE below args s D dA b0 ad S0 F) 5 D dA b0 ad S0 0 [some (.int x0), some (.int x1), some (.int x2), some (.int x3), some (.int x4)] [] h := by
  unfold fX10_isContent at hf
  refine w_iload_n X dX10_isContent_0 rfl rfl rfl ?_
  refine w_iload_n X dX10_isContent_1 rfl rfl rfl ?_
  refine w_iload_n X dX10_isContent_2 rfl rfl rfl ?_
  refine w_iload_n X dX10_isContent_3 rfl rfl rfl ?_
  refine w_iload X dX10_isContent_4 rfl rfl ?_
  obtain ⟨yr21, eyr21, hf⟩ := wok_b hf
  refine w_callS X dX10_isContent_6 rfl sl_X10_300 (kX10_gainOf l  eyr21) (As := [.int x0, .int x1, .int x2, .int x3, .int x4]) (st := []) rfl rfl (Nat.le_of_ble_eq_true rfl) ⟨Nat.le_of_ble_eq_true rfl, Nat.le_of_ble_eq_true rfl⟩ ⟨Nat.zero_le _, Nat.zero_le _⟩ (fun r h2 hF => ?_)
  obtain ⟨_, rfl, rfl, rfl⟩ := hF
  show wM p l e (wR 2) s m args below meth c 0 0 (wE below args s D dA b0 ad S0 F) 5 D dA b0 ad S0 9 [some (.int x0), some (.int x1), some (.int x2), some (.int x3), some (.int x4)] [.int yr21] h
  refine w_iload_n X dX10_isContent_9 rfl rfl rfl ?_
  refine w_if_ne X dX10_isContent_10 rfl (t := 17) rfl (fun hc => ?_) (fun hc => ?_)
  · have hf := wok_f hf hc
    refine w_iconst X dX10_isContent_17 rfl ci_0 ?_
    refine w_fg (ls2 := [none, some (.int x1), some (.int x2), some (.int x3), some (.int x4)]) ⟨rfl, rfl, rfl, rfl, trivial⟩ ?_
    exact pX10_isContent_b18 X hr  hT hf
  · have hf := wok_t hf hc
    refine w_iconst X dX10_isContent_13 rfl ci_1 ?_
    refine w_goto X dX10_isContent_14 (t := 18) rfl ?_
    refine w_fg (ls2 := [none, some (.int x1), some (.int x2), some (.int x3), some (.int x4)]) ⟨rfl, rfl, rfl, rfl, trivial⟩ ?_
    exact pX10_isContent_b18 X hr  hT hf
set_option maxRecDepth 4000 in
theorem kX10_isContent (l : Launch) {h : wSt} {x0 : Int32} {x1 : Int32} {x2 : Int32} {x3 : Int32} {x4 : Int32} {res : Bool} (hf : fX10_isContent h x0 x1 x2 x3 x4 = some res) : wC l yX10_isContent cX10_isContent 5 (some .boolean) 2 S0 [.int x0, .int x1, .int x2, .int x3, .int x4] h (wFZ (fun a b => res = a ∧ h = b)) := by
  refine w_meth2 0 (by decide) (Nat.le_of_ble_eq_true rfl) (ls := [some (.int x0), some (.int x1), some (.int x2), some (.int x3), some (.int x4)]) rfl ?_
  intro p e s m args below meth c D dA b0 ad X hr
  exact pX10_isContent_b0 X hr  (K := fun z => res = z) (fun x hz => ⟨x, rfl, hz, rfl⟩) ⟨res, hf, rfl⟩
set_option maxRecDepth 4000 in
theorem pX10_years_b101_58 (X : wCx p s m args meth c RX10 cX10_years 6 D dA b0 ad) (hr : meth.sig.returnType = (some .int)) {h : wSt} {v2 : Int32} {v3 : Int32} {v4 : Int32} {v5 : Int32} {K : (Int32 × Int32 × wSt) ⊕ ((Int32 × wSt)) → Prop} (hN : ∀ (n4 : Int32) (n5 : Int32) (nh : wSt), K (.inl (n4, n5, nh)) → wM p l e (wR 6) s m args below meth c 0 0 (wE below args s D dA b0 ad S0 F) 6 D dA b0 ad S0 58 [some (.ref 0), none, some (.int v2), some (.int v3), some (.int n4), some (.int n5)] [] nh) (hX0 : ∀ (n4 : Int32) (nh : wSt), K (.inr (n4, nh)) → wM p l e (wR 6) s m args below meth c 0 0 (wE below args s D dA b0 ad S0 F) 6 D dA b0 ad S0 120 [some (.ref 0), none, none, some (.int v3), some (.int n4), none] [] nh) (hf : wok (fX10_years_b101_58 h v2 v3 v4 v5) K) : wM p l e (wR 6) s m args below meth c 0 0 (wE below args s D dA b0 ad S0 F) 6 D dA b0 ad S0 101 [some (.ref 0), none, some (.int v2), some (.int v3), some (.int v4), some (.int v5)] [] h := by
  unfold fX10_years_b101_58 at hf
  refine w_aload_n X dX10_years_101 rfl rfl rfl ?_
  refine w_getR X dX10_years_102 rfl fl_X10_35 S0_0 rfl ?_
  refine w_dup X dX10_years_105 rfl rfl ?_
  refine w_getI X dX10_years_106 rfl fl_X10_195 S0_34 rfl ?_
  refine w_iconst X dX10_years_109 rfl ci_1 ?_
  refine w_iadd X dX10_years_110 rfl ?_
  refine w_putI X dX10_years_111 rfl fp_X10_195 S0_34 rfl ?_
  refine w_nmh (fun yh23 eyh23 => ?_)
  have hf := wok_l hf eyh23
  refine w_iinc X dX10_years_114 rfl (v := (v5 + 1)) rfl rfl (Nat.le_of_ble_eq_true rfl) (cinc_1 _) (ls' := [some (.ref 0), none, some (.int v2), some (.int v3), some (.int v4), some (.int (v5 + 1))]) rfl ?_
  refine w_goto X dX10_years_117 (t := 58) rfl ?_
  exact hN _ _ _ (wok_s hf)
set_option maxRecDepth 4000 in
theorem pX10_years_l58b (X : wCx p s m args meth c RX10 cX10_years 6 D dA b0 ad) (hr : meth.sig.returnType = (some .int)) {h : wSt} {v2 : Int32} {v3 : Int32} {v4 : Int32} {v5 : Int32} {K : (Int32 × Int32 × wSt) ⊕ ((Int32 × wSt)) → Prop} (hN : ∀ (n4 : Int32) (n5 : Int32) (nh : wSt), K (.inl (n4, n5, nh)) → wM p l e (wR 6) s m args below meth c 0 0 (wE below args s D dA b0 ad S0 F) 6 D dA b0 ad S0 58 [some (.ref 0), none, some (.int v2), some (.int v3), some (.int n4), some (.int n5)] [] nh) (hX0 : ∀ (n4 : Int32) (nh : wSt), K (.inr (n4, nh)) → wM p l e (wR 6) s m args below meth c 0 0 (wE below args s D dA b0 ad S0 F) 6 D dA b0 ad S0 120 [some (.ref 0), none, none, some (.int v3), some (.int n4), none] [] nh) (hf : wok (fX10_years_l58 h v2 v3 v4 v5) K) : wM p l e (wR 6) s m args below meth c 0 0 (wE below args s D dA b0 ad S0 F) 6 D dA b0 ad S0 58 [some (.ref 0), none, some (.int v2), some (.int v3), some (.int v4), some (.int v5)] [] h := by
  unfold fX10_years_l58 at hf
  refine w_iload X dX10_years_58 rfl rfl ?_
  refine w_iload_n X dX10_years_60 rfl rfl rfl ?_
  refine w_icmp_ge X dX10_years_61 rfl (t := 120) rfl (fun hc => ?_) (fun hc => ?_)
  · have hf := wok_t hf hc
    refine w_fg (ls2 := [some (.ref 0), none, none, some (.int v3), some (.int v4), none]) ⟨rfl, rfl, rfl, trivial⟩ ?_
    exact hX0 _ _ (wok_s hf)
  · have hf := wok_f hf hc
    refine w_aload_n X dX10_years_64 rfl rfl rfl ?_
    refine w_getR X dX10_years_65 rfl fl_X10_19 S0_0 rfl ?_
    refine w_getI X dX10_years_68 rfl fl_X10_278 S0_3 rfl ?_
    refine w_if_le X dX10_years_71 rfl (t := 101) rfl (fun hc => ?_) (fun hc => ?_)
    · have hf := wok_t hf hc
      exact pX10_years_b101_58 X hr  hN hX0 hf
    · have hf := wok_f hf hc
      refine w_aload_n X dX10_years_74 rfl rfl rfl ?_
      refine w_getR X dX10_years_75 rfl fl_X10_19 S0_0 rfl ?_
      refine w_getI X dX10_years_78 rfl fl_X10_268 S0_3 rfl ?_
      refine w_if_le X dX10_years_81 rfl (t := 101) rfl (fun hc => ?_) (fun hc => ?_)
      · have hf := wok_t hf hc
        exact pX10_years_b101_58 X hr  hN hX0 hf
      · have hf := wok_f hf hc
        refine w_aload_n X dX10_years_84 rfl rfl rfl ?_
        refine w_getR X dX10_years_85 rfl fl_X10_35 S0_0 rfl ?_
        refine w_aload_n X dX10_years_88 rfl rfl rfl ?_
        refine w_getR X dX10_years_89 rfl fl_X10_72 S0_0 rfl ?_
        obtain ⟨yr24, eyr24, hf⟩ := wok_b hf
        refine w_callV X dX10_years_92 rfl vl_X10_307 (kX6_liveByDraws l in_34 eyr24) S0_34 (As := [.ref 134]) (st := []) rfl rfl (Nat.le_of_ble_eq_true rfl) ⟨Nat.le_of_ble_eq_true rfl, Nat.le_of_ble_eq_true rfl⟩ ⟨Nat.zero_le _, Nat.zero_le _⟩ (fun r h2 hF => ?_)
        obtain ⟨_, rfl, rfl, rfl⟩ := hF
        show wM p l e (wR 6) s m args below meth c 0 0 (wE below args s D dA b0 ad S0 F) 6 D dA b0 ad S0 95 [some (.ref 0), none, some (.int v2), some (.int v3), some (.int v4), some (.int v5)] [.int (wb yr24.1)] yr24.2
        refine w_if_eq X dX10_years_95 rfl (t := 101) rfl (fun hc => ?_) (fun hc => ?_)
        · have hf := wok_f hf (wb_0 hc)
          exact pX10_years_b101_58 X hr  hN hX0 hf
        · have hf := wok_t hf (wb_n0 hc)
          refine w_iinc X dX10_years_98 rfl (v := (v4 + 1)) rfl rfl (Nat.le_of_ble_eq_true rfl) (cinc_1 _) (ls' := [some (.ref 0), none, some (.int v2), some (.int v3), some (.int (v4 + 1)), some (.int v5)]) rfl ?_
          exact pX10_years_b101_58 X hr  hN hX0 hf
set_option maxRecDepth 4000 in
theorem pX10_years_l58 (X : wCx p s m args meth c RX10 cX10_years 6 D dA b0 ad) (hr : meth.sig.returnType = (some .int))  {v2 : Int32} {v3 : Int32} {KE : (Int32 × wSt) → Prop} (hX0 : ∀ (n4 : Int32) (nh : wSt), KE ((n4, nh)) → wM p l e (wR 6) s m args below meth c 0 0 (wE below args s D dA b0 ad S0 F) 6 D dA b0 ad S0 120 [some (.ref 0), none, none, some (.int v3), some (.int n4), none] [] nh) : ∀ (n : Nat) (v4 : Int32) (v5 : Int32) (h : wSt), wok (wit (fun v : (Int32 × Int32 × wSt) => fX10_years_l58 v.2.2 v2 v3 v.1 v.2.1) n (v4, v5, h)) KE → wM p l e (wR 6) s m args below meth c 0 0 (wE below args s D dA b0 ad S0 F) 6 D dA b0 ad S0 58 [some (.ref 0), none, some (.int v2), some (.int v3), some (.int v4), some (.int v5)] [] h := by
  have key := wit_M (b := (fun v : (Int32 × Int32 × wSt) => fX10_years_l58 v.2.2 v2 v3 v.1 v.2.1)) (KE := KE) (G := fun v => wM p l e (wR 6) s m args below meth c 0 0 (wE below args s D dA b0 ad S0 F) 6 D dA b0 ad S0 58 [some (.ref 0), none, some (.int v2), some (.int v3), some (.int v.1), some (.int v.2.1)] [] v.2.2) (fun v K hN hE hf => pX10_years_l58b X hr  (fun n4 n5 nh hz => hN (n4, n5, nh) hz) (fun z0 z1 hz => hX0 z0 z1 (hE _ hz)) hf)
  exact fun n v4 v5 h hf => key n (v4, v5, h) hf
set_option maxRecDepth 4000 in
theorem pX10_years_b0 (X : wCx p s m args meth c RX10 cX10_years 6 D dA b0 ad) (hr : meth.sig.returnType = (some .int)) {h : wSt} {x0 : Int32} {x1 : Int32} {x2 : Int32} {K : Int32 × wSt → Prop} (hT : ∀ (x : Int32) (h2 : wSt), K (x, h2) → F (some (.int x)) h2) (hf : wok (fX10_years h x0 x1 x2) K) : wM p l e (wR 6) s m args below meth c 0 0 (wE below args s D dA b0 ad S0 F) 6 D dA b0 ad S0 0 [some (.ref 0), some (.int x0), some (.int x1), some (.int x2), none, none] [] h := by
  unfold fX10_years at hf
  refine w_iload_n X dX10_years_0 rfl rfl rfl ?_
  refine w_if_lt X dX10_years_1 rfl (t := 31) rfl (fun hc => ?_) (fun hc => ?_)
  · have hf := wok_t hf hc
    refine w_iconst X dX10_years_31 rfl ci_m1 ?_
    exact w_iret X dX10_years_32 hr (hT _ _ (wok_s hf))
  · have hf := wok_f hf hc
    refine w_iload_n X dX10_years_4 rfl rfl rfl ?_
    refine w_sipush X dX10_years_5 rfl cs_9999 ?_
    refine w_icmp_gt X dX10_years_8 rfl (t := 31) rfl (fun hc => ?_) (fun hc => ?_)
    · have hf := wok_t hf hc
      refine w_iconst X dX10_years_31 rfl ci_m1 ?_
      exact w_iret X dX10_years_32 hr (hT _ _ (wok_s hf))
    · have hf := wok_f hf hc
      refine w_iload_n X dX10_years_11 rfl rfl rfl ?_
      refine w_iconst X dX10_years_12 rfl ci_1 ?_
      refine w_icmp_lt X dX10_years_13 rfl (t := 31) rfl (fun hc => ?_) (fun hc => ?_)
      · have hf := wok_t hf hc
        refine w_iconst X dX10_years_31 rfl ci_m1 ?_
        exact w_iret X dX10_years_32 hr (hT _ _ (wok_s hf))
      · have hf := wok_f hf hc
        refine w_iload_n X dX10_years_16 rfl rfl rfl ?_
        refine w_bipush X dX10_years_17 rfl cb_99 ?_
        refine w_icmp_gt X dX10_years_19 rfl (t := 31) rfl (fun hc => ?_) (fun hc => ?_)
        · have hf := wok_t hf hc
          refine w_iconst X dX10_years_31 rfl ci_m1 ?_
          exact w_iret X dX10_years_32 hr (hT _ _ (wok_s hf))
        · have hf := wok_f hf hc
          refine w_iload_n X dX10_years_22 rfl rfl rfl ?_
          refine w_if_lt X dX10_years_23 rfl (t := 31) rfl (fun hc => ?_) (fun hc => ?_)
          · have hf := wok_t hf hc
            refine w_iconst X dX10_years_31 rfl ci_m1 ?_
            exact w_iret X dX10_years_32 hr (hT _ _ (wok_s hf))
          · have hf := wok_f hf hc
            refine w_iload_n X dX10_years_26 rfl rfl rfl ?_
            refine w_iconst X dX10_years_27 rfl ci_2 ?_
            refine w_icmp_le X dX10_years_28 rfl (t := 33) rfl (fun hc => ?_) (fun hc => ?_)
            · have hf := wok_t hf hc
              refine w_aload_n X dX10_years_33 rfl rfl rfl ?_
              refine w_getR X dX10_years_34 rfl fl_X10_35 S0_0 rfl ?_
              refine w_aload_n X dX10_years_37 rfl rfl rfl ?_
              refine w_getR X dX10_years_38 rfl fl_X10_31 S0_0 rfl ?_
              obtain ⟨yr21, eyr21, hf⟩ := wok_b hf
              refine w_callV X dX10_years_41 rfl vl_X10_247 (kX6_copyFrom l in_34 in_29 eyr21) S0_34 (As := [.ref 29]) (st := []) rfl rfl (Nat.le_of_ble_eq_true rfl) ⟨Nat.le_of_ble_eq_true rfl, Nat.le_of_ble_eq_true rfl⟩ ⟨Nat.zero_le _, Nat.zero_le _⟩ (fun r h2 hF => ?_)
              obtain ⟨rfl, rfl⟩ := hF
              show wM p l e (wR 6) s m args below meth c 0 0 (wE below args s D dA b0 ad S0 F) 6 D dA b0 ad S0 44 [some (.ref 0), some (.int x0), some (.int x1), some (.int x2), none, none] [] yr21
              refine w_aload_n X dX10_years_44 rfl rfl rfl ?_
              refine w_getR X dX10_years_45 rfl fl_X10_72 S0_0 rfl ?_
              refine w_iload_n X dX10_years_48 rfl rfl rfl ?_
              obtain ⟨yr22, eyr22, hf⟩ := wok_b hf
              refine w_callV X dX10_years_49 rfl vl_X10_304 (kX1_start l  eyr22) S0_134 (As := [.int x0]) (st := []) rfl rfl (Nat.le_of_ble_eq_true rfl) ⟨Nat.le_of_ble_eq_true rfl, Nat.le_of_ble_eq_true rfl⟩ ⟨Nat.zero_le _, Nat.zero_le _⟩ (fun r h2 hF => ?_)
              obtain ⟨rfl, rfl⟩ := hF
              show wM p l e (wR 6) s m args below meth c 0 0 (wE below args s D dA b0 ad S0 F) 6 D dA b0 ad S0 52 [some (.ref 0), some (.int x0), some (.int x1), some (.int x2), none, none] [] yr22
              refine w_iconst X dX10_years_52 rfl ci_0 ?_
              refine w_istore X dX10_years_53 rfl rfl (Nat.le_of_ble_eq_true rfl) (ls' := [some (.ref 0), some (.int x0), some (.int x1), some (.int x2), some (.int 0), none]) rfl ?_
              refine w_iconst X dX10_years_55 rfl ci_0 ?_
              refine w_istore X dX10_years_56 rfl rfl (Nat.le_of_ble_eq_true rfl) (ls' := [some (.ref 0), some (.int x0), some (.int x1), some (.int x2), some (.int 0), some (.int 0)]) rfl ?_
              refine w_fg (ls2 := [some (.ref 0), none, some (.int x1), some (.int x2), some (.int 0), some (.int 0)]) ⟨rfl, rfl, rfl, rfl, rfl, trivial⟩ ?_
              obtain ⟨ye25, hye25, hf⟩ := wok_b hf
              refine pX10_years_l58 X hr  (KE := fun z => ye25 = z) ?_ 3000 _ _ _ ⟨ye25, hye25, rfl⟩
              · intro yz26 yz27 hz
                subst hz
                refine w_iload_n X dX10_years_120 rfl rfl rfl ?_
                refine w_if_ne X dX10_years_121 rfl (t := 127) rfl (fun hc => ?_) (fun hc => ?_)
                · have hf := wok_f hf hc
                  refine w_iload_n X dX10_years_127 rfl rfl rfl ?_
                  refine w_iconst X dX10_years_128 rfl ci_1 ?_
                  refine w_icmp_ne X dX10_years_129 rfl (t := 149) rfl (fun hc => ?_) (fun hc => ?_)
                  · have hf := wok_f hf hc
                    refine w_aload_n X dX10_years_149 rfl rfl rfl ?_
                    refine w_getR X dX10_years_150 rfl fl_X10_35 S0_0 rfl ?_
                    obtain ⟨yr28, eyr28, hf⟩ := wok_b hf
                    refine w_callV X dX10_years_153 rfl vl_X10_311 (kX6_thickTogether l in_34 eyr28) S0_34 (As := []) (st := []) rfl rfl (Nat.le_of_ble_eq_true rfl) ⟨Nat.le_of_ble_eq_true rfl, Nat.le_of_ble_eq_true rfl⟩ ⟨Nat.zero_le _, Nat.zero_le _⟩ (fun r h2 hF => ?_)
                    obtain ⟨_, rfl, rfl, rfl⟩ := hF
                    show wM p l e (wR 6) s m args below meth c 0 0 (wE below args s D dA b0 ad S0 F) 6 D dA b0 ad S0 156 [some (.ref 0), none, none, some (.int x2), some (.int yz26), none] [.int yr28] yz27
                    exact w_iret X dX10_years_156 hr (hT _ _ (wok_s hf))
                  · have hf := wok_t hf hc
                    refine w_aload_n X dX10_years_132 rfl rfl rfl ?_
                    refine w_getR X dX10_years_133 rfl fl_X10_35 S0_0 rfl ?_
                    refine w_aload_n X dX10_years_136 rfl rfl rfl ?_
                    refine w_getR X dX10_years_137 rfl fl_X10_35 S0_0 rfl ?_
                    obtain ⟨yr29, eyr29, hf⟩ := wok_b hf
                    refine w_callV X dX10_years_140 rfl vl_X10_134 (kX6_damp l in_34 eyr29) S0_34 (As := []) (st := [.ref 34]) rfl rfl (Nat.le_of_ble_eq_true rfl) ⟨Nat.le_of_ble_eq_true rfl, Nat.le_of_ble_eq_true rfl⟩ ⟨Nat.zero_le _, Nat.zero_le _⟩ (fun r h2 hF => ?_)
                    obtain ⟨_, rfl, rfl, rfl⟩ := hF
                    show wM p l e (wR 6) s m args below meth c 0 0 (wE below args s D dA b0 ad S0 F) 6 D dA b0 ad S0 143 [some (.ref 0), none, none, some (.int x2), some (.int yz26), none] [.int yr29, .ref 34] yz27
                    obtain ⟨yr30, eyr30, hf⟩ := wok_b hf
                    refine w_callV X dX10_years_143 rfl vl_X10_212 (kX6_wholeTexts l in_34 eyr30) S0_34 (As := [.int yr29]) (st := []) rfl rfl (Nat.le_of_ble_eq_true rfl) ⟨Nat.le_of_ble_eq_true rfl, Nat.le_of_ble_eq_true rfl⟩ ⟨Nat.zero_le _, Nat.zero_le _⟩ (fun r h2 hF => ?_)
                    obtain ⟨_, rfl, rfl, rfl⟩ := hF
                    show wM p l e (wR 6) s m args below meth c 0 0 (wE below args s D dA b0 ad S0 F) 6 D dA b0 ad S0 146 [some (.ref 0), none, none, some (.int x2), some (.int yz26), none] [.int yr30.1] yr30.2
                    refine w_goto X dX10_years_146 (t := 156) rfl ?_
                    exact w_iret X dX10_years_156 hr (hT _ _ (wok_s hf))
                · have hf := wok_t hf hc
                  refine w_iload X dX10_years_124 rfl rfl ?_
                  exact w_iret X dX10_years_126 hr (hT _ _ (wok_s hf))
            · have hf := wok_f hf hc
              refine w_iconst X dX10_years_31 rfl ci_m1 ?_
              exact w_iret X dX10_years_32 hr (hT _ _ (wok_s hf))
set_option maxRecDepth 4000 in
theorem kX10_years (l : Launch) {h : wSt} {x0 : Int32} {x1 : Int32} {x2 : Int32} {res : Int32 × wSt} (hf : fX10_years h x0 x1 x2 = some res) : wC l yX10_years cX10_years 6 (some .int) 6 S0 [.ref 0, .int x0, .int x1, .int x2] h (wFI (fun a b => res.1 = a ∧ res.2 = b)) := by
  refine w_meth2 2 (by decide) (Nat.le_of_ble_eq_true rfl) (ls := [some (.ref 0), some (.int x0), some (.int x1), some (.int x2), none, none]) rfl ?_
  intro p e s m args below meth c D dA b0 ad X hr
  exact pX10_years_b0 X hr  (K := fun z => res = z) (fun x h2 hz => ⟨x, rfl, by rw [hz], by rw [hz]⟩) ⟨res, hf, rfl⟩
set_option maxRecDepth 4000 in
theorem pX10_mark_b0 (X : wCx p s m args meth c RX10 cX10_mark 4 D dA b0 ad) (hr : meth.sig.returnType = (some .boolean)) {h : wSt} {x0 : Int32} {x1 : Int32} {K : Bool × wSt → Prop} (hT : ∀ (x : Bool) (h2 : wSt), K (x, h2) → F (some (.int (wb x))) h2) (hf : wok (fX10_mark h x0 x1) K) : wM p l e (wR 3) s m args below meth c 0 0 (wE below args s D dA b0 ad S0 F) 4 D dA b0 ad S0 0 [some (.ref 0), some (.int x0), some (.int x1), none] [] h := by
  unfold fX10_mark at hf
  refine w_iload_n X dX10_mark_0 rfl rfl rfl ?_
  refine w_if_lt X dX10_mark_1 rfl (t := 9) rfl (fun hc => ?_) (fun hc => ?_)
  · have hf := wok_t hf hc
    refine w_iconst X dX10_mark_9 rfl ci_0 ?_
    exact w_zret X dX10_mark_10 hr rfl (hT false _ (wok_s hf))
  · have hf := wok_f hf hc
    refine w_iload_n X dX10_mark_4 rfl rfl rfl ?_
    refine w_iconst X dX10_mark_5 rfl ci_4 ?_
    refine w_icmp_lt X dX10_mark_6 rfl (t := 11) rfl (fun hc => ?_) (fun hc => ?_)
    · have hf := wok_t hf hc
      refine w_aload_n X dX10_mark_11 rfl rfl rfl ?_
      refine w_getR X dX10_mark_12 rfl fl_X10_78 S0_0 rfl ?_
      refine w_iload_n X dX10_mark_15 rfl rfl rfl ?_
      obtain ⟨yhg21, hf⟩ := wok_g hf
      refine w_aald4 X dX10_mark_16 rfl S0_135 yhg21 (wrow_135 yhg21) ?_
      refine w_astore_n X dX10_mark_17 rfl rfl rfl (Nat.le_of_ble_eq_true rfl) (ls' := [some (.ref 0), some (.int x0), some (.int x1), some (.ref (136 + 13 * x0.toNatClampNeg))]) rfl ?_
      refine w_iload_n X dX10_mark_18 rfl rfl rfl ?_
      refine w_if_ne X dX10_mark_19 rfl (t := 40) rfl (fun hc => ?_) (fun hc => ?_)
      · have hf := wok_f hf hc
        refine w_aload_n X dX10_mark_40 rfl rfl rfl ?_
        refine w_getI X dX10_mark_41 rfl fl_X10_107 ((win_135 yhg21).1) rfl ?_
        refine w_if_ne X dX10_mark_44 rfl (t := 49) rfl (fun hc => ?_) (fun hc => ?_)
        · have hf := wok_f hf hc
          refine w_aload_n X dX10_mark_49 rfl rfl rfl ?_
          refine w_getR X dX10_mark_50 rfl fl_X10_31 S0_0 rfl ?_
          refine w_aload_n X dX10_mark_53 rfl rfl rfl ?_
          refine w_getR X dX10_mark_54 rfl fl_X10_317 ((win_135 yhg21).1) rfl ?_
          obtain ⟨yr22, eyr22, hf⟩ := wok_b hf
          refine w_callV X dX10_mark_57 rfl vl_X10_247 (kX6_copyFrom l in_29 ((win_135 yhg21).2.2.2) eyr22) S0_29 (As := [.ref ((136 + 13 * x0.toNatClampNeg) + 8)]) (st := []) rfl rfl (Nat.le_of_ble_eq_true rfl) ⟨Nat.le_of_ble_eq_true rfl, Nat.le_of_ble_eq_true rfl⟩ ⟨Nat.zero_le _, Nat.zero_le _⟩ (fun r h2 hF => ?_)
          obtain ⟨rfl, rfl⟩ := hF
          show wM p l e (wR 3) s m args below meth c 0 0 (wE below args s D dA b0 ad S0 F) 4 D dA b0 ad S0 60 [some (.ref 0), some (.int x0), some (.int x1), some (.ref (136 + 13 * x0.toNatClampNeg))] [] yr22
          refine w_aload_n X dX10_mark_60 rfl rfl rfl ?_
          refine w_getR X dX10_mark_61 rfl fl_X10_41 S0_0 rfl ?_
          refine w_aload_n X dX10_mark_64 rfl rfl rfl ?_
          refine w_getR X dX10_mark_65 rfl fl_X10_320 ((win_135 yhg21).1) rfl ?_
          obtain ⟨yr23, eyr23, hf⟩ := wok_b hf
          refine w_callV X dX10_mark_68 rfl vl_X10_114 (kX9_copyFrom l in_39 ((win_135 yhg21).2.1) eyr23) S0_39 (As := [.ref ((136 + 13 * x0.toNatClampNeg) + 1)]) (st := []) rfl rfl (Nat.le_of_ble_eq_true rfl) ⟨Nat.le_of_ble_eq_true rfl, Nat.le_of_ble_eq_true rfl⟩ ⟨Nat.zero_le _, Nat.zero_le _⟩ (fun r h2 hF => ?_)
          obtain ⟨rfl, rfl⟩ := hF
          show wM p l e (wR 3) s m args below meth c 0 0 (wE below args s D dA b0 ad S0 F) 4 D dA b0 ad S0 71 [some (.ref 0), some (.int x0), some (.int x1), some (.ref (136 + 13 * x0.toNatClampNeg))] [] yr23
          refine w_aload_n X dX10_mark_71 rfl rfl rfl ?_
          refine w_getR X dX10_mark_72 rfl fl_X10_51 S0_0 rfl ?_
          refine w_aload_n X dX10_mark_75 rfl rfl rfl ?_
          refine w_getR X dX10_mark_76 rfl fl_X10_321 ((win_135 yhg21).1) rfl ?_
          obtain ⟨yr24, eyr24, hf⟩ := wok_b hf
          refine w_callV X dX10_mark_79 rfl vl_X10_322 (kX5_copyFrom l in_43 ((win_135 yhg21).2.2.1) eyr24) S0_43 (As := [.ref ((136 + 13 * x0.toNatClampNeg) + 3)]) (st := []) rfl rfl (Nat.le_of_ble_eq_true rfl) ⟨Nat.le_of_ble_eq_true rfl, Nat.le_of_ble_eq_true rfl⟩ ⟨Nat.zero_le _, Nat.zero_le _⟩ (fun r h2 hF => ?_)
          obtain ⟨rfl, rfl⟩ := hF
          show wM p l e (wR 3) s m args below meth c 0 0 (wE below args s D dA b0 ad S0 F) 4 D dA b0 ad S0 82 [some (.ref 0), some (.int x0), some (.int x1), some (.ref (136 + 13 * x0.toNatClampNeg))] [] yr24
          refine w_aload_n X dX10_mark_82 rfl rfl rfl ?_
          refine w_getR X dX10_mark_83 rfl fl_X10_58 S0_0 rfl ?_
          obtain ⟨yr25, eyr25, hf⟩ := wok_b hf
          refine w_callV X dX10_mark_86 rfl vl_X10_106 (kX8_clear l  eyr25) S0_48 (As := []) (st := []) rfl rfl (Nat.le_of_ble_eq_true rfl) ⟨Nat.le_of_ble_eq_true rfl, Nat.le_of_ble_eq_true rfl⟩ ⟨Nat.zero_le _, Nat.zero_le _⟩ (fun r h2 hF => ?_)
          obtain ⟨rfl, rfl⟩ := hF
          show wM p l e (wR 3) s m args below meth c 0 0 (wE below args s D dA b0 ad S0 F) 4 D dA b0 ad S0 89 [some (.ref 0), some (.int x0), some (.int x1), some (.ref (136 + 13 * x0.toNatClampNeg))] [] yr25
          refine w_iconst X dX10_mark_89 rfl ci_1 ?_
          exact w_zret X dX10_mark_90 hr rfl (hT true _ (wok_s hf))
        · have hf := wok_t hf hc
          refine w_iconst X dX10_mark_47 rfl ci_0 ?_
          exact w_zret X dX10_mark_48 hr rfl (hT false _ (wok_s hf))
      · have hf := wok_t hf hc
        refine w_aload_n X dX10_mark_22 rfl rfl rfl ?_
        refine w_aload_n X dX10_mark_23 rfl rfl rfl ?_
        refine w_getR X dX10_mark_24 rfl fl_X10_31 S0_0 rfl ?_
        refine w_aload_n X dX10_mark_27 rfl rfl rfl ?_
        refine w_getR X dX10_mark_28 rfl fl_X10_41 S0_0 rfl ?_
        refine w_aload_n X dX10_mark_31 rfl rfl rfl ?_
        refine w_getR X dX10_mark_32 rfl fl_X10_51 S0_0 rfl ?_
        obtain ⟨yr26, eyr26, hf⟩ := wok_b hf
        refine w_callV X dX10_mark_35 rfl vl_X10_314 (kX0_keep l (win_135 yhg21) in_29 in_39 in_43 eyr26) ((win_135 yhg21).1) (As := [.ref 29, .ref 39, .ref 43]) (st := []) rfl rfl (Nat.le_of_ble_eq_true rfl) ⟨Nat.le_of_ble_eq_true rfl, Nat.le_of_ble_eq_true rfl⟩ ⟨Nat.zero_le _, Nat.zero_le _⟩ (fun r h2 hF => ?_)
        obtain ⟨rfl, rfl⟩ := hF
        show wM p l e (wR 3) s m args below meth c 0 0 (wE below args s D dA b0 ad S0 F) 4 D dA b0 ad S0 38 [some (.ref 0), some (.int x0), some (.int x1), some (.ref (136 + 13 * x0.toNatClampNeg))] [] yr26
        refine w_iconst X dX10_mark_38 rfl ci_1 ?_
        exact w_zret X dX10_mark_39 hr rfl (hT true _ (wok_s hf))
    · have hf := wok_f hf hc
      refine w_iconst X dX10_mark_9 rfl ci_0 ?_
      exact w_zret X dX10_mark_10 hr rfl (hT false _ (wok_s hf))
set_option maxRecDepth 4000 in
theorem kX10_mark (l : Launch) {h : wSt} {x0 : Int32} {x1 : Int32} {res : Bool × wSt} (hf : fX10_mark h x0 x1 = some res) : wC l yX10_mark cX10_mark 4 (some .boolean) 3 S0 [.ref 0, .int x0, .int x1] h (wFZ (fun a b => res.1 = a ∧ res.2 = b)) := by
  refine w_meth2 1 (by decide) (Nat.le_of_ble_eq_true rfl) (ls := [some (.ref 0), some (.int x0), some (.int x1), none]) rfl ?_
  intro p e s m args below meth c D dA b0 ad X hr
  exact pX10_mark_b0 X hr  (K := fun z => res = z) (fun x h2 hz => ⟨x, rfl, by rw [hz], by rw [hz]⟩) ⟨res, hf, rfl⟩
set_option maxRecDepth 4000 in
theorem pX10_count_b0 (X : wCx p s m args meth c RX10 cX10_count 2 D dA b0 ad) (hr : meth.sig.returnType = (some .int)) {h : wSt} {x0 : Int32} {K : Int32 × wSt → Prop} (hT : ∀ (x : Int32) (h2 : wSt), K (x, h2) → F (some (.int x)) h2) (hf : wok (fX10_count h x0) K) : wM p l e (wR 6) s m args below meth c 0 0 (wE below args s D dA b0 ad S0 F) 2 D dA b0 ad S0 0 [some (.ref 0), some (.int x0)] [] h := by
  unfold fX10_count at hf
  refine w_iload_n X dX10_count_0 rfl rfl rfl ?_
  by_cases yhs21 : x0 = 0
  · have hf := wok_t hf yhs21
    refine w_swIn X dX10_count_1 (t := 64) (off := 63) rfl (by rw [yhs21]; decide) (by rw [yhs21]; decide) (by rw [yhs21]; rfl) ?_
    refine w_aload_n X dX10_count_64 rfl rfl rfl ?_
    refine w_getR X dX10_count_65 rfl fl_X10_19 S0_0 rfl ?_
    refine w_getI X dX10_count_68 rfl fl_X10_268 S0_3 rfl ?_
    exact w_iret X dX10_count_71 hr (hT _ _ (wok_s hf))
  have hf := wok_f hf yhs21
  by_cases yhs22 : x0 = 1
  · have hf := wok_t hf yhs22
    refine w_swIn X dX10_count_1 (t := 72) (off := 71) rfl (by rw [yhs22]; decide) (by rw [yhs22]; decide) (by rw [yhs22]; rfl) ?_
    refine w_aload_n X dX10_count_72 rfl rfl rfl ?_
    refine w_getR X dX10_count_73 rfl fl_X10_19 S0_0 rfl ?_
    refine w_getI X dX10_count_76 rfl fl_X10_278 S0_3 rfl ?_
    exact w_iret X dX10_count_79 hr (hT _ _ (wok_s hf))
  have hf := wok_f hf yhs22
  by_cases yhs23 : x0 = 2
  · have hf := wok_t hf yhs23
    refine w_swIn X dX10_count_1 (t := 80) (off := 79) rfl (by rw [yhs23]; decide) (by rw [yhs23]; decide) (by rw [yhs23]; rfl) ?_
    refine w_aload_n X dX10_count_80 rfl rfl rfl ?_
    refine w_getR X dX10_count_81 rfl fl_X10_31 S0_0 rfl ?_
    refine w_getI X dX10_count_84 rfl fl_X10_195 S0_29 rfl ?_
    exact w_iret X dX10_count_87 hr (hT _ _ (wok_s hf))
  have hf := wok_f hf yhs23
  by_cases yhs24 : x0 = 3
  · have hf := wok_t hf yhs24
    refine w_swIn X dX10_count_1 (t := 88) (off := 87) rfl (by rw [yhs24]; decide) (by rw [yhs24]; decide) (by rw [yhs24]; rfl) ?_
    refine w_aload_n X dX10_count_88 rfl rfl rfl ?_
    refine w_getR X dX10_count_89 rfl fl_X10_31 S0_0 rfl ?_
    obtain ⟨yr25, eyr25, hf⟩ := wok_b hf
    refine w_callV X dX10_count_92 rfl vl_X10_134 (kX6_damp l in_29 eyr25) S0_29 (As := []) (st := []) rfl rfl (Nat.le_of_ble_eq_true rfl) ⟨Nat.le_of_ble_eq_true rfl, Nat.le_of_ble_eq_true rfl⟩ ⟨Nat.zero_le _, Nat.zero_le _⟩ (fun r h2 hF => ?_)
    obtain ⟨_, rfl, rfl, rfl⟩ := hF
    show wM p l e (wR 6) s m args below meth c 0 0 (wE below args s D dA b0 ad S0 F) 2 D dA b0 ad S0 95 [some (.ref 0), some (.int x0)] [.int yr25] h
    exact w_iret X dX10_count_95 hr (hT _ _ (wok_s hf))
  have hf := wok_f hf yhs24
  by_cases yhs26 : x0 = 4
  · have hf := wok_t hf yhs26
    refine w_swIn X dX10_count_1 (t := 96) (off := 95) rfl (by rw [yhs26]; decide) (by rw [yhs26]; decide) (by rw [yhs26]; rfl) ?_
    refine w_aload_n X dX10_count_96 rfl rfl rfl ?_
    refine w_getR X dX10_count_97 rfl fl_X10_31 S0_0 rfl ?_
    obtain ⟨yr27, eyr27, hf⟩ := wok_b hf
    refine w_callV X dX10_count_100 rfl vl_X10_311 (kX6_thickTogether l in_29 eyr27) S0_29 (As := []) (st := []) rfl rfl (Nat.le_of_ble_eq_true rfl) ⟨Nat.le_of_ble_eq_true rfl, Nat.le_of_ble_eq_true rfl⟩ ⟨Nat.zero_le _, Nat.zero_le _⟩ (fun r h2 hF => ?_)
    obtain ⟨_, rfl, rfl, rfl⟩ := hF
    show wM p l e (wR 6) s m args below meth c 0 0 (wE below args s D dA b0 ad S0 F) 2 D dA b0 ad S0 103 [some (.ref 0), some (.int x0)] [.int yr27] h
    exact w_iret X dX10_count_103 hr (hT _ _ (wok_s hf))
  have hf := wok_f hf yhs26
  by_cases yhs28 : x0 = 5
  · have hf := wok_t hf yhs28
    refine w_swIn X dX10_count_1 (t := 104) (off := 103) rfl (by rw [yhs28]; decide) (by rw [yhs28]; decide) (by rw [yhs28]; rfl) ?_
    refine w_aload_n X dX10_count_104 rfl rfl rfl ?_
    refine w_getR X dX10_count_105 rfl fl_X10_31 S0_0 rfl ?_
    obtain ⟨yr29, eyr29, hf⟩ := wok_b hf
    refine w_callV X dX10_count_108 rfl vl_X10_205 (kX6_goneSkins l in_29 eyr29) S0_29 (As := []) (st := []) rfl rfl (Nat.le_of_ble_eq_true rfl) ⟨Nat.le_of_ble_eq_true rfl, Nat.le_of_ble_eq_true rfl⟩ ⟨Nat.zero_le _, Nat.zero_le _⟩ (fun r h2 hF => ?_)
    obtain ⟨_, rfl, rfl, rfl⟩ := hF
    show wM p l e (wR 6) s m args below meth c 0 0 (wE below args s D dA b0 ad S0 F) 2 D dA b0 ad S0 111 [some (.ref 0), some (.int x0)] [.int yr29] h
    exact w_iret X dX10_count_111 hr (hT _ _ (wok_s hf))
  have hf := wok_f hf yhs28
  by_cases yhs30 : x0 = 6
  · have hf := wok_t hf yhs30
    refine w_swIn X dX10_count_1 (t := 112) (off := 111) rfl (by rw [yhs30]; decide) (by rw [yhs30]; decide) (by rw [yhs30]; rfl) ?_
    refine w_aload_n X dX10_count_112 rfl rfl rfl ?_
    refine w_getR X dX10_count_113 rfl fl_X10_31 S0_0 rfl ?_
    obtain ⟨yr31, eyr31, hf⟩ := wok_b hf
    refine w_callV X dX10_count_116 rfl vl_X10_325 (kX6_layersTogether l in_29 eyr31) S0_29 (As := []) (st := []) rfl rfl (Nat.le_of_ble_eq_true rfl) ⟨Nat.le_of_ble_eq_true rfl, Nat.le_of_ble_eq_true rfl⟩ ⟨Nat.zero_le _, Nat.zero_le _⟩ (fun r h2 hF => ?_)
    obtain ⟨_, rfl, rfl, rfl⟩ := hF
    show wM p l e (wR 6) s m args below meth c 0 0 (wE below args s D dA b0 ad S0 F) 2 D dA b0 ad S0 119 [some (.ref 0), some (.int x0)] [.int yr31] h
    exact w_iret X dX10_count_119 hr (hT _ _ (wok_s hf))
  have hf := wok_f hf yhs30
  by_cases yhs32 : x0 = 7
  · have hf := wok_t hf yhs32
    refine w_swIn X dX10_count_1 (t := 120) (off := 119) rfl (by rw [yhs32]; decide) (by rw [yhs32]; decide) (by rw [yhs32]; rfl) ?_
    refine w_aload_n X dX10_count_120 rfl rfl rfl ?_
    refine w_getR X dX10_count_121 rfl fl_X10_31 S0_0 rfl ?_
    refine w_aload_n X dX10_count_124 rfl rfl rfl ?_
    refine w_getR X dX10_count_125 rfl fl_X10_31 S0_0 rfl ?_
    obtain ⟨yr33, eyr33, hf⟩ := wok_b hf
    refine w_callV X dX10_count_128 rfl vl_X10_134 (kX6_damp l in_29 eyr33) S0_29 (As := []) (st := [.ref 29]) rfl rfl (Nat.le_of_ble_eq_true rfl) ⟨Nat.le_of_ble_eq_true rfl, Nat.le_of_ble_eq_true rfl⟩ ⟨Nat.zero_le _, Nat.zero_le _⟩ (fun r h2 hF => ?_)
    obtain ⟨_, rfl, rfl, rfl⟩ := hF
    show wM p l e (wR 6) s m args below meth c 0 0 (wE below args s D dA b0 ad S0 F) 2 D dA b0 ad S0 131 [some (.ref 0), some (.int x0)] [.int yr33, .ref 29] h
    obtain ⟨yr34, eyr34, hf⟩ := wok_b hf
    refine w_callV X dX10_count_131 rfl vl_X10_212 (kX6_wholeTexts l in_29 eyr34) S0_29 (As := [.int yr33]) (st := []) rfl rfl (Nat.le_of_ble_eq_true rfl) ⟨Nat.le_of_ble_eq_true rfl, Nat.le_of_ble_eq_true rfl⟩ ⟨Nat.zero_le _, Nat.zero_le _⟩ (fun r h2 hF => ?_)
    obtain ⟨_, rfl, rfl, rfl⟩ := hF
    show wM p l e (wR 6) s m args below meth c 0 0 (wE below args s D dA b0 ad S0 F) 2 D dA b0 ad S0 134 [some (.ref 0), some (.int x0)] [.int yr34.1] yr34.2
    exact w_iret X dX10_count_134 hr (hT _ _ (wok_s hf))
  have hf := wok_f hf yhs32
  by_cases yhs35 : x0 = 8
  · have hf := wok_t hf yhs35
    refine w_swIn X dX10_count_1 (t := 135) (off := 134) rfl (by rw [yhs35]; decide) (by rw [yhs35]; decide) (by rw [yhs35]; rfl) ?_
    refine w_aload_n X dX10_count_135 rfl rfl rfl ?_
    refine w_getR X dX10_count_136 rfl fl_X10_41 S0_0 rfl ?_
    refine w_getI X dX10_count_139 rfl fl_X10_202 S0_39 rfl ?_
    exact w_iret X dX10_count_142 hr (hT _ _ (wok_s hf))
  have hf := wok_f hf yhs35
  by_cases yhs36 : x0 = 9
  · have hf := wok_t hf yhs36
    refine w_swIn X dX10_count_1 (t := 143) (off := 142) rfl (by rw [yhs36]; decide) (by rw [yhs36]; decide) (by rw [yhs36]; rfl) ?_
    refine w_aload_n X dX10_count_143 rfl rfl rfl ?_
    refine w_getR X dX10_count_144 rfl fl_X10_51 S0_0 rfl ?_
    refine w_getI X dX10_count_147 rfl fl_X10_328 S0_43 rfl ?_
    exact w_iret X dX10_count_150 hr (hT _ _ (wok_s hf))
  have hf := wok_f hf yhs36
  by_cases yhs37 : x0 = 10
  · have hf := wok_t hf yhs37
    refine w_swIn X dX10_count_1 (t := 151) (off := 150) rfl (by rw [yhs37]; decide) (by rw [yhs37]; decide) (by rw [yhs37]; rfl) ?_
    refine w_aload_n X dX10_count_151 rfl rfl rfl ?_
    refine w_getR X dX10_count_152 rfl fl_X10_58 S0_0 rfl ?_
    refine w_getI X dX10_count_155 rfl fl_X10_329 S0_48 rfl ?_
    exact w_iret X dX10_count_158 hr (hT _ _ (wok_s hf))
  have hf := wok_f hf yhs37
  by_cases yhs38 : x0 = 11
  · have hf := wok_t hf yhs38
    refine w_swIn X dX10_count_1 (t := 159) (off := 158) rfl (by rw [yhs38]; decide) (by rw [yhs38]; decide) (by rw [yhs38]; rfl) ?_
    refine w_aload_n X dX10_count_159 rfl rfl rfl ?_
    refine w_getR X dX10_count_160 rfl fl_X10_12 S0_0 rfl ?_
    refine w_getI X dX10_count_163 rfl fl_X10_87 S0_1 rfl ?_
    exact w_iret X dX10_count_166 hr (hT _ _ (wok_s hf))
  have hf := wok_f hf yhs38
  refine w_swOut X dX10_count_1 (t := 167) rfl (by have := lv_neT yhs21 (a := 0) (by decide); have := lv_neT yhs22 (a := 1) (by decide); have := lv_neT yhs23 (a := 2) (by decide); have := lv_neT yhs24 (a := 3) (by decide); have := lv_neT yhs26 (a := 4) (by decide); have := lv_neT yhs28 (a := 5) (by decide); have := lv_neT yhs30 (a := 6) (by decide); have := lv_neT yhs32 (a := 7) (by decide); have := lv_neT yhs35 (a := 8) (by decide); have := lv_neT yhs36 (a := 9) (by decide); have := lv_neT yhs37 (a := 10) (by decide); have := lv_neT yhs38 (a := 11) (by decide); omega) ?_
  refine w_iconst X dX10_count_167 rfl ci_m1 ?_
  exact w_iret X dX10_count_168 hr (hT _ _ (wok_s hf))
set_option maxRecDepth 4000 in
theorem kX10_count (l : Launch) {h : wSt} {x0 : Int32} {res : Int32 × wSt} (hf : fX10_count h x0 = some res) : wC l yX10_count cX10_count 2 (some .int) 6 S0 [.ref 0, .int x0] h (wFI (fun a b => res.1 = a ∧ res.2 = b)) := by
  refine w_meth2 0 (by decide) (Nat.le_of_ble_eq_true rfl) (ls := [some (.ref 0), some (.int x0)]) rfl ?_
  intro p e s m args below meth c D dA b0 ad X hr
  exact pX10_count_b0 X hr  (K := fun z => res = z) (fun x h2 hz => ⟨x, rfl, by rw [hz], by rw [hz]⟩) ⟨res, hf, rfl⟩
end WX

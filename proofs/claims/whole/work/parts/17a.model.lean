def fX11_thrown (h : wSt) : Option (Int32) :=
some (h.1 188 0)
def fX11_within (h : wSt) (x0 : Int32) (x1 : Int32) (x2 : Int32) : Option (Bool) :=
if x0 < x1 then
some false
else
if x2 < x0 then
some false
else
some true
def fX11_bits_l4 (h : wSt) (v0 : Int32) (v1 : Int32) (v2 : Int32) : Option ((Int32 × Int32) ⊕ ((Int32))) :=
if 6 ≤ v2 then
some (.inr v1)
else
wlet (v1 + ((v0 >>> (v2 &&& 31)) &&& 1)) (fun yx21 =>
some (.inl (yx21, (v2 + 1))))
def fX11_bits (h : wSt) (x0 : Int32) : Option (Int32) :=
(wit (fun v : (Int32 × Int32) => fX11_bits_l4 h x0 v.1 v.2) 3000 ((0 : Int32), (0 : Int32))).bind (fun ye22 =>
some ye22)
def fX11_feed_b114_8 (h : wSt) (v1 : Int64) (v3 : Int64) (v5 : Int64) (v7 : Int32) : Option ((Int32 × wSt) ⊕ ((wSt))) :=
some (.inl ((v7 + 1), h))
def fX11_feed_b93_8 (h : wSt) (v1 : Int64) (v3 : Int64) (v5 : Int64) (v7 : Int32) (v10 : Int32) : Option ((Int32 × wSt) ⊕ ((wSt))) :=
if wib (h.1 188 1) 1000 then
wlet (wuI h 189 (h.1 188 1).toNatClampNeg v10) (fun yh24 =>
wlet (wuI yh24 188 1 ((yh24.1 188 1) + 1)) (fun yh25 =>
fX11_feed_b114_8 yh25 v1 v3 v5 v7))
else none
def fX11_feed_b39_8 (h : wSt) (v1 : Int64) (v3 : Int64) (v5 : Int64) (v7 : Int32) (w0 : Int64) : Option ((Int32 × wSt) ⊕ ((wSt))) :=
wlet ((((w0.toUInt64 >>> ((56 - (8 * (v7 &&& 7))).toInt64.toUInt64 &&& Int64.toUInt64 63)).toInt64) &&& 255).toInt32) (fun yx22 =>
if 1000 ≤ (h.1 188 1) then
fX11_feed_b114_8 h v1 v3 v5 v7
else
if yx22 = 10 then
fX11_feed_b93_8 h v1 v3 v5 v7 yx22
else
if yx22 < 32 then
fX11_feed_b114_8 h v1 v3 v5 v7
else
if 126 < yx22 then
fX11_feed_b114_8 h v1 v3 v5 v7
else
fX11_feed_b93_8 h v1 v3 v5 v7 yx22)
def fX11_feed_l8 (h : wSt) (v1 : Int64) (v3 : Int64) (v5 : Int64) (v7 : Int32) : Option ((Int32 × wSt) ⊕ ((wSt))) :=
if 24 ≤ v7 then
some (.inr h)
else
if 8 ≤ v7 then
if 16 ≤ v7 then
fX11_feed_b39_8 h v1 v3 v5 v7 v5
else
fX11_feed_b39_8 h v1 v3 v5 v7 v3
else
fX11_feed_b39_8 h v1 v3 v5 v7 v1
def fX11_feed (h : wSt) (x0 : Int64) (x1 : Int64) (x2 : Int64) : Option (Int32 × wSt) :=
wlet (wuI h 188 0 0) (fun yh21 =>
(wit (fun v : (Int32 × wSt) => fX11_feed_l8 v.2 x0 x1 x2 v.1) 3000 ((0 : Int32), yh21)).bind (fun ye26 =>
some ((ye26.1 188 1), ye26)))
def fX11_signAt (h : wSt) (x0 : Int32) : Option (Int32) :=
if (h.1 188 3) ≤ x0 then
some (0 : Int32)
else
if wib x0 1000 then
some (h.1 189 x0.toNatClampNeg)
else none
def fX11_nextToken_b39_0 (h : wSt) : Option ((wSt) ⊕ ((wSt))) :=
wlet (wuI h 188 4 ((h.1 188 4) + 1)) (fun yh22 =>
some (.inl yh22))
def fX11_nextToken_l0 (h : wSt) : Option ((wSt) ⊕ ((wSt))) :=
if (h.1 188 3) ≤ (h.1 188 4) then
some (.inr h)
else
if wib (h.1 188 4) 1000 then
if (h.1 189 (h.1 188 4).toNatClampNeg) = 32 then
fX11_nextToken_b39_0 h
else
if (h.1 189 (h.1 188 4).toNatClampNeg) = 10 then
fX11_nextToken_b39_0 h
else
some (.inr h)
else none
def fX11_nextToken_b368 (h : wSt) (w1 : Int32) : Option (wSt) :=
wlet (wuI h 188 6 w1) (fun yh31 =>
some yh31)
def fX11_nextToken_b363 (h : wSt) : Option (wSt) :=
fX11_nextToken_b368 h (3 : Int32)
def fX11_nextToken_b367 (h : wSt) : Option (wSt) :=
fX11_nextToken_b368 h (4 : Int32)
def fX11_nextToken_b345 (h : wSt) (v1 : Int32) : Option (wSt) :=
if v1 = 45 then
fX11_nextToken_b363 h
else
if v1 < 59 then
fX11_nextToken_b367 h
else
if 61 < v1 then
fX11_nextToken_b367 h
else
fX11_nextToken_b363 h
def fX11_nextToken_b322 (h : wSt) (v1 : Int32) : Option (wSt) :=
wlet (wuI h 188 4 ((h.1 188 4) + 1)) (fun yh30 =>
if v1 < 40 then
fX11_nextToken_b345 yh30 v1
else
if v1 ≤ 43 then
fX11_nextToken_b363 yh30
else
fX11_nextToken_b345 yh30 v1)
def fX11_nextToken_b286_224 (h : wSt) : Option ((wSt) ⊕ ((wSt))) :=
wlet (wuI h 188 4 ((h.1 188 4) + 1)) (fun yh34 =>
some (.inl yh34))
def fX11_nextToken_l224 (h : wSt) : Option ((wSt) ⊕ ((wSt))) :=
(fX11_signAt h (h.1 188 4)).bind (fun yr32 =>
if yr32 < 48 then
some (.inr h)
else
(fX11_signAt h (h.1 188 4)).bind (fun yr33 =>
if 57 < yr33 then
some (.inr h)
else
if 4 ≤ ((h.1 188 4) - (h.1 188 5)) then
fX11_nextToken_b286_224 h
else
(fX11_signAt h (h.1 188 4)).bind (fun yr35 =>
wlet (wuI h 188 8 ((((h.1 188 8) * 10) + yr35) - 48)) (fun yh36 =>
fX11_nextToken_b286_224 yh36))))
def fX11_nextToken_b318 (h : wSt) (w1 : Int32) : Option (wSt) :=
wlet (wuI h 188 6 w1) (fun yh39 =>
some yh39)
def fX11_nextToken_b212 (h : wSt) (v1 : Int32) : Option (wSt) :=
if v1 < 48 then
fX11_nextToken_b322 h v1
else
if 57 < v1 then
fX11_nextToken_b322 h v1
else
(wit (fun v : (wSt) => fX11_nextToken_l224 v ) 3000 h).bind (fun ye37 =>
if ((ye37.1 188 4) - (ye37.1 188 5)) ≤ 4 then
fX11_nextToken_b318 ye37 (2 : Int32)
else
fX11_nextToken_b318 ye37 (4 : Int32))
def fX11_nextToken_b175_109 (h : wSt) : Option ((wSt) ⊕ ((wSt))) :=
wlet (wuI h 188 4 ((h.1 188 4) + 1)) (fun yh42 =>
some (.inl yh42))
def fX11_nextToken_l109 (h : wSt) : Option ((wSt) ⊕ ((wSt))) :=
(fX11_signAt h (h.1 188 4)).bind (fun yr40 =>
if yr40 < 97 then
some (.inr h)
else
(fX11_signAt h (h.1 188 4)).bind (fun yr41 =>
if 122 < yr41 then
some (.inr h)
else
if 8 ≤ ((h.1 188 4) - (h.1 188 5)) then
fX11_nextToken_b175_109 h
else
(fX11_signAt h (h.1 188 4)).bind (fun yr43 =>
wlet (wuJ h 188 7 ((((h.2 188 7) * 27) + yr43.toInt64) - 96)) (fun yh44 =>
fX11_nextToken_b175_109 yh44))))
def fX11_nextToken_b208 (h : wSt) (w1 : Int32) : Option (wSt) :=
wlet (wuI h 188 6 w1) (fun yh47 =>
some yh47)
def fX11_nextToken (h : wSt) : Option (wSt) :=
(wit (fun v : (wSt) => fX11_nextToken_l0 v ) 3000 h).bind (fun ye23 =>
wlet (wuI ye23 188 5 (ye23.1 188 4)) (fun yh25 =>
wlet (wuJ yh25 188 7 0) (fun yh26 =>
wlet (wuI yh26 188 8 0) (fun yh27 =>
if (yh27.1 188 4) = (yh27.1 188 3) then
wlet (wuI yh27 188 6 0) (fun yh48 =>
some yh48)
else
if wib (yh27.1 188 4) 1000 then
wlet (yh27.1 189 (yh27.1 188 4).toNatClampNeg) (fun yx29 =>
if yx29 < 97 then
fX11_nextToken_b212 yh27 yx29
else
if 122 < yx29 then
fX11_nextToken_b212 yh27 yx29
else
(wit (fun v : (wSt) => fX11_nextToken_l109 v ) 3000 yh27).bind (fun ye45 =>
if ((ye45.1 188 4) - (ye45.1 188 5)) ≤ 8 then
fX11_nextToken_b208 ye45 (1 : Int32)
else
fX11_nextToken_b208 ye45 (4 : Int32)))
else none))))
def fX11_isWord (h : wSt) (x0 : Int64) : Option (Bool) :=
if (h.1 188 6) = 1 then
if (h.2 188 7) = x0 then
some true
else
some false
else
some false
def fX11_isSign (h : wSt) (x0 : Int32) : Option (Bool) :=
if (h.1 188 6) = 3 then
if wib (h.1 188 5) 1000 then
if (h.1 189 (h.1 188 5).toNatClampNeg) = x0 then
some true
else
some false
else none
else
some false
def fX11_fails (h : wSt) (x0 : Int32) : Option (Bool × wSt) :=
wlet (wuI h 188 9 (x0 + (16 * (h.1 188 5)))) (fun yh21 =>
some (false, yh21))
def fX11_puts (h : wSt) (x0 : Int32) : Option (wSt) :=
if wib (h.1 188 23) 2000 then
wlet (wuI h 202 (h.1 188 23).toNatClampNeg x0) (fun yh22 =>
wlet (wuI yh22 188 23 ((yh22.1 188 23) + 1)) (fun yh23 =>
some yh23))
else none
def fX11_fact (h : wSt) : Option (Int32) :=
if (h.1 188 6) = 1 then
if (h.2 188 7) = 16922 then
some (1 : Int32)
else
if (h.2 188 7) = 82528 then
some (2 : Int32)
else
if (h.2 188 7) = 46472 then
some (3 : Int32)
else
if (h.2 188 7) = 399749 then
some (4 : Int32)
else
some (0 : Int32)
else
some (0 : Int32)
def fX11_reads_b424_11 (h : wSt) (v1 : Int32) (v2 : Int32) : Option ((Int32 × Int32 × wSt) ⊕ ((Bool × wSt))) :=
(fX11_nextToken h ).bind (fun yr26 =>
some (.inl (v1, v2, yr26)))
def fX11_reads_b237_11 (h : wSt) (v1 : Int32) (w1 : Int32) : Option ((Int32 × Int32 × wSt) ⊕ ((Bool × wSt))) :=
(fX11_puts h w1).bind (fun yr25 =>
fX11_reads_b424_11 yr25 v1 (1 : Int32))
def fX11_reads_b206_11 (h : wSt) (v1 : Int32) : Option ((Int32 × Int32 × wSt) ⊕ ((Bool × wSt))) :=
(fX11_isSign h (43 : Int32)).bind (fun yr23 =>
if yr23 = true then
fX11_reads_b237_11 h v1 (20 : Int32)
else
(fX11_isSign h (45 : Int32)).bind (fun yr24 =>
if yr24 = true then
fX11_reads_b237_11 h v1 (21 : Int32)
else
fX11_reads_b237_11 h v1 (22 : Int32)))
def fX11_reads_b342_11 (h : wSt) (v1 : Int32) (w1 : Int32) : Option ((Int32 × Int32 × wSt) ⊕ ((Bool × wSt))) :=
(fX11_puts h w1).bind (fun yr33 =>
if wib v1 7 then
wlet (wuI yr33 204 v1.toNatClampNeg (vp_nar .boolean 0)) (fun yh35 =>
fX11_reads_b424_11 yh35 v1 (1 : Int32))
else none)
def fX11_reads_b324_11 (h : wSt) (v1 : Int32) : Option ((Int32 × Int32 × wSt) ⊕ ((Bool × wSt))) :=
(fX11_isWord h (1111 : Int64)).bind (fun yr32 =>
if yr32 = true then
fX11_reads_b342_11 h v1 (26 : Int32)
else
fX11_reads_b342_11 h v1 (27 : Int32))
def fX11_reads_b418_11 (h : wSt) : Option ((Int32 × Int32 × wSt) ⊕ ((Bool × wSt))) :=
(fX11_fails h (1 : Int32)).bind (fun yr38 =>
some (.inr (yr38.1, yr38.2)))
def fX11_reads_b399_11 (h : wSt) (v1 : Int32) : Option ((Int32 × Int32 × wSt) ⊕ ((Bool × wSt))) :=
if v1 = 0 then
(fX11_isSign h (59 : Int32)).bind (fun yr39 =>
if yr39 = true then
(fX11_nextToken h ).bind (fun yr40 =>
some (.inr (true, yr40)))
else
fX11_reads_b418_11 h)
else
fX11_reads_b418_11 h
def fX11_reads_l379 (h : wSt) (v2 : Int32) (v1 : Int32) : Option ((Int32) ⊕ ((Int32))) :=
if v1 ≤ 0 then
some (.inr v1)
else
if wib v1 7 then
if (h.1 203 v1.toNatClampNeg) = 1 then
some (.inl (v1 + (-1)))
else
some (.inr v1)
else none
def fX11_reads_b304_11 (h : wSt) (v1 : Int32) (v2 : Int32) : Option ((Int32 × Int32 × wSt) ⊕ ((Bool × wSt))) :=
(fX11_isWord h (1111 : Int64)).bind (fun yr31 =>
if yr31 = true then
fX11_reads_b324_11 h v1
else
(fX11_isWord h (423 : Int64)).bind (fun yr36 =>
if yr36 = true then
fX11_reads_b324_11 h v1
else
(fX11_isSign h (41 : Int32)).bind (fun yr37 =>
if yr37 = true then
if v1 ≤ 0 then
fX11_reads_b399_11 h v1
else
(fX11_puts h (29 : Int32)).bind (fun yr41 =>
(wit (fun v : (Int32) => fX11_reads_l379 yr41 v2 v) 3000 (v1 + (-1))).bind (fun ye43 =>
fX11_reads_b424_11 yr41 ye43 v2))
else
fX11_reads_b399_11 h v1)))
def fX11_reads_b289_11 (h : wSt) (v1 : Int32) (w1 : Int32) : Option ((Int32 × Int32 × wSt) ⊕ ((Bool × wSt))) :=
(fX11_puts h w1).bind (fun yr46 =>
if wib v1 7 then
wlet (wuI yr46 204 v1.toNatClampNeg (vp_nar .boolean 1)) (fun yh48 =>
fX11_reads_b424_11 yh48 v1 (1 : Int32))
else none)
def fX11_reads_b263_11 (h : wSt) (v1 : Int32) (v2 : Int32) : Option ((Int32 × Int32 × wSt) ⊕ ((Bool × wSt))) :=
if wib v1 7 then
if (h.1 204 v1.toNatClampNeg) = 0 then
(fX11_isSign h (60 : Int32)).bind (fun yr45 =>
if yr45 = true then
fX11_reads_b289_11 h v1 (24 : Int32)
else
fX11_reads_b289_11 h v1 (25 : Int32))
else
fX11_reads_b304_11 h v1 v2
else none
def fX11_reads_b172_11 (h : wSt) (v1 : Int32) (v2 : Int32) : Option ((Int32 × Int32 × wSt) ⊕ ((Bool × wSt))) :=
(fX11_nextToken h ).bind (fun yr58 =>
some (.inl (v1, v2, yr58)))
def fX11_reads_b120_11 (h : wSt) (v1 : Int32) (v2 : Int32) (w1 : Int32) (w2 : Int32) : Option ((Int32 × Int32 × wSt) ⊕ ((Bool × wSt))) :=
if wib w1 7 then
wlet (wuI h 203 w1.toNatClampNeg w2) (fun yh55 =>
if wib v1 7 then
wlet (wuI yh55 204 v1.toNatClampNeg (vp_nar .boolean 0)) (fun yh57 =>
fX11_reads_b172_11 yh57 v1 v2)
else none)
else none
def fX11_reads_b99_11 (h : wSt) (v1 : Int32) (v2 : Int32) (v4 : Int32) (w1 : Int32) : Option ((Int32 × Int32 × wSt) ⊕ ((Bool × wSt))) :=
(fX11_puts h w1).bind (fun yr53 =>
if v4 = 0 then
fX11_reads_b120_11 yr53 (v1 + 1) v2 (v1 + 1) (2 : Int32)
else
fX11_reads_b120_11 yr53 (v1 + 1) v2 (v1 + 1) (1 : Int32))
def fX11_reads_b86_11 (h : wSt) (v1 : Int32) (v2 : Int32) (v4 : Int32) : Option ((Int32 × Int32 × wSt) ⊕ ((Bool × wSt))) :=
if v4 = 0 then
fX11_reads_b99_11 h v1 v2 v4 (28 : Int32)
else
fX11_reads_b99_11 h v1 v2 v4 (30 : Int32)
def fX11_reads_l152 (h : wSt) (v2 : Int32) (v1 : Int32) : Option ((Int32) ⊕ ((Int32))) :=
if v1 ≤ 0 then
some (.inr v1)
else
if wib v1 7 then
if (h.1 203 v1.toNatClampNeg) = 1 then
some (.inl (v1 + (-1)))
else
some (.inr v1)
else none
def fX11_reads_b147_11 (h : wSt) (v1 : Int32) (w1 : Int32) : Option ((Int32 × Int32 × wSt) ⊕ ((Bool × wSt))) :=
(fX11_puts h w1).bind (fun yr59 =>
(wit (fun v : (Int32) => fX11_reads_l152 yr59 (0 : Int32) v) 3000 v1).bind (fun ye61 =>
fX11_reads_b172_11 yr59 ye61 (0 : Int32)))
def fX11_reads_b65_11 (h : wSt) (v1 : Int32) (v2 : Int32) (v3 : Int32) (v4 : Int32) (v5 : Int32) : Option ((Int32 × Int32 × wSt) ⊕ ((Bool × wSt))) :=
if v1 = 5 then
(fX11_fails h (5 : Int32)).bind (fun yr63 =>
some (.inr (yr63.1, yr63.2)))
else
if v4 = 0 then
if v5 = 0 then
if v3 ≤ 0 then
fX11_reads_b147_11 h v1 (100 + (h.1 188 8))
else
fX11_reads_b147_11 h v1 v3
else
fX11_reads_b86_11 h v1 v2 v4
else
fX11_reads_b86_11 h v1 v2 v4
def fX11_reads_l11 (h : wSt) (v1 : Int32) (v2 : Int32) : Option ((Int32 × Int32 × wSt) ⊕ ((Bool × wSt))) :=
if v2 = 0 then
(fX11_isSign h (43 : Int32)).bind (fun yr22 =>
if yr22 = true then
fX11_reads_b206_11 h v1
else
(fX11_isSign h (45 : Int32)).bind (fun yr27 =>
if yr27 = true then
fX11_reads_b206_11 h v1
else
(fX11_isSign h (42 : Int32)).bind (fun yr28 =>
if yr28 = true then
fX11_reads_b206_11 h v1
else
(fX11_isSign h (60 : Int32)).bind (fun yr29 =>
if yr29 = true then
fX11_reads_b263_11 h v1 v2
else
(fX11_isSign h (61 : Int32)).bind (fun yr49 =>
if yr49 = true then
fX11_reads_b263_11 h v1 v2
else
fX11_reads_b304_11 h v1 v2)))))
else
(fX11_fact h ).bind (fun yr50 =>
(fX11_isWord h (10631 : Int64)).bind (fun yr51 =>
(fX11_isSign h (40 : Int32)).bind (fun yr52 =>
if yr50 = 0 then
if yr51 = true then
fX11_reads_b65_11 h v1 v2 yr50 (wb yr51) (wb yr52)
else
if yr52 = true then
fX11_reads_b65_11 h v1 v2 yr50 (wb yr51) (wb yr52)
else
if (h.1 188 6) = 2 then
fX11_reads_b65_11 h v1 v2 yr50 (wb yr51) (wb yr52)
else
(fX11_fails h (1 : Int32)).bind (fun yr64 =>
some (.inr (yr64.1, yr64.2)))
else
fX11_reads_b65_11 h v1 v2 yr50 (wb yr51) (wb yr52))))
def fX11_reads (h : wSt) : Option (Bool × wSt) :=
wlet (wuI h 204 0 (vp_nar .boolean 0)) (fun yh21 =>
(wit (fun v : (Int32 × Int32 × wSt) => fX11_reads_l11 v.2.2 v.1 v.2.1) 3000 ((0 : Int32), (1 : Int32), yh21)).bind (fun ye65 =>
some ye65))
def fX11_opens (h : wSt) (x0 : Int32) : Option (wSt) :=
if wib x0 7 then
wlet (wuI h 206 x0.toNatClampNeg 0) (fun yh22 =>
wlet (wuI yh22 208 x0.toNatClampNeg 0) (fun yh23 =>
wlet (wuI yh23 209 x0.toNatClampNeg 0) (fun yh24 =>
wlet (wuI yh24 210 x0.toNatClampNeg 20) (fun yh25 =>
wlet (wuI yh25 212 x0.toNatClampNeg 0) (fun yh26 =>
some yh26)))))
else none
def fX11_sums_b45 (h : wSt) (v1 : Int32) (w1 : Int32) (w2 : Int32) : Option (wSt) :=
if wib w1 7 then
wlet (wuI h 209 w1.toNatClampNeg w2) (fun yh23 =>
if wib v1 7 then
wlet (wuI yh23 212 v1.toNatClampNeg 0) (fun yh25 =>
some yh25)
else none)
else none
def fX11_sums (h : wSt) (x0 : Int32) : Option (wSt) :=
if wib x0 7 then
if (h.1 210 x0.toNatClampNeg) = 21 then
fX11_sums_b45 h x0 x0 ((h.1 209 x0.toNatClampNeg) - (h.1 211 x0.toNatClampNeg))
else
fX11_sums_b45 h x0 x0 ((h.1 209 x0.toNatClampNeg) + (h.1 211 x0.toNatClampNeg))
else none
def fX11_tests_b136 (h : wSt) (v1 : Int32) (v2 : Int32) : Option (wSt) :=
if wib v1 7 then
wlet (wuI h 205 v1.toNatClampNeg v2) (fun yh27 =>
wlet (wuI yh27 208 v1.toNatClampNeg 0) (fun yh28 =>
wlet (wuI yh28 209 v1.toNatClampNeg 0) (fun yh29 =>
wlet (wuI yh29 210 v1.toNatClampNeg 20) (fun yh30 =>
some yh30))))
else none
def fX11_tests_b135 (h : wSt) (v1 : Int32) (w0 : Int32) : Option (wSt) :=
fX11_tests_b136 h v1 w0
def fX11_tests_b130 (h : wSt) (v1 : Int32) : Option (wSt) :=
fX11_tests_b135 h v1 (1 : Int32)
def fX11_tests_b106 (h : wSt) (v1 : Int32) (v2 : Int32) : Option (wSt) :=
if wib v1 7 then
if (h.1 206 v1.toNatClampNeg) = 27 then
if (h.1 205 v1.toNatClampNeg) = 0 then
if v2 = 0 then
fX11_tests_b135 h v1 (0 : Int32)
else
fX11_tests_b130 h v1
else
fX11_tests_b130 h v1
else
fX11_tests_b136 h v1 v2
else none
def fX11_tests_b105 (h : wSt) (v1 : Int32) (w0 : Int32) : Option (wSt) :=
fX11_tests_b106 h v1 w0
def fX11_tests_b104 (h : wSt) (v1 : Int32) : Option (wSt) :=
fX11_tests_b105 h v1 (0 : Int32)
def fX11_tests_b76 (h : wSt) (v1 : Int32) (v2 : Int32) : Option (wSt) :=
if wib v1 7 then
if (h.1 206 v1.toNatClampNeg) = 26 then
if (h.1 205 v1.toNatClampNeg) = 0 then
fX11_tests_b104 h v1
else
if v2 = 0 then
fX11_tests_b104 h v1
else
fX11_tests_b105 h v1 (1 : Int32)
else
fX11_tests_b106 h v1 v2
else none
def fX11_tests_b75 (h : wSt) (v1 : Int32) (w0 : Int32) : Option (wSt) :=
fX11_tests_b76 h v1 w0
def fX11_tests_b44 (h : wSt) (v1 : Int32) (v2 : Int32) : Option (wSt) :=
if wib v1 7 then
if (h.1 208 v1.toNatClampNeg) = 25 then
if (h.1 207 v1.toNatClampNeg) = (h.1 209 v1.toNatClampNeg) then
fX11_tests_b75 h v1 (1 : Int32)
else
fX11_tests_b75 h v1 (0 : Int32)
else
fX11_tests_b76 h v1 v2
else none
def fX11_tests_b43 (h : wSt) (v1 : Int32) (w0 : Int32) : Option (wSt) :=
fX11_tests_b44 h v1 w0
def fX11_tests (h : wSt) (x0 : Int32) : Option (wSt) :=
(fX11_sums h x0).bind (fun yr21 =>
if wib x0 7 then
if (yr21.1 208 x0.toNatClampNeg) = 24 then
if (yr21.1 209 x0.toNatClampNeg) ≤ (yr21.1 207 x0.toNatClampNeg) then
fX11_tests_b43 yr21 x0 (0 : Int32)
else
fX11_tests_b43 yr21 x0 (1 : Int32)
else
fX11_tests_b44 yr21 x0 (yr21.1 209 x0.toNatClampNeg)
else none)
def fX11_worked_b329_14 (h : wSt) (v1 : Int32) (v2 : Int32) (v3 : Int32) : Option ((Int32 × Int32 × wSt) ⊕ ((wSt))) :=
some (.inl (v2, (v3 + 1), h))
def fX11_worked_b66_14 (h : wSt) (v1 : Int32) (v2 : Int32) (v3 : Int32) (w1 : Int32) (w2 : Int32) : Option ((Int32 × Int32 × wSt) ⊕ ((wSt))) :=
if wib w1 7 then
wlet (wuI h 213 w1.toNatClampNeg w2) (fun yh26 =>
(fX11_opens yh26 v2).bind (fun yr27 =>
fX11_worked_b329_14 yr27 v1 v2 v3))
else none
def fX11_worked_b46_14 (h : wSt) (v1 : Int32) (v2 : Int32) (v3 : Int32) (v4 : Int32) : Option ((Int32 × Int32 × wSt) ⊕ ((wSt))) :=
if v4 = 30 then
fX11_worked_b66_14 h v1 (v2 + 1) v3 (v2 + 1) (1 : Int32)
else
fX11_worked_b66_14 h v1 (v2 + 1) v3 (v2 + 1) (0 : Int32)
def fX11_worked_b89_14 (h : wSt) (v1 : Int32) (v2 : Int32) (v3 : Int32) (v4 : Int32) : Option ((Int32 × Int32 × wSt) ⊕ ((wSt))) :=
(fX11_sums h v2).bind (fun yr28 =>
if wib v2 7 then
wlet (wuI yr28 210 v2.toNatClampNeg v4) (fun yh30 =>
fX11_worked_b329_14 yh30 v1 v2 v3)
else none)
def fX11_worked_b137_14 (h : wSt) (v1 : Int32) (v2 : Int32) (v3 : Int32) (v4 : Int32) : Option ((Int32 × Int32 × wSt) ⊕ ((wSt))) :=
(fX11_sums h v2).bind (fun yr31 =>
if wib v2 7 then
wlet (wuI yr31 207 v2.toNatClampNeg (yr31.1 209 v2.toNatClampNeg)) (fun yh33 =>
wlet (wuI yh33 208 v2.toNatClampNeg v4) (fun yh34 =>
wlet (wuI yh34 209 v2.toNatClampNeg 0) (fun yh35 =>
wlet (wuI yh35 210 v2.toNatClampNeg 20) (fun yh36 =>
fX11_worked_b329_14 yh36 v1 v2 v3))))
else none)
def fX11_worked_b194_14 (h : wSt) (v1 : Int32) (v2 : Int32) (v3 : Int32) (v4 : Int32) : Option ((Int32 × Int32 × wSt) ⊕ ((wSt))) :=
(fX11_tests h v2).bind (fun yr37 =>
if wib v2 7 then
wlet (wuI yr37 206 v2.toNatClampNeg v4) (fun yh39 =>
fX11_worked_b329_14 yh39 v1 v2 v3)
else none)
def fX11_worked_b292_268 (h : wSt) (v1 : Int32) (v2 : Int32) (v3 : Int32) (w0 : Int32) : Option ((Int32 × Int32) ⊕ ((Int32 × Int32))) :=
some (.inl ((v2 + (-1)), w0))
def fX11_worked_l268 (h : wSt) (v1 : Int32) (v3 : Int32) (v2 : Int32) (v5 : Int32) : Option ((Int32 × Int32) ⊕ ((Int32 × Int32))) :=
if v2 ≤ 0 then
some (.inr (v2, v5))
else
if wib v2 7 then
if (h.1 213 v2.toNatClampNeg) = 1 then
if v5 = 0 then
fX11_worked_b292_268 h v1 v2 v3 (1 : Int32)
else
fX11_worked_b292_268 h v1 v2 v3 (0 : Int32)
else
some (.inr (v2, v5))
else none
def fX11_worked_b328_14 (h : wSt) (v1 : Int32) (v2 : Int32) (v3 : Int32) (w1 : Int32) (w2 : Int32) : Option ((Int32 × Int32 × wSt) ⊕ ((wSt))) :=
if wib w1 7 then
wlet (wuI h 211 w1.toNatClampNeg w2) (fun yh46 =>
fX11_worked_b329_14 yh46 v1 v2 v3)
else none
def fX11_worked_b243_14 (h : wSt) (v1 : Int32) (v2 : Int32) (v3 : Int32) (v4 : Int32) (w0 : Int32) : Option ((Int32 × Int32 × wSt) ⊕ ((wSt))) :=
if v4 = 29 then
(fX11_tests h v2).bind (fun yr47 =>
if wib v2 7 then
(wit (fun v : (Int32 × Int32) => fX11_worked_l268 yr47 v1 v3 v.1 v.2) 3000 ((v2 + (-1)), (yr47.1 205 v2.toNatClampNeg))).bind (fun ye49 =>
if wib ye49.1 7 then
if (yr47.1 212 ye49.1.toNatClampNeg) = 0 then
fX11_worked_b328_14 yr47 v1 ye49.1 v3 ye49.1 ye49.2
else
fX11_worked_b328_14 yr47 v1 ye49.1 v3 ye49.1 ((yr47.1 211 ye49.1.toNatClampNeg) * ye49.2)
else none)
else none)
else
(wit (fun v : (Int32 × Int32) => fX11_worked_l268 h v1 v3 v.1 v.2) 3000 (v2, w0)).bind (fun ye41 =>
if wib ye41.1 7 then
if (h.1 212 ye41.1.toNatClampNeg) = 0 then
fX11_worked_b328_14 h v1 ye41.1 v3 ye41.1 ye41.2
else
fX11_worked_b328_14 h v1 ye41.1 v3 ye41.1 ((h.1 211 ye41.1.toNatClampNeg) * ye41.2)
else none)
def fX11_worked_l14 (h : wSt) (v1 : Int32) (v2 : Int32) (v3 : Int32) : Option ((Int32 × Int32 × wSt) ⊕ ((wSt))) :=
if wib v1 2 then
if (h.1 201 v1.toNatClampNeg) ≤ v3 then
some (.inr h)
else
if wib v3 2000 then
if (h.1 202 v3.toNatClampNeg) = 28 then
fX11_worked_b46_14 h v1 v2 v3 (h.1 202 v3.toNatClampNeg)
else
if (h.1 202 v3.toNatClampNeg) = 30 then
fX11_worked_b46_14 h v1 v2 v3 (h.1 202 v3.toNatClampNeg)
else
if (h.1 202 v3.toNatClampNeg) = 20 then
fX11_worked_b89_14 h v1 v2 v3 (h.1 202 v3.toNatClampNeg)
else
if (h.1 202 v3.toNatClampNeg) = 21 then
fX11_worked_b89_14 h v1 v2 v3 (h.1 202 v3.toNatClampNeg)
else
if (h.1 202 v3.toNatClampNeg) = 22 then
if wib v2 7 then
wlet (wuI h 212 v2.toNatClampNeg (h.1 202 v3.toNatClampNeg)) (fun yh55 =>
fX11_worked_b329_14 yh55 v1 v2 v3)
else none
else
if (h.1 202 v3.toNatClampNeg) = 24 then
fX11_worked_b137_14 h v1 v2 v3 (h.1 202 v3.toNatClampNeg)
else
if (h.1 202 v3.toNatClampNeg) = 25 then
fX11_worked_b137_14 h v1 v2 v3 (h.1 202 v3.toNatClampNeg)
else
if (h.1 202 v3.toNatClampNeg) = 26 then
fX11_worked_b194_14 h v1 v2 v3 (h.1 202 v3.toNatClampNeg)
else
if (h.1 202 v3.toNatClampNeg) = 27 then
fX11_worked_b194_14 h v1 v2 v3 (h.1 202 v3.toNatClampNeg)
else
if (h.1 202 v3.toNatClampNeg) < 100 then
if 20 ≤ (h.1 202 v3.toNatClampNeg) then
fX11_worked_b243_14 h v1 v2 v3 (h.1 202 v3.toNatClampNeg) (0 : Int32)
else
if wib (h.1 202 v3.toNatClampNeg) 20 then
fX11_worked_b243_14 h v1 v2 v3 (h.1 202 v3.toNatClampNeg) (h.1 214 (h.1 202 v3.toNatClampNeg).toNatClampNeg)
else none
else
fX11_worked_b243_14 h v1 v2 v3 (h.1 202 v3.toNatClampNeg) ((h.1 202 v3.toNatClampNeg) - 100)
else none
else none
def fX11_worked (h : wSt) (x0 : Int32) : Option (Int32 × wSt) :=
(fX11_opens h (0 : Int32)).bind (fun yr21 =>
if wib x0 2 then
(wit (fun v : (Int32 × Int32 × wSt) => fX11_worked_l14 v.2.2 x0 v.1 v.2.1) 3000 ((0 : Int32), (yr21.1 200 x0.toNatClampNeg), yr21)).bind (fun ye56 =>
(fX11_tests ye56 (0 : Int32)).bind (fun yr58 =>
some ((yr58.1 205 0), yr58)))
else none)
def fX11_isKept_b230 (h : wSt) : Option (Bool) :=
some true
def fX11_isKept (h : wSt) : Option (Bool) :=
if (h.1 188 6) = 1 then
if (h.2 188 7) = 382253 then
fX11_isKept_b230 h
else
if (h.2 188 7) = 6564799 then
fX11_isKept_b230 h
else
if (h.2 188 7) = 10792937 then
fX11_isKept_b230 h
else
if (h.2 188 7) = 168728 then
fX11_isKept_b230 h
else
if (h.2 188 7) = 397973 then
fX11_isKept_b230 h
else
if (h.2 188 7) = 79828 then
fX11_isKept_b230 h
else
if (h.2 188 7) = 10266418 then
fX11_isKept_b230 h
else
if (h.2 188 7) = 12584543 then
fX11_isKept_b230 h
else
if (h.2 188 7) = 274579016 then
fX11_isKept_b230 h
else
if (h.2 188 7) = 10793335 then
fX11_isKept_b230 h
else
if (h.2 188 7) = 456500 then
fX11_isKept_b230 h
else
if (h.2 188 7) = 138846 then
fX11_isKept_b230 h
else
if (h.2 188 7) = 385337 then
fX11_isKept_b230 h
else
if (h.2 188 7) = 1277953191 then
fX11_isKept_b230 h
else
if (h.2 188 7) = 8878099 then
fX11_isKept_b230 h
else
if (h.2 188 7) = 261003578 then
fX11_isKept_b230 h
else
if (h.2 188 7) = 296522 then
fX11_isKept_b230 h
else
if (h.2 188 7) = 10631 then
fX11_isKept_b230 h
else
if (h.2 188 7) = 1111 then
fX11_isKept_b230 h
else
if (h.2 188 7) = 423 then
fX11_isKept_b230 h
else
some false
else
some true
def fX11_skinNamed_l4 (h : wSt) (v1 : Int32) (v2 : Int32) : Option ((Int32) ⊕ ((Unit) ⊕ (Int32))) :=
if wib ((3 * v1) + 0) 6 then
if ((3 * v1) + (h.1 190 ((3 * v1) + 0).toNatClampNeg)) ≤ v2 then
some (.inr (.inl ()))
else
if wib v2 6 then
if (h.2 191 v2.toNatClampNeg) = (h.2 188 7) then
some (.inr (.inr (v2 - (3 * v1))))
else
some (.inl (v2 + 1))
else none
else none
def fX11_skinNamed (h : wSt) (x0 : Int32) : Option (Int32) :=
(wit (fun v : (Int32) => fX11_skinNamed_l4 h x0 v) 3000 (3 * x0)).bind (fun ye23 => match ye23 with
| .inl ye23v =>
some (-1 : Int32)
| .inr ye23r =>
some ye23r)
def fX11_textNamed_l5 (h : wSt) (v1 : Int32) (v2 : Int32) : Option ((Int32) ⊕ ((Unit) ⊕ (Int32))) :=
if wib ((3 * v1) + 1) 6 then
if ((6 * v1) + (h.1 190 ((3 * v1) + 1).toNatClampNeg)) ≤ v2 then
some (.inr (.inl ()))
else
if wib v2 12 then
if (h.2 192 v2.toNatClampNeg) = (h.2 188 7) then
some (.inr (.inr (v2 - (6 * v1))))
else
some (.inl (v2 + 1))
else none
else none
def fX11_textNamed (h : wSt) (x0 : Int32) : Option (Int32) :=
(wit (fun v : (Int32) => fX11_textNamed_l5 h x0 v) 3000 (6 * x0)).bind (fun ye23 => match ye23 with
| .inl ye23v =>
some (-1 : Int32)
| .inr ye23r =>
some ye23r)
def fX11_needsNumber (h : wSt) (x0 : Int32) (x1 : Int32) : Option (Bool × wSt) :=
if (h.1 188 6) = 2 then
(fX11_within h (h.1 188 8) x0 x1).bind (fun yr21 =>
if yr21 = true then
wlet (wuI h 188 36 (h.1 188 8)) (fun yh22 =>
(fX11_nextToken yh22 ).bind (fun yr23 =>
some (true, yr23)))
else
(fX11_fails h (4 : Int32)).bind (fun yr24 =>
some (yr24.1, yr24.2)))
else
(fX11_fails h (1 : Int32)).bind (fun yr25 =>
some (yr25.1, yr25.2))
def fX11_needsBoth (h : wSt) (x0 : Int64) (x1 : Int32) (x2 : Int32) : Option (Bool × wSt) :=
(fX11_isWord h x0).bind (fun yr21 =>
if yr21 = true then
(fX11_nextToken h ).bind (fun yr22 =>
(fX11_needsNumber yr22 x1 x2).bind (fun yr23 =>
some (yr23.1, yr23.2)))
else
(fX11_fails h (1 : Int32)).bind (fun yr24 =>
some (yr24.1, yr24.2)))
def fX11_closes (h : wSt) : Option (Bool × wSt) :=
(fX11_isSign h (59 : Int32)).bind (fun yr21 =>
if yr21 = true then
(fX11_nextToken h ).bind (fun yr22 =>
some (true, yr22))
else
(fX11_fails h (1 : Int32)).bind (fun yr23 =>
some (yr23.1, yr23.2)))
def fX11_needsNew_b29 (h : wSt) : Option (Bool × wSt) :=
(fX11_fails h (3 : Int32)).bind (fun yr23 =>
some (yr23.1, yr23.2))
def fX11_needsNew (h : wSt) : Option (Bool × wSt) :=
(fX11_isKept h ).bind (fun yr21 =>
if yr21 = true then
(fX11_fails h (1 : Int32)).bind (fun yr27 =>
some (yr27.1, yr27.2))
else
(fX11_skinNamed h (1 : Int32)).bind (fun yr22 =>
if 0 ≤ yr22 then
fX11_needsNew_b29 h
else
(fX11_textNamed h (1 : Int32)).bind (fun yr24 =>
if yr24 < 0 then
wlet (wuJ h 188 37 (h.2 188 7)) (fun yh25 =>
(fX11_nextToken yh25 ).bind (fun yr26 =>
some (true, yr26)))
else
fX11_needsNew_b29 h)))
def fX11_needsSkin (h : wSt) (x0 : Int32) : Option (Bool × wSt) :=
(fX11_isKept h ).bind (fun yr21 =>
if yr21 = true then
(fX11_fails h (1 : Int32)).bind (fun yr26 =>
some (yr26.1, yr26.2))
else
(fX11_skinNamed h x0).bind (fun yr22 =>
wlet (wuI h 188 36 yr22) (fun yh23 =>
if 0 ≤ (yh23.1 188 36) then
(fX11_nextToken yh23 ).bind (fun yr24 =>
some (true, yr24))
else
(fX11_fails yh23 (2 : Int32)).bind (fun yr25 =>
some (yr25.1, yr25.2)))))
def fX11_needsText (h : wSt) : Option (Bool × wSt) :=
(fX11_isKept h ).bind (fun yr21 =>
if yr21 = true then
(fX11_fails h (1 : Int32)).bind (fun yr26 =>
some (yr26.1, yr26.2))
else
(fX11_textNamed h (0 : Int32)).bind (fun yr22 =>
wlet (wuI h 188 36 yr22) (fun yh23 =>
if 0 ≤ (yh23.1 188 36) then
(fX11_nextToken yh23 ).bind (fun yr24 =>
some (true, yr24))
else
(fX11_fails yh23 (2 : Int32)).bind (fun yr25 =>
some (yr25.1, yr25.2)))))
def fX11_readsSkin (h : wSt) : Option (Bool × wSt) :=
if (3 + (h.1 190 3)) = 6 then
(fX11_fails h (5 : Int32)).bind (fun yr32 =>
some (yr32.1, yr32.2))
else
(fX11_nextToken h ).bind (fun yr21 =>
(fX11_needsNew yr21 ).bind (fun yr22 =>
if yr22.1 = true then
(fX11_needsBoth yr22.2 (6564799 : Int64) (1 : Int32) (6 : Int32)).bind (fun yr23 =>
if yr23.1 = true then
if wib (3 + (h.1 190 3)) 6 then
wlet (wuI yr23.2 193 (3 + (h.1 190 3)).toNatClampNeg (yr23.2.1 188 36)) (fun yh25 =>
(fX11_needsBoth yh25 (10792937 : Int64) (1 : Int32) (30 : Int32)).bind (fun yr26 =>
if yr26.1 = true then
wlet (wuI yr26.2 194 (3 + (h.1 190 3)).toNatClampNeg (yr26.2.1 188 36)) (fun yh27 =>
wlet (wuI yh27 195 (3 + (h.1 190 3)).toNatClampNeg 0) (fun yh28 =>
wlet (wuJ yh28 191 (3 + (h.1 190 3)).toNatClampNeg (yh28.2 188 37)) (fun yh29 =>
wlet (wuI yh29 190 3 ((yh29.1 190 3) + 1)) (fun yh30 =>
(fX11_closes yh30 ).bind (fun yr31 =>
some (yr31.1, yr31.2))))))
else
some (false, yr26.2)))
else none
else
some (false, yr23.2))
else
some (false, yr22.2)))
def fX11_readsHole (h : wSt) : Option (Bool × wSt) :=
(fX11_nextToken h ).bind (fun yr21 =>
(fX11_needsSkin yr21 (1 : Int32)).bind (fun yr22 =>
if yr22.1 = true then
if (yr22.2.1 188 6) = 2 then
if wib (3 + (yr22.2.1 188 36)) 6 then
if (yr22.2.1 188 8) < (yr22.2.1 193 (3 + (yr22.2.1 188 36)).toNatClampNeg) then
if (((yr22.2.1 195 (3 + (yr22.2.1 188 36)).toNatClampNeg) >>> ((yr22.2.1 188 8) &&& 31)) &&& 1) = 1 then
(fX11_fails yr22.2 (3 : Int32)).bind (fun yr27 =>
some (yr27.1, yr27.2))
else
wlet (wuI yr22.2 195 (3 + (yr22.2.1 188 36)).toNatClampNeg ((yr22.2.1 195 (3 + (yr22.2.1 188 36)).toNatClampNeg) ||| (1 <<< ((yr22.2.1 188 8) &&& 31)))) (fun yh24 =>
(fX11_nextToken yh24 ).bind (fun yr25 =>
(fX11_closes yr25 ).bind (fun yr26 =>
some (yr26.1, yr26.2))))
else
(fX11_fails yr22.2 (4 : Int32)).bind (fun yr28 =>
some (yr28.1, yr28.2))
else none
else
(fX11_fails yr22.2 (1 : Int32)).bind (fun yr29 =>
some (yr29.1, yr29.2))
else
some (false, yr22.2)))
def fX11_readsText_b151 (h : wSt) (v1 : Int32) (w1 : Int32) (w2 : Int32) : Option (Bool × wSt) :=
if wib w1 12 then
wlet (wuI h 197 w1.toNatClampNeg w2) (fun yh34 =>
if wib v1 12 then
if 0 ≤ (yh34.1 197 v1.toNatClampNeg) then
(fX11_nextToken yh34 ).bind (fun yr36 =>
(fX11_needsBoth yr36 (6564799 : Int64) (1 : Int32) (6 : Int32)).bind (fun yr37 =>
if yr37.1 = true then
wlet (wuI yr37.2 198 v1.toNatClampNeg (yr37.2.1 188 36)) (fun yh38 =>
wlet (wuJ yh38 192 v1.toNatClampNeg (yh38.2 188 37)) (fun yh39 =>
wlet (wuI yh39 190 4 ((yh39.1 190 4) + 1)) (fun yh40 =>
(fX11_closes yh40 ).bind (fun yr41 =>
some (yr41.1, yr41.2)))))
else
some (false, yr37.2)))
else
(fX11_fails yh34 (1 : Int32)).bind (fun yr42 =>
some (yr42.1, yr42.2))
else none)
else none
def fX11_readsText_b97 (h : wSt) (v1 : Int32) (w1 : Int32) (w2 : Int32) : Option (Bool × wSt) :=
if wib w1 12 then
wlet (wuI h 196 w1.toNatClampNeg w2) (fun yh28 =>
if wib v1 12 then
if 0 ≤ (yh28.1 196 v1.toNatClampNeg) then
(fX11_nextToken yh28 ).bind (fun yr30 =>
(fX11_isWord yr30 (138846 : Int64)).bind (fun yr31 =>
if yr31 = true then
fX11_readsText_b151 yr30 v1 v1 (1 : Int32)
else
(fX11_isWord yr30 (385337 : Int64)).bind (fun yr32 =>
if yr32 = true then
fX11_readsText_b151 yr30 v1 v1 (0 : Int32)
else
fX11_readsText_b151 yr30 v1 v1 (-1 : Int32))))
else
(fX11_fails yh28 (1 : Int32)).bind (fun yr43 =>
some (yr43.1, yr43.2))
else none)
else none
def fX11_readsText (h : wSt) : Option (Bool × wSt) :=
if (6 + (h.1 190 4)) = 12 then
(fX11_fails h (5 : Int32)).bind (fun yr44 =>
some (yr44.1, yr44.2))
else
(fX11_nextToken h ).bind (fun yr21 =>
(fX11_needsNew yr21 ).bind (fun yr22 =>
if yr22.1 = true then
(fX11_isWord yr22.2 (1277953191 : Int64)).bind (fun yr23 =>
if yr23 = true then
fX11_readsText_b97 yr22.2 (6 + (h.1 190 4)) (6 + (h.1 190 4)) (0 : Int32)
else
(fX11_isWord yr22.2 (8878099 : Int64)).bind (fun yr24 =>
if yr24 = true then
fX11_readsText_b97 yr22.2 (6 + (h.1 190 4)) (6 + (h.1 190 4)) (1 : Int32)
else
(fX11_isWord yr22.2 (261003578 : Int64)).bind (fun yr25 =>
if yr25 = true then
fX11_readsText_b97 yr22.2 (6 + (h.1 190 4)) (6 + (h.1 190 4)) (2 : Int32)
else
(fX11_isWord yr22.2 (296522 : Int64)).bind (fun yr26 =>
if yr26 = true then
fX11_readsText_b97 yr22.2 (6 + (h.1 190 4)) (6 + (h.1 190 4)) (3 : Int32)
else
fX11_readsText_b97 yr22.2 (6 + (h.1 190 4)) (6 + (h.1 190 4)) (-1 : Int32)))))
else
some (false, yr22.2)))
def fX11_readsDamp_b36_19 (h : wSt) : Option ((wSt) ⊕ ((wSt) ⊕ (Bool × wSt))) :=
if (h.1 188 6) = 2 then
if (h.1 188 8) ≤ 9 then
if (h.1 190 5) = 12 then
(fX11_fails h (5 : Int32)).bind (fun yr26 =>
some (.inr (.inr (yr26.1, yr26.2))))
else
if wib (12 + (h.1 190 5)) 24 then
wlet (wuI h 199 (12 + (h.1 190 5)).toNatClampNeg (h.1 188 8)) (fun yh23 =>
wlet (wuI yh23 190 5 ((yh23.1 190 5) + 1)) (fun yh24 =>
(fX11_nextToken yh24 ).bind (fun yr25 =>
some (.inl yr25))))
else none
else
(fX11_fails h (4 : Int32)).bind (fun yr27 =>
some (.inr (.inr (yr27.1, yr27.2))))
else
(fX11_fails h (1 : Int32)).bind (fun yr28 =>
some (.inr (.inr (yr28.1, yr28.2))))
def fX11_readsDamp_l19 (h : wSt) : Option ((wSt) ⊕ ((wSt) ⊕ (Bool × wSt))) :=
if (h.1 190 5) = 0 then
fX11_readsDamp_b36_19 h
else
if (h.1 188 6) = 2 then
fX11_readsDamp_b36_19 h
else
some (.inr (.inl h))
def fX11_readsDamp (h : wSt) : Option (Bool × wSt) :=
if (h.1 190 5) ≤ 0 then
(fX11_nextToken h ).bind (fun yr21 =>
(wit (fun v : (wSt) => fX11_readsDamp_l19 v ) 3000 yr21).bind (fun ye29 => match ye29 with
| .inl ye29v =>
(fX11_closes ye29v ).bind (fun yr31 =>
some (yr31.1, yr31.2))
| .inr ye29r =>
some ye29r))
else
(fX11_fails h (3 : Int32)).bind (fun yr32 =>
some (yr32.1, yr32.2))
def fX11_readsShows (h : wSt) : Option (Bool × wSt) :=
if (h.1 201 1) ≤ (h.1 200 1) then
(fX11_nextToken h ).bind (fun yr21 =>
wlet (wuI yr21 200 1 (yr21.1 188 23)) (fun yh22 =>
(fX11_reads yh22 ).bind (fun yr23 =>
if yr23.1 = true then
wlet (wuI yr23.2 201 1 (yr23.2.1 188 23)) (fun yh24 =>
some (true, yh24))
else
some (false, yr23.2))))
else
(fX11_fails h (3 : Int32)).bind (fun yr25 =>
some (yr25.1, yr25.2))
def fX11_begins (h : wSt) : Option (wSt) :=
wlet (wuI h 188 3 (h.1 188 1)) (fun yh21 =>
wlet (wuI yh21 188 1 0) (fun yh22 =>
wlet (wuI yh22 188 4 0) (fun yh23 =>
(fX11_nextToken yh23 ).bind (fun yr24 =>
some yr24))))
def fX11_readsAll_l2 (h : wSt) (v1 : Int32) : Option ((Int32 × wSt) ⊕ ((wSt))) :=
if 3 ≤ v1 then
some (.inr h)
else
if wib (3 + v1) 6 then
wlet (wuI h 190 (3 + v1).toNatClampNeg 0) (fun yh22 =>
some (.inl ((v1 + 1), yh22)))
else none
def fX11_readsAll_b148_51 (h : wSt) (w0 : Int32) : Option ((wSt) ⊕ ((wSt) ⊕ (Bool × wSt))) :=
if w0 = 0 then
some (.inr (.inr (false, h)))
else
some (.inl h)
def fX11_readsAll_l51 (h : wSt) : Option ((wSt) ⊕ ((wSt) ⊕ (Bool × wSt))) :=
if (h.1 188 6) = 0 then
some (.inr (.inl h))
else
(fX11_isWord h (382253 : Int64)).bind (fun yr29 =>
if yr29 = true then
(fX11_readsSkin h ).bind (fun yr39 =>
fX11_readsAll_b148_51 yr39.2 (wb yr39.1))
else
(fX11_isWord h (168728 : Int64)).bind (fun yr30 =>
if yr30 = true then
(fX11_readsHole h ).bind (fun yr38 =>
fX11_readsAll_b148_51 yr38.2 (wb yr38.1))
else
(fX11_isWord h (397973 : Int64)).bind (fun yr31 =>
if yr31 = true then
(fX11_readsText h ).bind (fun yr37 =>
fX11_readsAll_b148_51 yr37.2 (wb yr37.1))
else
(fX11_isWord h (79828 : Int64)).bind (fun yr32 =>
if yr32 = true then
(fX11_readsDamp h ).bind (fun yr36 =>
fX11_readsAll_b148_51 yr36.2 (wb yr36.1))
else
(fX11_isWord h (10266418 : Int64)).bind (fun yr33 =>
if yr33 = true then
(fX11_readsShows h ).bind (fun yr35 =>
fX11_readsAll_b148_51 yr35.2 (wb yr35.1))
else
(fX11_fails h (1 : Int32)).bind (fun yr34 =>
fX11_readsAll_b148_51 yr34.2 (wb yr34.1)))))))
def fX11_readsAll (h : wSt) : Option (Bool × wSt) :=
(wit (fun v : (Int32 × wSt) => fX11_readsAll_l2 v.2 v.1) 3000 ((0 : Int32), h)).bind (fun ye23 =>
wlet (wuI ye23 200 1 1000) (fun yh25 =>
wlet (wuI yh25 201 1 1000) (fun yh26 =>
wlet (wuI yh26 188 23 1000) (fun yh27 =>
(fX11_begins yh27 ).bind (fun yr28 =>
(wit (fun v : (wSt) => fX11_readsAll_l51 v ) 3000 yr28).bind (fun ye40 => match ye40 with
| .inl ye40v =>
some (true, ye40v)
| .inr ye40r =>
some ye40r))))))
def fX11_shifts_l2 (h : wSt) (a0 : Nat) (g0 : Nat) (v1 : Int32) (v2 : Int32) : Option ((Int32 × wSt) ⊕ ((wSt))) :=
if v1 ≤ v2 then
some (.inr h)
else
if wib (v1 + v2) g0 then
if wib v2 g0 then
wlet (wuI h a0 v2.toNatClampNeg (h.1 a0 (v1 + v2).toNatClampNeg)) (fun yh23 =>
some (.inl ((v2 + 1), yh23)))
else none
else none
def fX11_shifts (h : wSt) (a0 : Nat) (g0 : Nat) (x1 : Int32) : Option (wSt) :=
(wit (fun v : (Int32 × wSt) => fX11_shifts_l2 v.2 a0 g0 x1 v.1) 3000 ((0 : Int32), h)).bind (fun ye24 =>
some ye24)
def fX11_shiftsNames_l2 (h : wSt) (a0 : Nat) (g0 : Nat) (v1 : Int32) (v2 : Int32) : Option ((Int32 × wSt) ⊕ ((wSt))) :=
if v1 ≤ v2 then
some (.inr h)
else
if wib (v1 + v2) g0 then
if wib v2 g0 then
wlet (wuJ h a0 v2.toNatClampNeg (h.2 a0 (v1 + v2).toNatClampNeg)) (fun yh23 =>
some (.inl ((v2 + 1), yh23)))
else none
else none
def fX11_shiftsNames (h : wSt) (a0 : Nat) (g0 : Nat) (x1 : Int32) : Option (wSt) :=
(wit (fun v : (Int32 × wSt) => fX11_shiftsNames_l2 v.2 a0 g0 x1 v.1) 3000 ((0 : Int32), h)).bind (fun ye24 =>
some ye24)
def fX11_lays (h : wSt) : Option (wSt) :=
(fX11_shifts h 190 6 (3 : Int32)).bind (fun yr21 =>
(fX11_shiftsNames yr21 191 6 (3 : Int32)).bind (fun yr22 =>
(fX11_shiftsNames yr22 192 12 (6 : Int32)).bind (fun yr23 =>
(fX11_shifts yr23 193 6 (3 : Int32)).bind (fun yr24 =>
(fX11_shifts yr24 194 6 (3 : Int32)).bind (fun yr25 =>
(fX11_shifts yr25 195 6 (3 : Int32)).bind (fun yr26 =>
(fX11_shifts yr26 196 12 (6 : Int32)).bind (fun yr27 =>
(fX11_shifts yr27 197 12 (6 : Int32)).bind (fun yr28 =>
(fX11_shifts yr28 198 12 (6 : Int32)).bind (fun yr29 =>
(fX11_shifts yr29 199 24 (12 : Int32)).bind (fun yr30 =>
(fX11_shifts yr30 202 2000 (1000 : Int32)).bind (fun yr31 =>
wlet (wuI yr31 200 0 ((yr31.1 200 1) - 1000)) (fun yh32 =>
wlet (wuI yh32 201 0 ((yh32.1 201 1) - 1000)) (fun yh33 =>
some yh33)))))))))))))
section WX
variable {p : Program} {l : Launch} {e : Env} {s : State} {m : MethodId} {args : Array Value} {below : List Frame} {meth : Method} {c : Code} {D : va_G} {dA : Nat → ClassId} {b0 : Nat} {ad : Nat → Nat} {F : Option Value → wSt → Prop}
set_option maxRecDepth 4000 in
theorem pX11_thrown_b0 (X : wCx p s m args meth c RX11 cX11_thrown 1 D dA b0 ad) (hr : meth.sig.returnType = (some .int)) {h : wSt} {K : Int32 → Prop} (hT : ∀ (x : Int32), K x → F (some (.int x)) h) (hf : wok (fX11_thrown h ) K) : wM p l e (wR 1) s m args below meth c 0 0 (wE below args s D dA b0 ad S0 F) 1 D dA b0 ad S0 0 [some (.ref 188)] [] h := by
  unfold fX11_thrown at hf
  refine w_aload_n X dX11_thrown_0 rfl rfl rfl ?_
  refine w_getI X dX11_thrown_1 rfl fl_X11_144 S0_188 rfl ?_
  exact w_iret X dX11_thrown_4 hr (hT _ (wok_s hf))
set_option maxRecDepth 4000 in
theorem kX11_thrown (l : Launch) {h : wSt} {res : Int32} (hf : fX11_thrown h  = some res) : wC l yX11_thrown cX11_thrown 1 (some .int) 1 S0 [.ref 188] h (wFI (fun a b => res = a ∧ h = b)) := by
  refine w_meth2 0 (by decide) (Nat.le_of_ble_eq_true rfl) (ls := [some (.ref 188)]) rfl ?_
  intro p e s m args below meth c D dA b0 ad X hr
  exact pX11_thrown_b0 X hr  (K := fun z => res = z) (fun x hz => ⟨x, rfl, hz, rfl⟩) ⟨res, hf, rfl⟩
set_option maxRecDepth 4000 in
theorem pX11_within_b0 (X : wCx p s m args meth c RX11 cX11_within 3 D dA b0 ad) (hr : meth.sig.returnType = (some .boolean)) {h : wSt} {x0 : Int32} {x1 : Int32} {x2 : Int32} {K : Bool → Prop} (hT : ∀ (x : Bool), K x → F (some (.int (wb x))) h) (hf : wok (fX11_within h x0 x1 x2) K) : wM p l e (wR 1) s m args below meth c 0 0 (wE below args s D dA b0 ad S0 F) 3 D dA b0 ad S0 0 [some (.int x0), some (.int x1), some (.int x2)] [] h := by
  unfold fX11_within at hf
  refine w_iload_n X dX11_within_0 rfl rfl rfl ?_
  refine w_iload_n X dX11_within_1 rfl rfl rfl ?_
  refine w_icmp_lt X dX11_within_2 rfl (t := 14) rfl (fun hc => ?_) (fun hc => ?_)
  · have hf := wok_t hf hc
    refine w_iconst X dX11_within_14 rfl ci_0 ?_
    exact w_zret X dX11_within_15 hr rfl (hT false (wok_s hf))
  · have hf := wok_f hf hc
    refine w_iload_n X dX11_within_5 rfl rfl rfl ?_
    refine w_iload_n X dX11_within_6 rfl rfl rfl ?_
    refine w_icmp_gt X dX11_within_7 rfl (t := 14) rfl (fun hc => ?_) (fun hc => ?_)
    · have hf := wok_t hf hc
      refine w_iconst X dX11_within_14 rfl ci_0 ?_
      exact w_zret X dX11_within_15 hr rfl (hT false (wok_s hf))
    · have hf := wok_f hf hc
      refine w_iconst X dX11_within_10 rfl ci_1 ?_
      refine w_goto X dX11_within_11 (t := 15) rfl ?_
      exact w_zret X dX11_within_15 hr rfl (hT true (wok_s hf))
set_option maxRecDepth 4000 in
theorem kX11_within (l : Launch) {h : wSt} {x0 : Int32} {x1 : Int32} {x2 : Int32} {res : Bool} (hf : fX11_within h x0 x1 x2 = some res) : wC l yX11_within cX11_within 3 (some .boolean) 1 S0 [.int x0, .int x1, .int x2] h (wFZ (fun a b => res = a ∧ h = b)) := by
  refine w_meth2 0 (by decide) (Nat.le_of_ble_eq_true rfl) (ls := [some (.int x0), some (.int x1), some (.int x2)]) rfl ?_
  intro p e s m args below meth c D dA b0 ad X hr
  exact pX11_within_b0 X hr  (K := fun z => res = z) (fun x hz => ⟨x, rfl, hz, rfl⟩) ⟨res, hf, rfl⟩
set_option maxRecDepth 4000 in
theorem pX11_bits_l4b (X : wCx p s m args meth c RX11 cX11_bits 3 D dA b0 ad) (hr : meth.sig.returnType = (some .int)) {h : wSt} {v0 : Int32} {v1 : Int32} {v2 : Int32} {K : (Int32 × Int32) ⊕ ((Int32)) → Prop} (hN : ∀ (n1 : Int32) (n2 : Int32), K (.inl (n1, n2)) → wM p l e (wR 1) s m args below meth c 0 0 (wE below args s D dA b0 ad S0 F) 3 D dA b0 ad S0 4 [some (.int v0), some (.int n1), some (.int n2)] [] h) (hX0 : ∀ (n1 : Int32), K (.inr n1) → wM p l e (wR 1) s m args below meth c 0 0 (wE below args s D dA b0 ad S0 F) 3 D dA b0 ad S0 24 [none, some (.int n1), none] [] h) (hf : wok (fX11_bits_l4 h v0 v1 v2) K) : wM p l e (wR 1) s m args below meth c 0 0 (wE below args s D dA b0 ad S0 F) 3 D dA b0 ad S0 4 [some (.int v0), some (.int v1), some (.int v2)] [] h := by
  unfold fX11_bits_l4 at hf
  refine w_iload_n X dX11_bits_4 rfl rfl rfl ?_
  refine w_bipush X dX11_bits_5 rfl cb_6 ?_
  refine w_icmp_ge X dX11_bits_7 rfl (t := 24) rfl (fun hc => ?_) (fun hc => ?_)
  · have hf := wok_t hf hc
    refine w_fg (ls2 := [none, some (.int v1), none]) ⟨rfl, trivial⟩ ?_
    exact hX0 _ (wok_s hf)
  · have hf := wok_f hf hc
    refine w_iload_n X dX11_bits_10 rfl rfl rfl ?_
    refine w_iload_n X dX11_bits_11 rfl rfl rfl ?_
    refine w_iload_n X dX11_bits_12 rfl rfl rfl ?_
    refine w_ishr X dX11_bits_13 rfl ?_
    refine w_iconst X dX11_bits_14 rfl ci_1 ?_
    refine w_iand X dX11_bits_15 rfl ?_
    refine w_iadd X dX11_bits_16 rfl ?_
    refine w_topi (fun yx21 eyx21 => ?_)
    have hf := wok_l hf eyx21
    refine w_istore_n X dX11_bits_17 rfl rfl rfl (Nat.le_of_ble_eq_true rfl) (ls' := [some (.int v0), some (.int yx21), some (.int v2)]) rfl ?_
    refine w_iinc X dX11_bits_18 rfl (v := (v2 + 1)) rfl rfl (Nat.le_of_ble_eq_true rfl) (cinc_1 _) (ls' := [some (.int v0), some (.int yx21), some (.int (v2 + 1))]) rfl ?_
    refine w_goto X dX11_bits_21 (t := 4) rfl ?_
    exact hN _ _ (wok_s hf)
set_option maxRecDepth 4000 in
theorem pX11_bits_l4 (X : wCx p s m args meth c RX11 cX11_bits 3 D dA b0 ad) (hr : meth.sig.returnType = (some .int)) {h : wSt} {v0 : Int32} {KE : (Int32) → Prop} (hX0 : ∀ (n1 : Int32), KE (n1) → wM p l e (wR 1) s m args below meth c 0 0 (wE below args s D dA b0 ad S0 F) 3 D dA b0 ad S0 24 [none, some (.int n1), none] [] h) : ∀ (n : Nat) (v1 : Int32) (v2 : Int32), wok (wit (fun v : (Int32 × Int32) => fX11_bits_l4 h v0 v.1 v.2) n (v1, v2)) KE → wM p l e (wR 1) s m args below meth c 0 0 (wE below args s D dA b0 ad S0 F) 3 D dA b0 ad S0 4 [some (.int v0), some (.int v1), some (.int v2)] [] h := by
  have key := wit_M (b := (fun v : (Int32 × Int32) => fX11_bits_l4 h v0 v.1 v.2)) (KE := KE) (G := fun v => wM p l e (wR 1) s m args below meth c 0 0 (wE below args s D dA b0 ad S0 F) 3 D dA b0 ad S0 4 [some (.int v0), some (.int v.1), some (.int v.2)] [] h) (fun v K hN hE hf => pX11_bits_l4b X hr  (fun n1 n2 hz => hN (n1, n2) hz) (fun z0 hz => hX0 z0 (hE _ hz)) hf)
  exact fun n v1 v2 hf => key n (v1, v2) hf
set_option maxRecDepth 4000 in
theorem pX11_bits_b0 (X : wCx p s m args meth c RX11 cX11_bits 3 D dA b0 ad) (hr : meth.sig.returnType = (some .int)) {h : wSt} {x0 : Int32} {K : Int32 → Prop} (hT : ∀ (x : Int32), K x → F (some (.int x)) h) (hf : wok (fX11_bits h x0) K) : wM p l e (wR 1) s m args below meth c 0 0 (wE below args s D dA b0 ad S0 F) 3 D dA b0 ad S0 0 [some (.int x0), none, none] [] h := by
  unfold fX11_bits at hf
  refine w_iconst X dX11_bits_0 rfl ci_0 ?_
  refine w_istore_n X dX11_bits_1 rfl rfl rfl (Nat.le_of_ble_eq_true rfl) (ls' := [some (.int x0), some (.int 0), none]) rfl ?_
  refine w_iconst X dX11_bits_2 rfl ci_0 ?_
  refine w_istore_n X dX11_bits_3 rfl rfl rfl (Nat.le_of_ble_eq_true rfl) (ls' := [some (.int x0), some (.int 0), some (.int 0)]) rfl ?_
  obtain ⟨ye22, hye22, hf⟩ := wok_b hf
  refine pX11_bits_l4 X hr  (KE := fun z => ye22 = z) ?_ 3000 _ _ ⟨ye22, hye22, rfl⟩
  · intro yz23 hz
    subst hz
    refine w_iload_n X dX11_bits_24 rfl rfl rfl ?_
    exact w_iret X dX11_bits_25 hr (hT _ (wok_s hf))
set_option maxRecDepth 4000 in
theorem kX11_bits (l : Launch) {h : wSt} {x0 : Int32} {res : Int32} (hf : fX11_bits h x0 = some res) : wC l yX11_bits cX11_bits 3 (some .int) 1 S0 [.int x0] h (wFI (fun a b => res = a ∧ h = b)) := by
  refine w_meth2 2 (by decide) (Nat.le_of_ble_eq_true rfl) (ls := [some (.int x0), none, none]) rfl ?_
  intro p e s m args below meth c D dA b0 ad X hr
  exact pX11_bits_b0 X hr  (K := fun z => res = z) (fun x hz => ⟨x, rfl, hz, rfl⟩) ⟨res, hf, rfl⟩
set_option maxRecDepth 4000 in
theorem pX11_feed_b114_8 (X : wCx p s m args meth c RX11 cX11_feed 11 D dA b0 ad) (hr : meth.sig.returnType = (some .int)) {h : wSt} {v1 : Int64} {v3 : Int64} {v5 : Int64} {v7 : Int32} {K : (Int32 × wSt) ⊕ ((wSt)) → Prop} (hN : ∀ (n7 : Int32) (nh : wSt), K (.inl (n7, nh)) → wM p l e (wR 1) s m args below meth c 0 0 (wE below args s D dA b0 ad S0 F) 11 D dA b0 ad S0 8 [some (.ref 188), some (.long v1), none, some (.long v3), none, some (.long v5), none, some (.int n7), none, none, none] [] nh) (hX0 : ∀ (nh : wSt), K (.inr nh) → wM p l e (wR 1) s m args below meth c 0 0 (wE below args s D dA b0 ad S0 F) 11 D dA b0 ad S0 120 [some (.ref 188), none, none, none, none, none, none, none, none, none, none] [] nh) (hf : wok (fX11_feed_b114_8 h v1 v3 v5 v7) K) : wM p l e (wR 1) s m args below meth c 0 0 (wE below args s D dA b0 ad S0 F) 11 D dA b0 ad S0 114 [some (.ref 188), some (.long v1), none, some (.long v3), none, some (.long v5), none, some (.int v7), none, none, none] [] h := by
  unfold fX11_feed_b114_8 at hf
  refine w_iinc X dX11_feed_114 rfl (v := (v7 + 1)) rfl rfl (Nat.le_of_ble_eq_true rfl) (cinc_1 _) (ls' := [some (.ref 188), some (.long v1), none, some (.long v3), none, some (.long v5), none, some (.int (v7 + 1)), none, none, none]) rfl ?_
  refine w_goto X dX11_feed_117 (t := 8) rfl ?_
  exact hN _ _ (wok_s hf)
set_option maxRecDepth 4000 in
theorem pX11_feed_b93_8 (X : wCx p s m args meth c RX11 cX11_feed 11 D dA b0 ad) (hr : meth.sig.returnType = (some .int)) {h : wSt} {v1 : Int64} {v3 : Int64} {v5 : Int64} {v7 : Int32} {v10 : Int32} {K : (Int32 × wSt) ⊕ ((wSt)) → Prop} (hN : ∀ (n7 : Int32) (nh : wSt), K (.inl (n7, nh)) → wM p l e (wR 1) s m args below meth c 0 0 (wE below args s D dA b0 ad S0 F) 11 D dA b0 ad S0 8 [some (.ref 188), some (.long v1), none, some (.long v3), none, some (.long v5), none, some (.int n7), none, none, none] [] nh) (hX0 : ∀ (nh : wSt), K (.inr nh) → wM p l e (wR 1) s m args below meth c 0 0 (wE below args s D dA b0 ad S0 F) 11 D dA b0 ad S0 120 [some (.ref 188), none, none, none, none, none, none, none, none, none, none] [] nh) (hf : wok (fX11_feed_b93_8 h v1 v3 v5 v7 v10) K) : wM p l e (wR 1) s m args below meth c 0 0 (wE below args s D dA b0 ad S0 F) 11 D dA b0 ad S0 93 [some (.ref 188), some (.long v1), none, some (.long v3), none, some (.long v5), none, some (.int v7), none, none, some (.int v10)] [] h := by
  unfold fX11_feed_b93_8 at hf
  refine w_aload_n X dX11_feed_93 rfl rfl rfl ?_
  refine w_getR X dX11_feed_94 rfl fl_X11_7 S0_188 rfl ?_
  refine w_aload_n X dX11_feed_97 rfl rfl rfl ?_
  refine w_getI X dX11_feed_98 rfl fl_X11_150 S0_188 rfl ?_
  refine w_iload X dX11_feed_101 rfl rfl ?_
  obtain ⟨yhg23, hf⟩ := wok_g hf
  refine w_iast X dX11_feed_103 rfl (j := (h.1 188 1).toNatClampNeg) rfl S0_189 yhg23 ?_
  refine w_nmh (fun yh24 eyh24 => ?_)
  have hf := wok_l hf eyh24
  refine w_aload_n X dX11_feed_104 rfl rfl rfl ?_
  refine w_dup X dX11_feed_105 rfl rfl ?_
  refine w_getI X dX11_feed_106 rfl fl_X11_150 S0_188 rfl ?_
  refine w_iconst X dX11_feed_109 rfl ci_1 ?_
  refine w_iadd X dX11_feed_110 rfl ?_
  refine w_putI X dX11_feed_111 rfl fp_X11_150 S0_188 rfl ?_
  refine w_nmh (fun yh25 eyh25 => ?_)
  have hf := wok_l hf eyh25
  refine w_fg (ls2 := [some (.ref 188), some (.long v1), none, some (.long v3), none, some (.long v5), none, some (.int v7), none, none, none]) ⟨rfl, rfl, rfl, rfl, rfl, trivial⟩ ?_
  exact pX11_feed_b114_8 X hr  hN hX0 hf
set_option maxRecDepth 4000 in
theorem pX11_feed_b39_8 (X : wCx p s m args meth c RX11 cX11_feed 11 D dA b0 ad) (hr : meth.sig.returnType = (some .int)) {h : wSt} {v1 : Int64} {v3 : Int64} {v5 : Int64} {v7 : Int32} {w0 : Int64} {K : (Int32 × wSt) ⊕ ((wSt)) → Prop} (hN : ∀ (n7 : Int32) (nh : wSt), K (.inl (n7, nh)) → wM p l e (wR 1) s m args below meth c 0 0 (wE below args s D dA b0 ad S0 F) 11 D dA b0 ad S0 8 [some (.ref 188), some (.long v1), none, some (.long v3), none, some (.long v5), none, some (.int n7), none, none, none] [] nh) (hX0 : ∀ (nh : wSt), K (.inr nh) → wM p l e (wR 1) s m args below meth c 0 0 (wE below args s D dA b0 ad S0 F) 11 D dA b0 ad S0 120 [some (.ref 188), none, none, none, none, none, none, none, none, none, none] [] nh) (hf : wok (fX11_feed_b39_8 h v1 v3 v5 v7 w0) K) : wM p l e (wR 1) s m args below meth c 0 0 (wE below args s D dA b0 ad S0 F) 11 D dA b0 ad S0 39 [some (.ref 188), some (.long v1), none, some (.long v3), none, some (.long v5), none, some (.int v7), none, none, none] [.long w0] h := by
  unfold fX11_feed_b39_8 at hf
  refine w_lstore X dX11_feed_39 rfl rfl (Nat.le_of_ble_eq_true rfl) (ls' := [some (.ref 188), some (.long v1), none, some (.long v3), none, some (.long v5), none, some (.int v7), some (.long w0), none, none]) rfl ?_
  refine w_lload X dX11_feed_41 rfl rfl ?_
  refine w_bipush X dX11_feed_43 rfl cb_56 ?_
  refine w_bipush X dX11_feed_45 rfl cb_8 ?_
  refine w_iload X dX11_feed_47 rfl rfl ?_
  refine w_bipush X dX11_feed_49 rfl cb_7 ?_
  refine w_iand X dX11_feed_51 rfl ?_
  refine w_imul X dX11_feed_52 rfl ?_
  refine w_isub X dX11_feed_53 rfl ?_
  refine w_lushr X dX11_feed_54 rfl ?_
  refine w_ldc2 X dX11_feed_55 rfl wd_1361 ?_
  refine w_land X dX11_feed_58 rfl ?_
  refine w_l2i X dX11_feed_59 rfl ?_
  refine w_topi (fun yx22 eyx22 => ?_)
  have hf := wok_l hf eyx22
  refine w_istore X dX11_feed_60 rfl rfl (Nat.le_of_ble_eq_true rfl) (ls' := [some (.ref 188), some (.long v1), none, some (.long v3), none, some (.long v5), none, some (.int v7), some (.long w0), none, some (.int yx22)]) rfl ?_
  refine w_aload_n X dX11_feed_62 rfl rfl rfl ?_
  refine w_getI X dX11_feed_63 rfl fl_X11_150 S0_188 rfl ?_
  refine w_sipush X dX11_feed_66 rfl cs_1000 ?_
  refine w_icmp_ge X dX11_feed_69 rfl (t := 114) rfl (fun hc => ?_) (fun hc => ?_)
  · have hf := wok_t hf hc
    refine w_fg (ls2 := [some (.ref 188), some (.long v1), none, some (.long v3), none, some (.long v5), none, some (.int v7), none, none, none]) ⟨rfl, rfl, rfl, rfl, rfl, trivial⟩ ?_
    exact pX11_feed_b114_8 X hr  hN hX0 hf
  · have hf := wok_f hf hc
    refine w_iload X dX11_feed_72 rfl rfl ?_
    refine w_bipush X dX11_feed_74 rfl cb_10 ?_
    refine w_icmp_eq X dX11_feed_76 rfl (t := 93) rfl (fun hc => ?_) (fun hc => ?_)
    · have hf := wok_t hf hc
      refine w_fg (ls2 := [some (.ref 188), some (.long v1), none, some (.long v3), none, some (.long v5), none, some (.int v7), none, none, some (.int yx22)]) ⟨rfl, rfl, rfl, rfl, rfl, rfl, trivial⟩ ?_
      exact pX11_feed_b93_8 X hr  hN hX0 hf
    · have hf := wok_f hf hc
      refine w_iload X dX11_feed_79 rfl rfl ?_
      refine w_bipush X dX11_feed_81 rfl cb_32 ?_
      refine w_icmp_lt X dX11_feed_83 rfl (t := 114) rfl (fun hc => ?_) (fun hc => ?_)
      · have hf := wok_t hf hc
        refine w_fg (ls2 := [some (.ref 188), some (.long v1), none, some (.long v3), none, some (.long v5), none, some (.int v7), none, none, none]) ⟨rfl, rfl, rfl, rfl, rfl, trivial⟩ ?_
        exact pX11_feed_b114_8 X hr  hN hX0 hf
      · have hf := wok_f hf hc
        refine w_iload X dX11_feed_86 rfl rfl ?_
        refine w_bipush X dX11_feed_88 rfl cb_126 ?_
        refine w_icmp_gt X dX11_feed_90 rfl (t := 114) rfl (fun hc => ?_) (fun hc => ?_)
        · have hf := wok_t hf hc
          refine w_fg (ls2 := [some (.ref 188), some (.long v1), none, some (.long v3), none, some (.long v5), none, some (.int v7), none, none, none]) ⟨rfl, rfl, rfl, rfl, rfl, trivial⟩ ?_
          exact pX11_feed_b114_8 X hr  hN hX0 hf
        · have hf := wok_f hf hc
          refine w_fg (ls2 := [some (.ref 188), some (.long v1), none, some (.long v3), none, some (.long v5), none, some (.int v7), none, none, some (.int yx22)]) ⟨rfl, rfl, rfl, rfl, rfl, rfl, trivial⟩ ?_
          exact pX11_feed_b93_8 X hr  hN hX0 hf
set_option maxRecDepth 4000 in
theorem pX11_feed_l8b (X : wCx p s m args meth c RX11 cX11_feed 11 D dA b0 ad) (hr : meth.sig.returnType = (some .int)) {h : wSt} {v1 : Int64} {v3 : Int64} {v5 : Int64} {v7 : Int32} {K : (Int32 × wSt) ⊕ ((wSt)) → Prop} (hN : ∀ (n7 : Int32) (nh : wSt), K (.inl (n7, nh)) → wM p l e (wR 1) s m args below meth c 0 0 (wE below args s D dA b0 ad S0 F) 11 D dA b0 ad S0 8 [some (.ref 188), some (.long v1), none, some (.long v3), none, some (.long v5), none, some (.int n7), none, none, none] [] nh) (hX0 : ∀ (nh : wSt), K (.inr nh) → wM p l e (wR 1) s m args below meth c 0 0 (wE below args s D dA b0 ad S0 F) 11 D dA b0 ad S0 120 [some (.ref 188), none, none, none, none, none, none, none, none, none, none] [] nh) (hf : wok (fX11_feed_l8 h v1 v3 v5 v7) K) : wM p l e (wR 1) s m args below meth c 0 0 (wE below args s D dA b0 ad S0 F) 11 D dA b0 ad S0 8 [some (.ref 188), some (.long v1), none, some (.long v3), none, some (.long v5), none, some (.int v7), none, none, none] [] h := by
  unfold fX11_feed_l8 at hf
  refine w_iload X dX11_feed_8 rfl rfl ?_
  refine w_bipush X dX11_feed_10 rfl cb_24 ?_
  refine w_icmp_ge X dX11_feed_12 rfl (t := 120) rfl (fun hc => ?_) (fun hc => ?_)
  · have hf := wok_t hf hc
    refine w_fg (ls2 := [some (.ref 188), none, none, none, none, none, none, none, none, none, none]) ⟨rfl, trivial⟩ ?_
    exact hX0 _ (wok_s hf)
  · have hf := wok_f hf hc
    refine w_iload X dX11_feed_15 rfl rfl ?_
    refine w_bipush X dX11_feed_17 rfl cb_8 ?_
    refine w_icmp_ge X dX11_feed_19 rfl (t := 26) rfl (fun hc => ?_) (fun hc => ?_)
    · have hf := wok_t hf hc
      refine w_iload X dX11_feed_26 rfl rfl ?_
      refine w_bipush X dX11_feed_28 rfl cb_16 ?_
      refine w_icmp_ge X dX11_feed_30 rfl (t := 37) rfl (fun hc => ?_) (fun hc => ?_)
      · have hf := wok_t hf hc
        refine w_lload X dX11_feed_37 rfl rfl ?_
        exact pX11_feed_b39_8 X hr  hN hX0 hf
      · have hf := wok_f hf hc
        refine w_lload_n X dX11_feed_33 rfl rfl rfl ?_
        refine w_goto X dX11_feed_34 (t := 39) rfl ?_
        exact pX11_feed_b39_8 X hr  hN hX0 hf
    · have hf := wok_f hf hc
      refine w_lload_n X dX11_feed_22 rfl rfl rfl ?_
      refine w_goto X dX11_feed_23 (t := 39) rfl ?_
      exact pX11_feed_b39_8 X hr  hN hX0 hf
set_option maxRecDepth 4000 in
theorem pX11_feed_l8 (X : wCx p s m args meth c RX11 cX11_feed 11 D dA b0 ad) (hr : meth.sig.returnType = (some .int))  {v1 : Int64} {v3 : Int64} {v5 : Int64} {KE : (wSt) → Prop} (hX0 : ∀ (nh : wSt), KE (nh) → wM p l e (wR 1) s m args below meth c 0 0 (wE below args s D dA b0 ad S0 F) 11 D dA b0 ad S0 120 [some (.ref 188), none, none, none, none, none, none, none, none, none, none] [] nh) : ∀ (n : Nat) (v7 : Int32) (h : wSt), wok (wit (fun v : (Int32 × wSt) => fX11_feed_l8 v.2 v1 v3 v5 v.1) n (v7, h)) KE → wM p l e (wR 1) s m args below meth c 0 0 (wE below args s D dA b0 ad S0 F) 11 D dA b0 ad S0 8 [some (.ref 188), some (.long v1), none, some (.long v3), none, some (.long v5), none, some (.int v7), none, none, none] [] h := by
  have key := wit_M (b := (fun v : (Int32 × wSt) => fX11_feed_l8 v.2 v1 v3 v5 v.1)) (KE := KE) (G := fun v => wM p l e (wR 1) s m args below meth c 0 0 (wE below args s D dA b0 ad S0 F) 11 D dA b0 ad S0 8 [some (.ref 188), some (.long v1), none, some (.long v3), none, some (.long v5), none, some (.int v.1), none, none, none] [] v.2) (fun v K hN hE hf => pX11_feed_l8b X hr  (fun n7 nh hz => hN (n7, nh) hz) (fun z0 hz => hX0 z0 (hE _ hz)) hf)
  exact fun n v7 h hf => key n (v7, h) hf
set_option maxRecDepth 4000 in
theorem pX11_feed_b0 (X : wCx p s m args meth c RX11 cX11_feed 11 D dA b0 ad) (hr : meth.sig.returnType = (some .int)) {h : wSt} {x0 : Int64} {x1 : Int64} {x2 : Int64} {K : Int32 × wSt → Prop} (hT : ∀ (x : Int32) (h2 : wSt), K (x, h2) → F (some (.int x)) h2) (hf : wok (fX11_feed h x0 x1 x2) K) : wM p l e (wR 1) s m args below meth c 0 0 (wE below args s D dA b0 ad S0 F) 11 D dA b0 ad S0 0 [some (.ref 188), some (.long x0), none, some (.long x1), none, some (.long x2), none, none, none, none, none] [] h := by
  unfold fX11_feed at hf
  refine w_aload_n X dX11_feed_0 rfl rfl rfl ?_
  refine w_iconst X dX11_feed_1 rfl ci_0 ?_
  refine w_putI X dX11_feed_2 rfl fp_X11_144 S0_188 rfl ?_
  refine w_nmh (fun yh21 eyh21 => ?_)
  have hf := wok_l hf eyh21
  refine w_iconst X dX11_feed_5 rfl ci_0 ?_
  refine w_istore X dX11_feed_6 rfl rfl (Nat.le_of_ble_eq_true rfl) (ls' := [some (.ref 188), some (.long x0), none, some (.long x1), none, some (.long x2), none, some (.int 0), none, none, none]) rfl ?_
  obtain ⟨ye26, hye26, hf⟩ := wok_b hf
  refine pX11_feed_l8 X hr  (KE := fun z => ye26 = z) ?_ 3000 _ _ ⟨ye26, hye26, rfl⟩
  · intro yz27 hz
    subst hz
    refine w_aload_n X dX11_feed_120 rfl rfl rfl ?_
    refine w_getI X dX11_feed_121 rfl fl_X11_150 S0_188 rfl ?_
    exact w_iret X dX11_feed_124 hr (hT _ _ (wok_s hf))
set_option maxRecDepth 4000 in
theorem kX11_feed (l : Launch) {h : wSt} {x0 : Int64} {x1 : Int64} {x2 : Int64} {res : Int32 × wSt} (hf : fX11_feed h x0 x1 x2 = some res) : wC l yX11_feed cX11_feed 11 (some .int) 1 S0 [.ref 188, .long x0, .long x1, .long x2] h (wFI (fun a b => res.1 = a ∧ res.2 = b)) := by
  refine w_meth2 4 (by decide) (Nat.le_of_ble_eq_true rfl) (ls := [some (.ref 188), some (.long x0), none, some (.long x1), none, some (.long x2), none, none, none, none, none]) rfl ?_
  intro p e s m args below meth c D dA b0 ad X hr
  exact pX11_feed_b0 X hr  (K := fun z => res = z) (fun x h2 hz => ⟨x, rfl, by rw [hz], by rw [hz]⟩) ⟨res, hf, rfl⟩
set_option maxRecDepth 4000 in
theorem pX11_signAt_b0 (X : wCx p s m args meth c RX11 cX11_signAt 2 D dA b0 ad) (hr : meth.sig.returnType = (some .int)) {h : wSt} {x0 : Int32} {K : Int32 → Prop} (hT : ∀ (x : Int32), K x → F (some (.int x)) h) (hf : wok (fX11_signAt h x0) K) : wM p l e (wR 1) s m args below meth c 0 0 (wE below args s D dA b0 ad S0 F) 2 D dA b0 ad S0 0 [some (.ref 188), some (.int x0)] [] h := by
  unfold fX11_signAt at hf
  refine w_iload_n X dX11_signAt_0 rfl rfl rfl ?_
  refine w_aload_n X dX11_signAt_1 rfl rfl rfl ?_
  refine w_getI X dX11_signAt_2 rfl fl_X11_153 S0_188 rfl ?_
  refine w_icmp_ge X dX11_signAt_5 rfl (t := 17) rfl (fun hc => ?_) (fun hc => ?_)
  · have hf := wok_t hf hc
    refine w_iconst X dX11_signAt_17 rfl ci_0 ?_
    exact w_iret X dX11_signAt_18 hr (hT _ (wok_s hf))
  · have hf := wok_f hf hc
    refine w_aload_n X dX11_signAt_8 rfl rfl rfl ?_
    refine w_getR X dX11_signAt_9 rfl fl_X11_7 S0_188 rfl ?_
    refine w_iload_n X dX11_signAt_12 rfl rfl rfl ?_
    obtain ⟨yhg21, hf⟩ := wok_g hf
    refine w_iald X dX11_signAt_13 rfl (j := x0.toNatClampNeg) rfl S0_189 yhg21 ?_
    refine w_goto X dX11_signAt_14 (t := 18) rfl ?_
    exact w_iret X dX11_signAt_18 hr (hT _ (wok_s hf))
set_option maxRecDepth 4000 in
theorem kX11_signAt (l : Launch) {h : wSt} {x0 : Int32} {res : Int32} (hf : fX11_signAt h x0 = some res) : wC l yX11_signAt cX11_signAt 2 (some .int) 1 S0 [.ref 188, .int x0] h (wFI (fun a b => res = a ∧ h = b)) := by
  refine w_meth2 0 (by decide) (Nat.le_of_ble_eq_true rfl) (ls := [some (.ref 188), some (.int x0)]) rfl ?_
  intro p e s m args below meth c D dA b0 ad X hr
  exact pX11_signAt_b0 X hr  (K := fun z => res = z) (fun x hz => ⟨x, rfl, hz, rfl⟩) ⟨res, hf, rfl⟩
set_option maxRecDepth 4000 in
theorem pX11_nextToken_b39_0 (X : wCx p s m args meth c RX11 cX11_nextToken 2 D dA b0 ad) (hr : meth.sig.returnType = none) {h : wSt} {K : (wSt) ⊕ ((wSt)) → Prop} (hN : ∀ (nh : wSt), K (.inl nh) → wM p l e (wR 2) s m args below meth c 0 0 (wE below args s D dA b0 ad S0 F) 2 D dA b0 ad S0 0 [some (.ref 188), none] [] nh) (hX0 : ∀ (nh : wSt), K (.inr nh) → wM p l e (wR 2) s m args below meth c 0 0 (wE below args s D dA b0 ad S0 F) 2 D dA b0 ad S0 52 [some (.ref 188), none] [] nh) (hf : wok (fX11_nextToken_b39_0 h ) K) : wM p l e (wR 2) s m args below meth c 0 0 (wE below args s D dA b0 ad S0 F) 2 D dA b0 ad S0 39 [some (.ref 188), none] [] h := by
  unfold fX11_nextToken_b39_0 at hf
  refine w_aload_n X dX11_nextToken_39 rfl rfl rfl ?_
  refine w_dup X dX11_nextToken_40 rfl rfl ?_
  refine w_getI X dX11_nextToken_41 rfl fl_X11_156 S0_188 rfl ?_
  refine w_iconst X dX11_nextToken_44 rfl ci_1 ?_
  refine w_iadd X dX11_nextToken_45 rfl ?_
  refine w_putI X dX11_nextToken_46 rfl fp_X11_156 S0_188 rfl ?_
  refine w_nmh (fun yh22 eyh22 => ?_)
  have hf := wok_l hf eyh22
  refine w_goto X dX11_nextToken_49 (t := 0) rfl ?_
  exact hN _ (wok_s hf)
set_option maxRecDepth 4000 in
theorem pX11_nextToken_l0b (X : wCx p s m args meth c RX11 cX11_nextToken 2 D dA b0 ad) (hr : meth.sig.returnType = none) {h : wSt} {K : (wSt) ⊕ ((wSt)) → Prop} (hN : ∀ (nh : wSt), K (.inl nh) → wM p l e (wR 2) s m args below meth c 0 0 (wE below args s D dA b0 ad S0 F) 2 D dA b0 ad S0 0 [some (.ref 188), none] [] nh) (hX0 : ∀ (nh : wSt), K (.inr nh) → wM p l e (wR 2) s m args below meth c 0 0 (wE below args s D dA b0 ad S0 F) 2 D dA b0 ad S0 52 [some (.ref 188), none] [] nh) (hf : wok (fX11_nextToken_l0 h ) K) : wM p l e (wR 2) s m args below meth c 0 0 (wE below args s D dA b0 ad S0 F) 2 D dA b0 ad S0 0 [some (.ref 188), none] [] h := by
  unfold fX11_nextToken_l0 at hf
  refine w_aload_n X dX11_nextToken_0 rfl rfl rfl ?_
  refine w_getI X dX11_nextToken_1 rfl fl_X11_156 S0_188 rfl ?_
  refine w_aload_n X dX11_nextToken_4 rfl rfl rfl ?_
  refine w_getI X dX11_nextToken_5 rfl fl_X11_153 S0_188 rfl ?_
  refine w_icmp_ge X dX11_nextToken_8 rfl (t := 52) rfl (fun hc => ?_) (fun hc => ?_)
  · have hf := wok_t hf hc
    exact hX0 _ (wok_s hf)
  · have hf := wok_f hf hc
    refine w_aload_n X dX11_nextToken_11 rfl rfl rfl ?_
    refine w_getR X dX11_nextToken_12 rfl fl_X11_7 S0_188 rfl ?_
    refine w_aload_n X dX11_nextToken_15 rfl rfl rfl ?_
    refine w_getI X dX11_nextToken_16 rfl fl_X11_156 S0_188 rfl ?_
    obtain ⟨yhg21, hf⟩ := wok_g hf
    refine w_iald X dX11_nextToken_19 rfl (j := (h.1 188 4).toNatClampNeg) rfl S0_189 yhg21 ?_
    refine w_bipush X dX11_nextToken_20 rfl cb_32 ?_
    refine w_icmp_eq X dX11_nextToken_22 rfl (t := 39) rfl (fun hc => ?_) (fun hc => ?_)
    · have hf := wok_t hf hc
      exact pX11_nextToken_b39_0 X hr  hN hX0 hf
    · have hf := wok_f hf hc
      refine w_aload_n X dX11_nextToken_25 rfl rfl rfl ?_
      refine w_getR X dX11_nextToken_26 rfl fl_X11_7 S0_188 rfl ?_
      refine w_aload_n X dX11_nextToken_29 rfl rfl rfl ?_
      refine w_getI X dX11_nextToken_30 rfl fl_X11_156 S0_188 rfl ?_
      refine w_iald X dX11_nextToken_33 rfl (j := (h.1 188 4).toNatClampNeg) rfl S0_189 yhg21 ?_
      refine w_bipush X dX11_nextToken_34 rfl cb_10 ?_
      refine w_icmp_ne X dX11_nextToken_36 rfl (t := 52) rfl (fun hc => ?_) (fun hc => ?_)
      · have hf := wok_f hf hc
        exact hX0 _ (wok_s hf)
      · have hf := wok_t hf hc
        exact pX11_nextToken_b39_0 X hr  hN hX0 hf
set_option maxRecDepth 4000 in
theorem pX11_nextToken_l0 (X : wCx p s m args meth c RX11 cX11_nextToken 2 D dA b0 ad) (hr : meth.sig.returnType = none)  {KE : (wSt) → Prop} (hX0 : ∀ (nh : wSt), KE (nh) → wM p l e (wR 2) s m args below meth c 0 0 (wE below args s D dA b0 ad S0 F) 2 D dA b0 ad S0 52 [some (.ref 188), none] [] nh) : ∀ (n : Nat) (h : wSt), wok (wit (fun v : (wSt) => fX11_nextToken_l0 v ) n h) KE → wM p l e (wR 2) s m args below meth c 0 0 (wE below args s D dA b0 ad S0 F) 2 D dA b0 ad S0 0 [some (.ref 188), none] [] h := by
  have key := wit_M (b := (fun v : (wSt) => fX11_nextToken_l0 v )) (KE := KE) (G := fun v => wM p l e (wR 2) s m args below meth c 0 0 (wE below args s D dA b0 ad S0 F) 2 D dA b0 ad S0 0 [some (.ref 188), none] [] v) (fun v K hN hE hf => pX11_nextToken_l0b X hr  (fun  nh hz => hN nh hz) (fun z0 hz => hX0 z0 (hE _ hz)) hf)
  exact fun n h hf => key n h hf
set_option maxRecDepth 4000 in
theorem pX11_nextToken_b368 (X : wCx p s m args meth c RX11 cX11_nextToken 2 D dA b0 ad) (hr : meth.sig.returnType = none) {h : wSt} {w1 : Int32} {K : wSt → Prop} (hT : ∀ (h2 : wSt), K h2 → F none h2)  (hf : wok (fX11_nextToken_b368 h w1) K) : wM p l e (wR 2) s m args below meth c 0 0 (wE below args s D dA b0 ad S0 F) 2 D dA b0 ad S0 368 [none, none] [.int w1, .ref 188] h := by
  unfold fX11_nextToken_b368 at hf
  refine w_putI X dX11_nextToken_368 rfl fp_X11_169 S0_188 rfl ?_
  refine w_nmh (fun yh31 eyh31 => ?_)
  have hf := wok_l hf eyh31
  exact w_vret X dX11_nextToken_371 hr (hT _ (wok_s hf))
set_option maxRecDepth 4000 in
theorem pX11_nextToken_b363 (X : wCx p s m args meth c RX11 cX11_nextToken 2 D dA b0 ad) (hr : meth.sig.returnType = none) {h : wSt} {K : wSt → Prop} (hT : ∀ (h2 : wSt), K h2 → F none h2)  (hf : wok (fX11_nextToken_b363 h ) K) : wM p l e (wR 2) s m args below meth c 0 0 (wE below args s D dA b0 ad S0 F) 2 D dA b0 ad S0 363 [none, none] [.ref 188] h := by
  unfold fX11_nextToken_b363 at hf
  refine w_iconst X dX11_nextToken_363 rfl ci_3 ?_
  refine w_goto X dX11_nextToken_364 (t := 368) rfl ?_
  exact pX11_nextToken_b368 X hr  hT hf
set_option maxRecDepth 4000 in
theorem pX11_nextToken_b367 (X : wCx p s m args meth c RX11 cX11_nextToken 2 D dA b0 ad) (hr : meth.sig.returnType = none) {h : wSt} {K : wSt → Prop} (hT : ∀ (h2 : wSt), K h2 → F none h2)  (hf : wok (fX11_nextToken_b367 h ) K) : wM p l e (wR 2) s m args below meth c 0 0 (wE below args s D dA b0 ad S0 F) 2 D dA b0 ad S0 367 [none, none] [.ref 188] h := by
  unfold fX11_nextToken_b367 at hf
  refine w_iconst X dX11_nextToken_367 rfl ci_4 ?_
  exact pX11_nextToken_b368 X hr  hT hf
set_option maxRecDepth 4000 in
theorem pX11_nextToken_b345 (X : wCx p s m args meth c RX11 cX11_nextToken 2 D dA b0 ad) (hr : meth.sig.returnType = none) {h : wSt} {v1 : Int32} {K : wSt → Prop} (hT : ∀ (h2 : wSt), K h2 → F none h2)  (hf : wok (fX11_nextToken_b345 h v1) K) : wM p l e (wR 2) s m args below meth c 0 0 (wE below args s D dA b0 ad S0 F) 2 D dA b0 ad S0 345 [none, some (.int v1)] [.ref 188] h := by
  unfold fX11_nextToken_b345 at hf
  refine w_iload_n X dX11_nextToken_345 rfl rfl rfl ?_
  refine w_bipush X dX11_nextToken_346 rfl cb_45 ?_
  refine w_icmp_eq X dX11_nextToken_348 rfl (t := 363) rfl (fun hc => ?_) (fun hc => ?_)
  · have hf := wok_t hf hc
    refine w_fg (ls2 := [none, none]) trivial ?_
    exact pX11_nextToken_b363 X hr  hT hf
  · have hf := wok_f hf hc
    refine w_iload_n X dX11_nextToken_351 rfl rfl rfl ?_
    refine w_bipush X dX11_nextToken_352 rfl cb_59 ?_
    refine w_icmp_lt X dX11_nextToken_354 rfl (t := 367) rfl (fun hc => ?_) (fun hc => ?_)
    · have hf := wok_t hf hc
      refine w_fg (ls2 := [none, none]) trivial ?_
      exact pX11_nextToken_b367 X hr  hT hf
    · have hf := wok_f hf hc
      refine w_iload_n X dX11_nextToken_357 rfl rfl rfl ?_
      refine w_bipush X dX11_nextToken_358 rfl cb_61 ?_
      refine w_icmp_gt X dX11_nextToken_360 rfl (t := 367) rfl (fun hc => ?_) (fun hc => ?_)
      · have hf := wok_t hf hc
        refine w_fg (ls2 := [none, none]) trivial ?_
        exact pX11_nextToken_b367 X hr  hT hf
      · have hf := wok_f hf hc
        refine w_fg (ls2 := [none, none]) trivial ?_
        exact pX11_nextToken_b363 X hr  hT hf
set_option maxRecDepth 4000 in
theorem pX11_nextToken_b322 (X : wCx p s m args meth c RX11 cX11_nextToken 2 D dA b0 ad) (hr : meth.sig.returnType = none) {h : wSt} {v1 : Int32} {K : wSt → Prop} (hT : ∀ (h2 : wSt), K h2 → F none h2)  (hf : wok (fX11_nextToken_b322 h v1) K) : wM p l e (wR 2) s m args below meth c 0 0 (wE below args s D dA b0 ad S0 F) 2 D dA b0 ad S0 322 [some (.ref 188), some (.int v1)] [] h := by
  unfold fX11_nextToken_b322 at hf
  refine w_aload_n X dX11_nextToken_322 rfl rfl rfl ?_
  refine w_dup X dX11_nextToken_323 rfl rfl ?_
  refine w_getI X dX11_nextToken_324 rfl fl_X11_156 S0_188 rfl ?_
  refine w_iconst X dX11_nextToken_327 rfl ci_1 ?_
  refine w_iadd X dX11_nextToken_328 rfl ?_
  refine w_putI X dX11_nextToken_329 rfl fp_X11_156 S0_188 rfl ?_
  refine w_nmh (fun yh30 eyh30 => ?_)
  have hf := wok_l hf eyh30
  refine w_aload_n X dX11_nextToken_332 rfl rfl rfl ?_
  refine w_iload_n X dX11_nextToken_333 rfl rfl rfl ?_
  refine w_bipush X dX11_nextToken_334 rfl cb_40 ?_
  refine w_icmp_lt X dX11_nextToken_336 rfl (t := 345) rfl (fun hc => ?_) (fun hc => ?_)
  · have hf := wok_t hf hc
    refine w_fg (ls2 := [none, some (.int v1)]) ⟨rfl, trivial⟩ ?_
    exact pX11_nextToken_b345 X hr  hT hf
  · have hf := wok_f hf hc
    refine w_iload_n X dX11_nextToken_339 rfl rfl rfl ?_
    refine w_bipush X dX11_nextToken_340 rfl cb_43 ?_
    refine w_icmp_le X dX11_nextToken_342 rfl (t := 363) rfl (fun hc => ?_) (fun hc => ?_)
    · have hf := wok_t hf hc
      refine w_fg (ls2 := [none, none]) trivial ?_
      exact pX11_nextToken_b363 X hr  hT hf
    · have hf := wok_f hf hc
      refine w_fg (ls2 := [none, some (.int v1)]) ⟨rfl, trivial⟩ ?_
      exact pX11_nextToken_b345 X hr  hT hf
set_option maxRecDepth 4000 in
theorem pX11_nextToken_b286_224 (X : wCx p s m args meth c RX11 cX11_nextToken 2 D dA b0 ad) (hr : meth.sig.returnType = none) {h : wSt} {K : (wSt) ⊕ ((wSt)) → Prop} (hN : ∀ (nh : wSt), K (.inl nh) → wM p l e (wR 2) s m args below meth c 0 0 (wE below args s D dA b0 ad S0 F) 2 D dA b0 ad S0 224 [some (.ref 188), none] [] nh) (hX0 : ∀ (nh : wSt), K (.inr nh) → wM p l e (wR 2) s m args below meth c 0 0 (wE below args s D dA b0 ad S0 F) 2 D dA b0 ad S0 299 [some (.ref 188), none] [] nh) (hf : wok (fX11_nextToken_b286_224 h ) K) : wM p l e (wR 2) s m args below meth c 0 0 (wE below args s D dA b0 ad S0 F) 2 D dA b0 ad S0 286 [some (.ref 188), none] [] h := by
  unfold fX11_nextToken_b286_224 at hf
  refine w_aload_n X dX11_nextToken_286 rfl rfl rfl ?_
  refine w_dup X dX11_nextToken_287 rfl rfl ?_
  refine w_getI X dX11_nextToken_288 rfl fl_X11_156 S0_188 rfl ?_
  refine w_iconst X dX11_nextToken_291 rfl ci_1 ?_
  refine w_iadd X dX11_nextToken_292 rfl ?_
  refine w_putI X dX11_nextToken_293 rfl fp_X11_156 S0_188 rfl ?_
  refine w_nmh (fun yh34 eyh34 => ?_)
  have hf := wok_l hf eyh34
  refine w_goto X dX11_nextToken_296 (t := 224) rfl ?_
  exact hN _ (wok_s hf)
set_option maxRecDepth 4000 in
theorem pX11_nextToken_l224b (X : wCx p s m args meth c RX11 cX11_nextToken 2 D dA b0 ad) (hr : meth.sig.returnType = none) {h : wSt} {K : (wSt) ⊕ ((wSt)) → Prop} (hN : ∀ (nh : wSt), K (.inl nh) → wM p l e (wR 2) s m args below meth c 0 0 (wE below args s D dA b0 ad S0 F) 2 D dA b0 ad S0 224 [some (.ref 188), none] [] nh) (hX0 : ∀ (nh : wSt), K (.inr nh) → wM p l e (wR 2) s m args below meth c 0 0 (wE below args s D dA b0 ad S0 F) 2 D dA b0 ad S0 299 [some (.ref 188), none] [] nh) (hf : wok (fX11_nextToken_l224 h ) K) : wM p l e (wR 2) s m args below meth c 0 0 (wE below args s D dA b0 ad S0 F) 2 D dA b0 ad S0 224 [some (.ref 188), none] [] h := by
  unfold fX11_nextToken_l224 at hf
  refine w_aload_n X dX11_nextToken_224 rfl rfl rfl ?_
  refine w_aload_n X dX11_nextToken_225 rfl rfl rfl ?_
  refine w_getI X dX11_nextToken_226 rfl fl_X11_156 S0_188 rfl ?_
  obtain ⟨yr32, eyr32, hf⟩ := wok_b hf
  refine w_callV X dX11_nextToken_229 rfl vl_X11_172 (kX11_signAt l  eyr32) S0_188 (As := [.int (h.1 188 4)]) (st := []) rfl rfl (Nat.le_of_ble_eq_true rfl) ⟨Nat.le_of_ble_eq_true rfl, Nat.le_of_ble_eq_true rfl⟩ ⟨Nat.zero_le _, Nat.zero_le _⟩ (fun r h2 hF => ?_)
  obtain ⟨_, rfl, rfl, rfl⟩ := hF
  show wM p l e (wR 2) s m args below meth c 0 0 (wE below args s D dA b0 ad S0 F) 2 D dA b0 ad S0 232 [some (.ref 188), none] [.int yr32] h
  refine w_bipush X dX11_nextToken_232 rfl cb_48 ?_
  refine w_icmp_lt X dX11_nextToken_234 rfl (t := 299) rfl (fun hc => ?_) (fun hc => ?_)
  · have hf := wok_t hf hc
    exact hX0 _ (wok_s hf)
  · have hf := wok_f hf hc
    refine w_aload_n X dX11_nextToken_237 rfl rfl rfl ?_
    refine w_aload_n X dX11_nextToken_238 rfl rfl rfl ?_
    refine w_getI X dX11_nextToken_239 rfl fl_X11_156 S0_188 rfl ?_
    obtain ⟨yr33, eyr33, hf⟩ := wok_b hf
    refine w_callV X dX11_nextToken_242 rfl vl_X11_172 (kX11_signAt l  eyr33) S0_188 (As := [.int (h.1 188 4)]) (st := []) rfl rfl (Nat.le_of_ble_eq_true rfl) ⟨Nat.le_of_ble_eq_true rfl, Nat.le_of_ble_eq_true rfl⟩ ⟨Nat.zero_le _, Nat.zero_le _⟩ (fun r h2 hF => ?_)
    obtain ⟨_, rfl, rfl, rfl⟩ := hF
    show wM p l e (wR 2) s m args below meth c 0 0 (wE below args s D dA b0 ad S0 F) 2 D dA b0 ad S0 245 [some (.ref 188), none] [.int yr33] h
    refine w_bipush X dX11_nextToken_245 rfl cb_57 ?_
    refine w_icmp_gt X dX11_nextToken_247 rfl (t := 299) rfl (fun hc => ?_) (fun hc => ?_)
    · have hf := wok_t hf hc
      exact hX0 _ (wok_s hf)
    · have hf := wok_f hf hc
      refine w_aload_n X dX11_nextToken_250 rfl rfl rfl ?_
      refine w_getI X dX11_nextToken_251 rfl fl_X11_156 S0_188 rfl ?_
      refine w_aload_n X dX11_nextToken_254 rfl rfl rfl ?_
      refine w_getI X dX11_nextToken_255 rfl fl_X11_159 S0_188 rfl ?_
      refine w_isub X dX11_nextToken_258 rfl ?_
      refine w_iconst X dX11_nextToken_259 rfl ci_4 ?_
      refine w_icmp_ge X dX11_nextToken_260 rfl (t := 286) rfl (fun hc => ?_) (fun hc => ?_)
      · have hf := wok_t hf hc
        exact pX11_nextToken_b286_224 X hr  hN hX0 hf
      · have hf := wok_f hf hc
        refine w_aload_n X dX11_nextToken_263 rfl rfl rfl ?_
        refine w_aload_n X dX11_nextToken_264 rfl rfl rfl ?_
        refine w_getI X dX11_nextToken_265 rfl fl_X11_166 S0_188 rfl ?_
        refine w_bipush X dX11_nextToken_268 rfl cb_10 ?_
        refine w_imul X dX11_nextToken_270 rfl ?_
        refine w_aload_n X dX11_nextToken_271 rfl rfl rfl ?_
        refine w_aload_n X dX11_nextToken_272 rfl rfl rfl ?_
        refine w_getI X dX11_nextToken_273 rfl fl_X11_156 S0_188 rfl ?_
        obtain ⟨yr35, eyr35, hf⟩ := wok_b hf
        refine w_callV X dX11_nextToken_276 rfl vl_X11_172 (kX11_signAt l  eyr35) S0_188 (As := [.int (h.1 188 4)]) (st := [.int ((h.1 188 8) * 10), .ref 188]) rfl rfl (Nat.le_of_ble_eq_true rfl) ⟨Nat.le_of_ble_eq_true rfl, Nat.le_of_ble_eq_true rfl⟩ ⟨Nat.zero_le _, Nat.zero_le _⟩ (fun r h2 hF => ?_)
        obtain ⟨_, rfl, rfl, rfl⟩ := hF
        show wM p l e (wR 2) s m args below meth c 0 0 (wE below args s D dA b0 ad S0 F) 2 D dA b0 ad S0 279 [some (.ref 188), none] [.int yr35, .int ((h.1 188 8) * 10), .ref 188] h
        refine w_iadd X dX11_nextToken_279 rfl ?_
        refine w_bipush X dX11_nextToken_280 rfl cb_48 ?_
        refine w_isub X dX11_nextToken_282 rfl ?_
        refine w_putI X dX11_nextToken_283 rfl fp_X11_166 S0_188 rfl ?_
        refine w_nmh (fun yh36 eyh36 => ?_)
        have hf := wok_l hf eyh36
        exact pX11_nextToken_b286_224 X hr  hN hX0 hf
set_option maxRecDepth 4000 in
theorem pX11_nextToken_l224 (X : wCx p s m args meth c RX11 cX11_nextToken 2 D dA b0 ad) (hr : meth.sig.returnType = none)  {KE : (wSt) → Prop} (hX0 : ∀ (nh : wSt), KE (nh) → wM p l e (wR 2) s m args below meth c 0 0 (wE below args s D dA b0 ad S0 F) 2 D dA b0 ad S0 299 [some (.ref 188), none] [] nh) : ∀ (n : Nat) (h : wSt), wok (wit (fun v : (wSt) => fX11_nextToken_l224 v ) n h) KE → wM p l e (wR 2) s m args below meth c 0 0 (wE below args s D dA b0 ad S0 F) 2 D dA b0 ad S0 224 [some (.ref 188), none] [] h := by
  have key := wit_M (b := (fun v : (wSt) => fX11_nextToken_l224 v )) (KE := KE) (G := fun v => wM p l e (wR 2) s m args below meth c 0 0 (wE below args s D dA b0 ad S0 F) 2 D dA b0 ad S0 224 [some (.ref 188), none] [] v) (fun v K hN hE hf => pX11_nextToken_l224b X hr  (fun  nh hz => hN nh hz) (fun z0 hz => hX0 z0 (hE _ hz)) hf)
  exact fun n h hf => key n h hf
set_option maxRecDepth 4000 in
theorem pX11_nextToken_b318 (X : wCx p s m args meth c RX11 cX11_nextToken 2 D dA b0 ad) (hr : meth.sig.returnType = none) {h : wSt} {w1 : Int32} {K : wSt → Prop} (hT : ∀ (h2 : wSt), K h2 → F none h2)  (hf : wok (fX11_nextToken_b318 h w1) K) : wM p l e (wR 2) s m args below meth c 0 0 (wE below args s D dA b0 ad S0 F) 2 D dA b0 ad S0 318 [none, none] [.int w1, .ref 188] h := by
  unfold fX11_nextToken_b318 at hf
  refine w_putI X dX11_nextToken_318 rfl fp_X11_169 S0_188 rfl ?_
  refine w_nmh (fun yh39 eyh39 => ?_)
  have hf := wok_l hf eyh39
  exact w_vret X dX11_nextToken_321 hr (hT _ (wok_s hf))
set_option maxRecDepth 4000 in
theorem pX11_nextToken_b212 (X : wCx p s m args meth c RX11 cX11_nextToken 2 D dA b0 ad) (hr : meth.sig.returnType = none) {h : wSt} {v1 : Int32} {K : wSt → Prop} (hT : ∀ (h2 : wSt), K h2 → F none h2)  (hf : wok (fX11_nextToken_b212 h v1) K) : wM p l e (wR 2) s m args below meth c 0 0 (wE below args s D dA b0 ad S0 F) 2 D dA b0 ad S0 212 [some (.ref 188), some (.int v1)] [] h := by
  unfold fX11_nextToken_b212 at hf
  refine w_iload_n X dX11_nextToken_212 rfl rfl rfl ?_
  refine w_bipush X dX11_nextToken_213 rfl cb_48 ?_
  refine w_icmp_lt X dX11_nextToken_215 rfl (t := 322) rfl (fun hc => ?_) (fun hc => ?_)
  · have hf := wok_t hf hc
    exact pX11_nextToken_b322 X hr  hT hf
  · have hf := wok_f hf hc
    refine w_iload_n X dX11_nextToken_218 rfl rfl rfl ?_
    refine w_bipush X dX11_nextToken_219 rfl cb_57 ?_
    refine w_icmp_gt X dX11_nextToken_221 rfl (t := 322) rfl (fun hc => ?_) (fun hc => ?_)
    · have hf := wok_t hf hc
      exact pX11_nextToken_b322 X hr  hT hf
    · have hf := wok_f hf hc
      refine w_fg (ls2 := [some (.ref 188), none]) ⟨rfl, trivial⟩ ?_
      obtain ⟨ye37, hye37, hf⟩ := wok_b hf
      refine pX11_nextToken_l224 X hr  (KE := fun z => ye37 = z) ?_ 3000 _ ⟨ye37, hye37, rfl⟩
      · intro yz38 hz
        subst hz
        refine w_aload_n X dX11_nextToken_299 rfl rfl rfl ?_
        refine w_aload_n X dX11_nextToken_300 rfl rfl rfl ?_
        refine w_getI X dX11_nextToken_301 rfl fl_X11_156 S0_188 rfl ?_
        refine w_aload_n X dX11_nextToken_304 rfl rfl rfl ?_
        refine w_getI X dX11_nextToken_305 rfl fl_X11_159 S0_188 rfl ?_
        refine w_isub X dX11_nextToken_308 rfl ?_
        refine w_iconst X dX11_nextToken_309 rfl ci_4 ?_
        refine w_icmp_le X dX11_nextToken_310 rfl (t := 317) rfl (fun hc => ?_) (fun hc => ?_)
        · have hf := wok_t hf hc
          refine w_iconst X dX11_nextToken_317 rfl ci_2 ?_
          refine w_fg (ls2 := [none, none]) trivial ?_
          exact pX11_nextToken_b318 X hr  hT hf
        · have hf := wok_f hf hc
          refine w_iconst X dX11_nextToken_313 rfl ci_4 ?_
          refine w_goto X dX11_nextToken_314 (t := 318) rfl ?_
          refine w_fg (ls2 := [none, none]) trivial ?_
          exact pX11_nextToken_b318 X hr  hT hf
set_option maxRecDepth 4000 in
theorem pX11_nextToken_b175_109 (X : wCx p s m args meth c RX11 cX11_nextToken 2 D dA b0 ad) (hr : meth.sig.returnType = none) {h : wSt} {K : (wSt) ⊕ ((wSt)) → Prop} (hN : ∀ (nh : wSt), K (.inl nh) → wM p l e (wR 2) s m args below meth c 0 0 (wE below args s D dA b0 ad S0 F) 2 D dA b0 ad S0 109 [some (.ref 188), none] [] nh) (hX0 : ∀ (nh : wSt), K (.inr nh) → wM p l e (wR 2) s m args below meth c 0 0 (wE below args s D dA b0 ad S0 F) 2 D dA b0 ad S0 188 [some (.ref 188), none] [] nh) (hf : wok (fX11_nextToken_b175_109 h ) K) : wM p l e (wR 2) s m args below meth c 0 0 (wE below args s D dA b0 ad S0 F) 2 D dA b0 ad S0 175 [some (.ref 188), none] [] h := by
  unfold fX11_nextToken_b175_109 at hf
  refine w_aload_n X dX11_nextToken_175 rfl rfl rfl ?_
  refine w_dup X dX11_nextToken_176 rfl rfl ?_
  refine w_getI X dX11_nextToken_177 rfl fl_X11_156 S0_188 rfl ?_
  refine w_iconst X dX11_nextToken_180 rfl ci_1 ?_
  refine w_iadd X dX11_nextToken_181 rfl ?_
  refine w_putI X dX11_nextToken_182 rfl fp_X11_156 S0_188 rfl ?_
  refine w_nmh (fun yh42 eyh42 => ?_)
  have hf := wok_l hf eyh42
  refine w_goto X dX11_nextToken_185 (t := 109) rfl ?_
  exact hN _ (wok_s hf)
set_option maxRecDepth 4000 in
theorem pX11_nextToken_l109b (X : wCx p s m args meth c RX11 cX11_nextToken 2 D dA b0 ad) (hr : meth.sig.returnType = none) {h : wSt} {K : (wSt) ⊕ ((wSt)) → Prop} (hN : ∀ (nh : wSt), K (.inl nh) → wM p l e (wR 2) s m args below meth c 0 0 (wE below args s D dA b0 ad S0 F) 2 D dA b0 ad S0 109 [some (.ref 188), none] [] nh) (hX0 : ∀ (nh : wSt), K (.inr nh) → wM p l e (wR 2) s m args below meth c 0 0 (wE below args s D dA b0 ad S0 F) 2 D dA b0 ad S0 188 [some (.ref 188), none] [] nh) (hf : wok (fX11_nextToken_l109 h ) K) : wM p l e (wR 2) s m args below meth c 0 0 (wE below args s D dA b0 ad S0 F) 2 D dA b0 ad S0 109 [some (.ref 188), none] [] h := by
  unfold fX11_nextToken_l109 at hf
  refine w_aload_n X dX11_nextToken_109 rfl rfl rfl ?_
  refine w_aload_n X dX11_nextToken_110 rfl rfl rfl ?_
  refine w_getI X dX11_nextToken_111 rfl fl_X11_156 S0_188 rfl ?_
  obtain ⟨yr40, eyr40, hf⟩ := wok_b hf
  refine w_callV X dX11_nextToken_114 rfl vl_X11_172 (kX11_signAt l  eyr40) S0_188 (As := [.int (h.1 188 4)]) (st := []) rfl rfl (Nat.le_of_ble_eq_true rfl) ⟨Nat.le_of_ble_eq_true rfl, Nat.le_of_ble_eq_true rfl⟩ ⟨Nat.zero_le _, Nat.zero_le _⟩ (fun r h2 hF => ?_)
  obtain ⟨_, rfl, rfl, rfl⟩ := hF
  show wM p l e (wR 2) s m args below meth c 0 0 (wE below args s D dA b0 ad S0 F) 2 D dA b0 ad S0 117 [some (.ref 188), none] [.int yr40] h
  refine w_bipush X dX11_nextToken_117 rfl cb_97 ?_
  refine w_icmp_lt X dX11_nextToken_119 rfl (t := 188) rfl (fun hc => ?_) (fun hc => ?_)
  · have hf := wok_t hf hc
    exact hX0 _ (wok_s hf)
  · have hf := wok_f hf hc
    refine w_aload_n X dX11_nextToken_122 rfl rfl rfl ?_
    refine w_aload_n X dX11_nextToken_123 rfl rfl rfl ?_
    refine w_getI X dX11_nextToken_124 rfl fl_X11_156 S0_188 rfl ?_
    obtain ⟨yr41, eyr41, hf⟩ := wok_b hf
    refine w_callV X dX11_nextToken_127 rfl vl_X11_172 (kX11_signAt l  eyr41) S0_188 (As := [.int (h.1 188 4)]) (st := []) rfl rfl (Nat.le_of_ble_eq_true rfl) ⟨Nat.le_of_ble_eq_true rfl, Nat.le_of_ble_eq_true rfl⟩ ⟨Nat.zero_le _, Nat.zero_le _⟩ (fun r h2 hF => ?_)
    obtain ⟨_, rfl, rfl, rfl⟩ := hF
    show wM p l e (wR 2) s m args below meth c 0 0 (wE below args s D dA b0 ad S0 F) 2 D dA b0 ad S0 130 [some (.ref 188), none] [.int yr41] h
    refine w_bipush X dX11_nextToken_130 rfl cb_122 ?_
    refine w_icmp_gt X dX11_nextToken_132 rfl (t := 188) rfl (fun hc => ?_) (fun hc => ?_)
    · have hf := wok_t hf hc
      exact hX0 _ (wok_s hf)
    · have hf := wok_f hf hc
      refine w_aload_n X dX11_nextToken_135 rfl rfl rfl ?_
      refine w_getI X dX11_nextToken_136 rfl fl_X11_156 S0_188 rfl ?_
      refine w_aload_n X dX11_nextToken_139 rfl rfl rfl ?_
      refine w_getI X dX11_nextToken_140 rfl fl_X11_159 S0_188 rfl ?_
      refine w_isub X dX11_nextToken_143 rfl ?_
      refine w_bipush X dX11_nextToken_144 rfl cb_8 ?_
      refine w_icmp_ge X dX11_nextToken_146 rfl (t := 175) rfl (fun hc => ?_) (fun hc => ?_)
      · have hf := wok_t hf hc
        exact pX11_nextToken_b175_109 X hr  hN hX0 hf
      · have hf := wok_f hf hc
        refine w_aload_n X dX11_nextToken_149 rfl rfl rfl ?_
        refine w_aload_n X dX11_nextToken_150 rfl rfl rfl ?_
        refine w_getJ X dX11_nextToken_151 rfl fl_X11_162 S0_188 rfl ?_
        refine w_ldc2 X dX11_nextToken_154 rfl wd_1382 ?_
        refine w_lmul X dX11_nextToken_157 rfl ?_
        refine w_aload_n X dX11_nextToken_158 rfl rfl rfl ?_
        refine w_aload_n X dX11_nextToken_159 rfl rfl rfl ?_
        refine w_getI X dX11_nextToken_160 rfl fl_X11_156 S0_188 rfl ?_
        obtain ⟨yr43, eyr43, hf⟩ := wok_b hf
        refine w_callV X dX11_nextToken_163 rfl vl_X11_172 (kX11_signAt l  eyr43) S0_188 (As := [.int (h.1 188 4)]) (st := [.long ((h.2 188 7) * 27), .ref 188]) rfl rfl (Nat.le_of_ble_eq_true rfl) ⟨Nat.le_of_ble_eq_true rfl, Nat.le_of_ble_eq_true rfl⟩ ⟨Nat.zero_le _, Nat.zero_le _⟩ (fun r h2 hF => ?_)
        obtain ⟨_, rfl, rfl, rfl⟩ := hF
        show wM p l e (wR 2) s m args below meth c 0 0 (wE below args s D dA b0 ad S0 F) 2 D dA b0 ad S0 166 [some (.ref 188), none] [.int yr43, .long ((h.2 188 7) * 27), .ref 188] h
        refine w_i2l X dX11_nextToken_166 rfl ?_
        refine w_ladd X dX11_nextToken_167 rfl ?_
        refine w_ldc2 X dX11_nextToken_168 rfl wd_1383 ?_
        refine w_lsub X dX11_nextToken_171 rfl ?_
        refine w_putJ X dX11_nextToken_172 rfl fp_X11_162 S0_188 rfl ?_
        refine w_nmh (fun yh44 eyh44 => ?_)
        have hf := wok_l hf eyh44
        exact pX11_nextToken_b175_109 X hr  hN hX0 hf
set_option maxRecDepth 4000 in
theorem pX11_nextToken_l109 (X : wCx p s m args meth c RX11 cX11_nextToken 2 D dA b0 ad) (hr : meth.sig.returnType = none)  {KE : (wSt) → Prop} (hX0 : ∀ (nh : wSt), KE (nh) → wM p l e (wR 2) s m args below meth c 0 0 (wE below args s D dA b0 ad S0 F) 2 D dA b0 ad S0 188 [some (.ref 188), none] [] nh) : ∀ (n : Nat) (h : wSt), wok (wit (fun v : (wSt) => fX11_nextToken_l109 v ) n h) KE → wM p l e (wR 2) s m args below meth c 0 0 (wE below args s D dA b0 ad S0 F) 2 D dA b0 ad S0 109 [some (.ref 188), none] [] h := by
  have key := wit_M (b := (fun v : (wSt) => fX11_nextToken_l109 v )) (KE := KE) (G := fun v => wM p l e (wR 2) s m args below meth c 0 0 (wE below args s D dA b0 ad S0 F) 2 D dA b0 ad S0 109 [some (.ref 188), none] [] v) (fun v K hN hE hf => pX11_nextToken_l109b X hr  (fun  nh hz => hN nh hz) (fun z0 hz => hX0 z0 (hE _ hz)) hf)
  exact fun n h hf => key n h hf
set_option maxRecDepth 4000 in
theorem pX11_nextToken_b208 (X : wCx p s m args meth c RX11 cX11_nextToken 2 D dA b0 ad) (hr : meth.sig.returnType = none) {h : wSt} {w1 : Int32} {K : wSt → Prop} (hT : ∀ (h2 : wSt), K h2 → F none h2)  (hf : wok (fX11_nextToken_b208 h w1) K) : wM p l e (wR 2) s m args below meth c 0 0 (wE below args s D dA b0 ad S0 F) 2 D dA b0 ad S0 208 [none, none] [.int w1, .ref 188] h := by
  unfold fX11_nextToken_b208 at hf
  refine w_putI X dX11_nextToken_208 rfl fp_X11_169 S0_188 rfl ?_
  refine w_nmh (fun yh47 eyh47 => ?_)
  have hf := wok_l hf eyh47
  exact w_vret X dX11_nextToken_211 hr (hT _ (wok_s hf))
set_option maxRecDepth 4000 in
theorem pX11_nextToken_b0 (X : wCx p s m args meth c RX11 cX11_nextToken 2 D dA b0 ad) (hr : meth.sig.returnType = none) {h : wSt} {K : wSt → Prop} (hT : ∀ (h2 : wSt), K h2 → F none h2) (hf : wok (fX11_nextToken h ) K) : wM p l e (wR 2) s m args below meth c 0 0 (wE below args s D dA b0 ad S0 F) 2 D dA b0 ad S0 0 [some (.ref 188), none] [] h := by
  unfold fX11_nextToken at hf
  obtain ⟨ye23, hye23, hf⟩ := wok_b hf
  refine pX11_nextToken_l0 X hr  (KE := fun z => ye23 = z) ?_ 3000 _ ⟨ye23, hye23, rfl⟩
  · intro yz24 hz
    subst hz
    refine w_aload_n X dX11_nextToken_52 rfl rfl rfl ?_
    refine w_aload_n X dX11_nextToken_53 rfl rfl rfl ?_
    refine w_getI X dX11_nextToken_54 rfl fl_X11_156 S0_188 rfl ?_
    refine w_putI X dX11_nextToken_57 rfl fp_X11_159 S0_188 rfl ?_
    refine w_nmh (fun yh25 eyh25 => ?_)
    have hf := wok_l hf eyh25
    refine w_aload_n X dX11_nextToken_60 rfl rfl rfl ?_
    refine w_lconst X dX11_nextToken_61 rfl rfl ?_
    refine w_putJ X dX11_nextToken_62 rfl fp_X11_162 S0_188 rfl ?_
    refine w_nmh (fun yh26 eyh26 => ?_)
    have hf := wok_l hf eyh26
    refine w_aload_n X dX11_nextToken_65 rfl rfl rfl ?_
    refine w_iconst X dX11_nextToken_66 rfl ci_0 ?_
    refine w_putI X dX11_nextToken_67 rfl fp_X11_166 S0_188 rfl ?_
    refine w_nmh (fun yh27 eyh27 => ?_)
    have hf := wok_l hf eyh27
    refine w_aload_n X dX11_nextToken_70 rfl rfl rfl ?_
    refine w_getI X dX11_nextToken_71 rfl fl_X11_156 S0_188 rfl ?_
    refine w_aload_n X dX11_nextToken_74 rfl rfl rfl ?_
    refine w_getI X dX11_nextToken_75 rfl fl_X11_153 S0_188 rfl ?_
    refine w_icmp_ne X dX11_nextToken_78 rfl (t := 87) rfl (fun hc => ?_) (fun hc => ?_)
    · have hf := wok_f hf hc
      refine w_aload_n X dX11_nextToken_87 rfl rfl rfl ?_
      refine w_getR X dX11_nextToken_88 rfl fl_X11_7 S0_188 rfl ?_
      refine w_aload_n X dX11_nextToken_91 rfl rfl rfl ?_
      refine w_getI X dX11_nextToken_92 rfl fl_X11_156 S0_188 rfl ?_
      obtain ⟨yhg28, hf⟩ := wok_g hf
      refine w_iald X dX11_nextToken_95 rfl (j := (yh27.1 188 4).toNatClampNeg) rfl S0_189 yhg28 ?_
      refine w_topi (fun yx29 eyx29 => ?_)
      have hf := wok_l hf eyx29
      refine w_istore_n X dX11_nextToken_96 rfl rfl rfl (Nat.le_of_ble_eq_true rfl) (ls' := [some (.ref 188), some (.int yx29)]) rfl ?_
      refine w_iload_n X dX11_nextToken_97 rfl rfl rfl ?_
      refine w_bipush X dX11_nextToken_98 rfl cb_97 ?_
      refine w_icmp_lt X dX11_nextToken_100 rfl (t := 212) rfl (fun hc => ?_) (fun hc => ?_)
      · have hf := wok_t hf hc
        exact pX11_nextToken_b212 X hr  hT hf
      · have hf := wok_f hf hc
        refine w_iload_n X dX11_nextToken_103 rfl rfl rfl ?_
        refine w_bipush X dX11_nextToken_104 rfl cb_122 ?_
        refine w_icmp_gt X dX11_nextToken_106 rfl (t := 212) rfl (fun hc => ?_) (fun hc => ?_)
        · have hf := wok_t hf hc
          exact pX11_nextToken_b212 X hr  hT hf
        · have hf := wok_f hf hc
          refine w_fg (ls2 := [some (.ref 188), none]) ⟨rfl, trivial⟩ ?_
          obtain ⟨ye45, hye45, hf⟩ := wok_b hf
          refine pX11_nextToken_l109 X hr  (KE := fun z => ye45 = z) ?_ 3000 _ ⟨ye45, hye45, rfl⟩
          · intro yz46 hz
            subst hz
            refine w_aload_n X dX11_nextToken_188 rfl rfl rfl ?_
            refine w_aload_n X dX11_nextToken_189 rfl rfl rfl ?_
            refine w_getI X dX11_nextToken_190 rfl fl_X11_156 S0_188 rfl ?_
            refine w_aload_n X dX11_nextToken_193 rfl rfl rfl ?_
            refine w_getI X dX11_nextToken_194 rfl fl_X11_159 S0_188 rfl ?_
            refine w_isub X dX11_nextToken_197 rfl ?_
            refine w_bipush X dX11_nextToken_198 rfl cb_8 ?_
            refine w_icmp_le X dX11_nextToken_200 rfl (t := 207) rfl (fun hc => ?_) (fun hc => ?_)
            · have hf := wok_t hf hc
              refine w_iconst X dX11_nextToken_207 rfl ci_1 ?_
              refine w_fg (ls2 := [none, none]) trivial ?_
              exact pX11_nextToken_b208 X hr  hT hf
            · have hf := wok_f hf hc
              refine w_iconst X dX11_nextToken_203 rfl ci_4 ?_
              refine w_goto X dX11_nextToken_204 (t := 208) rfl ?_
              refine w_fg (ls2 := [none, none]) trivial ?_
              exact pX11_nextToken_b208 X hr  hT hf
    · have hf := wok_t hf hc
      refine w_aload_n X dX11_nextToken_81 rfl rfl rfl ?_
      refine w_iconst X dX11_nextToken_82 rfl ci_0 ?_
      refine w_putI X dX11_nextToken_83 rfl fp_X11_169 S0_188 rfl ?_
      refine w_nmh (fun yh48 eyh48 => ?_)
      have hf := wok_l hf eyh48
      exact w_vret X dX11_nextToken_86 hr (hT _ (wok_s hf))
set_option maxRecDepth 4000 in
theorem kX11_nextToken (l : Launch) {h : wSt} {res : wSt} (hf : fX11_nextToken h  = some res) : wC l yX11_nextToken cX11_nextToken 2 none 2 S0 [.ref 188] h (wFV (fun b => res = b)) := by
  refine w_meth2 1 (by decide) (Nat.le_of_ble_eq_true rfl) (ls := [some (.ref 188), none]) rfl ?_
  intro p e s m args below meth c D dA b0 ad X hr
  exact pX11_nextToken_b0 X hr  (K := fun z => res = z) (fun h2 hz => ⟨rfl, hz⟩) ⟨res, hf, rfl⟩
set_option maxRecDepth 4000 in
theorem pX11_isWord_b0 (X : wCx p s m args meth c RX11 cX11_isWord 3 D dA b0 ad) (hr : meth.sig.returnType = (some .boolean)) {h : wSt} {x0 : Int64} {K : Bool → Prop} (hT : ∀ (x : Bool), K x → F (some (.int (wb x))) h) (hf : wok (fX11_isWord h x0) K) : wM p l e (wR 1) s m args below meth c 0 0 (wE below args s D dA b0 ad S0 F) 3 D dA b0 ad S0 0 [some (.ref 188), some (.long x0), none] [] h := by
  unfold fX11_isWord at hf
  refine w_aload_n X dX11_isWord_0 rfl rfl rfl ?_
  refine w_getI X dX11_isWord_1 rfl fl_X11_169 S0_188 rfl ?_
  refine w_iconst X dX11_isWord_4 rfl ci_1 ?_
  refine w_icmp_ne X dX11_isWord_5 rfl (t := 21) rfl (fun hc => ?_) (fun hc => ?_)
  · have hf := wok_f hf hc
    refine w_iconst X dX11_isWord_21 rfl ci_0 ?_
    exact w_zret X dX11_isWord_22 hr rfl (hT false (wok_s hf))
  · have hf := wok_t hf hc
    refine w_aload_n X dX11_isWord_8 rfl rfl rfl ?_
    refine w_getJ X dX11_isWord_9 rfl fl_X11_162 S0_188 rfl ?_
    refine w_lload_n X dX11_isWord_12 rfl rfl rfl ?_
    refine w_lcmp_ne X dX11_isWord_13 dX11_isWord_14 rfl (t := 21) rfl (fun hc => ?_) (fun hc => ?_)
    · have hf := wok_f hf hc
      refine w_iconst X dX11_isWord_21 rfl ci_0 ?_
      exact w_zret X dX11_isWord_22 hr rfl (hT false (wok_s hf))
    · have hf := wok_t hf hc
      refine w_iconst X dX11_isWord_17 rfl ci_1 ?_
      refine w_goto X dX11_isWord_18 (t := 22) rfl ?_
      exact w_zret X dX11_isWord_22 hr rfl (hT true (wok_s hf))
set_option maxRecDepth 4000 in
theorem kX11_isWord (l : Launch) {h : wSt} {x0 : Int64} {res : Bool} (hf : fX11_isWord h x0 = some res) : wC l yX11_isWord cX11_isWord 3 (some .boolean) 1 S0 [.ref 188, .long x0] h (wFZ (fun a b => res = a ∧ h = b)) := by
  refine w_meth2 0 (by decide) (Nat.le_of_ble_eq_true rfl) (ls := [some (.ref 188), some (.long x0), none]) rfl ?_
  intro p e s m args below meth c D dA b0 ad X hr
  exact pX11_isWord_b0 X hr  (K := fun z => res = z) (fun x hz => ⟨x, rfl, hz, rfl⟩) ⟨res, hf, rfl⟩
set_option maxRecDepth 4000 in
theorem pX11_isSign_b0 (X : wCx p s m args meth c RX11 cX11_isSign 2 D dA b0 ad) (hr : meth.sig.returnType = (some .boolean)) {h : wSt} {x0 : Int32} {K : Bool → Prop} (hT : ∀ (x : Bool), K x → F (some (.int (wb x))) h) (hf : wok (fX11_isSign h x0) K) : wM p l e (wR 1) s m args below meth c 0 0 (wE below args s D dA b0 ad S0 F) 2 D dA b0 ad S0 0 [some (.ref 188), some (.int x0)] [] h := by
  unfold fX11_isSign at hf
  refine w_aload_n X dX11_isSign_0 rfl rfl rfl ?_
  refine w_getI X dX11_isSign_1 rfl fl_X11_169 S0_188 rfl ?_
  refine w_iconst X dX11_isSign_4 rfl ci_3 ?_
  refine w_icmp_ne X dX11_isSign_5 rfl (t := 25) rfl (fun hc => ?_) (fun hc => ?_)
  · have hf := wok_f hf hc
    refine w_iconst X dX11_isSign_25 rfl ci_0 ?_
    exact w_zret X dX11_isSign_26 hr rfl (hT false (wok_s hf))
  · have hf := wok_t hf hc
    refine w_aload_n X dX11_isSign_8 rfl rfl rfl ?_
    refine w_getR X dX11_isSign_9 rfl fl_X11_7 S0_188 rfl ?_
    refine w_aload_n X dX11_isSign_12 rfl rfl rfl ?_
    refine w_getI X dX11_isSign_13 rfl fl_X11_159 S0_188 rfl ?_
    obtain ⟨yhg21, hf⟩ := wok_g hf
    refine w_iald X dX11_isSign_16 rfl (j := (h.1 188 5).toNatClampNeg) rfl S0_189 yhg21 ?_
    refine w_iload_n X dX11_isSign_17 rfl rfl rfl ?_
    refine w_icmp_ne X dX11_isSign_18 rfl (t := 25) rfl (fun hc => ?_) (fun hc => ?_)
    · have hf := wok_f hf hc
      refine w_iconst X dX11_isSign_25 rfl ci_0 ?_
      exact w_zret X dX11_isSign_26 hr rfl (hT false (wok_s hf))
    · have hf := wok_t hf hc
      refine w_iconst X dX11_isSign_21 rfl ci_1 ?_
      refine w_goto X dX11_isSign_22 (t := 26) rfl ?_
      exact w_zret X dX11_isSign_26 hr rfl (hT true (wok_s hf))
set_option maxRecDepth 4000 in
theorem kX11_isSign (l : Launch) {h : wSt} {x0 : Int32} {res : Bool} (hf : fX11_isSign h x0 = some res) : wC l yX11_isSign cX11_isSign 2 (some .boolean) 1 S0 [.ref 188, .int x0] h (wFZ (fun a b => res = a ∧ h = b)) := by
  refine w_meth2 0 (by decide) (Nat.le_of_ble_eq_true rfl) (ls := [some (.ref 188), some (.int x0)]) rfl ?_
  intro p e s m args below meth c D dA b0 ad X hr
  exact pX11_isSign_b0 X hr  (K := fun z => res = z) (fun x hz => ⟨x, rfl, hz, rfl⟩) ⟨res, hf, rfl⟩
set_option maxRecDepth 4000 in
theorem pX11_fails_b0 (X : wCx p s m args meth c RX11 cX11_fails 2 D dA b0 ad) (hr : meth.sig.returnType = (some .boolean)) {h : wSt} {x0 : Int32} {K : Bool × wSt → Prop} (hT : ∀ (x : Bool) (h2 : wSt), K (x, h2) → F (some (.int (wb x))) h2) (hf : wok (fX11_fails h x0) K) : wM p l e (wR 1) s m args below meth c 0 0 (wE below args s D dA b0 ad S0 F) 2 D dA b0 ad S0 0 [some (.ref 188), some (.int x0)] [] h := by
  unfold fX11_fails at hf
  refine w_aload_n X dX11_fails_0 rfl rfl rfl ?_
  refine w_iload_n X dX11_fails_1 rfl rfl rfl ?_
  refine w_bipush X dX11_fails_2 rfl cb_16 ?_
  refine w_aload_n X dX11_fails_4 rfl rfl rfl ?_
  refine w_getI X dX11_fails_5 rfl fl_X11_159 S0_188 rfl ?_
  refine w_imul X dX11_fails_8 rfl ?_
  refine w_iadd X dX11_fails_9 rfl ?_
  refine w_putI X dX11_fails_10 rfl fp_X11_180 S0_188 rfl ?_
  refine w_nmh (fun yh21 eyh21 => ?_)
  have hf := wok_l hf eyh21
  refine w_iconst X dX11_fails_13 rfl ci_0 ?_
  exact w_zret X dX11_fails_14 hr rfl (hT false _ (wok_s hf))
set_option maxRecDepth 4000 in
theorem kX11_fails (l : Launch) {h : wSt} {x0 : Int32} {res : Bool × wSt} (hf : fX11_fails h x0 = some res) : wC l yX11_fails cX11_fails 2 (some .boolean) 1 S0 [.ref 188, .int x0] h (wFZ (fun a b => res.1 = a ∧ res.2 = b)) := by
  refine w_meth2 0 (by decide) (Nat.le_of_ble_eq_true rfl) (ls := [some (.ref 188), some (.int x0)]) rfl ?_
  intro p e s m args below meth c D dA b0 ad X hr
  exact pX11_fails_b0 X hr  (K := fun z => res = z) (fun x h2 hz => ⟨x, rfl, by rw [hz], by rw [hz]⟩) ⟨res, hf, rfl⟩
set_option maxRecDepth 4000 in
theorem pX11_puts_b0 (X : wCx p s m args meth c RX11 cX11_puts 2 D dA b0 ad) (hr : meth.sig.returnType = none) {h : wSt} {x0 : Int32} {K : wSt → Prop} (hT : ∀ (h2 : wSt), K h2 → F none h2) (hf : wok (fX11_puts h x0) K) : wM p l e (wR 1) s m args below meth c 0 0 (wE below args s D dA b0 ad S0 F) 2 D dA b0 ad S0 0 [some (.ref 188), some (.int x0)] [] h := by
  unfold fX11_puts at hf
  refine w_aload_n X dX11_puts_0 rfl rfl rfl ?_
  refine w_getR X dX11_puts_1 rfl fl_X11_50 S0_188 rfl ?_
  refine w_aload_n X dX11_puts_4 rfl rfl rfl ?_
  refine w_getI X dX11_puts_5 rfl fl_X11_183 S0_188 rfl ?_
  refine w_iload_n X dX11_puts_8 rfl rfl rfl ?_
  obtain ⟨yhg21, hf⟩ := wok_g hf
  refine w_iast X dX11_puts_9 rfl (j := (h.1 188 23).toNatClampNeg) rfl S0_202 yhg21 ?_
  refine w_nmh (fun yh22 eyh22 => ?_)
  have hf := wok_l hf eyh22
  refine w_aload_n X dX11_puts_10 rfl rfl rfl ?_
  refine w_dup X dX11_puts_11 rfl rfl ?_
  refine w_getI X dX11_puts_12 rfl fl_X11_183 S0_188 rfl ?_
  refine w_iconst X dX11_puts_15 rfl ci_1 ?_
  refine w_iadd X dX11_puts_16 rfl ?_
  refine w_putI X dX11_puts_17 rfl fp_X11_183 S0_188 rfl ?_
  refine w_nmh (fun yh23 eyh23 => ?_)
  have hf := wok_l hf eyh23
  exact w_vret X dX11_puts_20 hr (hT _ (wok_s hf))
set_option maxRecDepth 4000 in
theorem kX11_puts (l : Launch) {h : wSt} {x0 : Int32} {res : wSt} (hf : fX11_puts h x0 = some res) : wC l yX11_puts cX11_puts 2 none 1 S0 [.ref 188, .int x0] h (wFV (fun b => res = b)) := by
  refine w_meth2 0 (by decide) (Nat.le_of_ble_eq_true rfl) (ls := [some (.ref 188), some (.int x0)]) rfl ?_
  intro p e s m args below meth c D dA b0 ad X hr
  exact pX11_puts_b0 X hr  (K := fun z => res = z) (fun h2 hz => ⟨rfl, hz⟩) ⟨res, hf, rfl⟩
set_option maxRecDepth 4000 in
theorem pX11_fact_b0 (X : wCx p s m args meth c RX11 cX11_fact 1 D dA b0 ad) (hr : meth.sig.returnType = (some .int)) {h : wSt} {K : Int32 → Prop} (hT : ∀ (x : Int32), K x → F (some (.int x)) h) (hf : wok (fX11_fact h ) K) : wM p l e (wR 1) s m args below meth c 0 0 (wE below args s D dA b0 ad S0 F) 1 D dA b0 ad S0 0 [some (.ref 188)] [] h := by
  unfold fX11_fact at hf
  refine w_aload_n X dX11_fact_0 rfl rfl rfl ?_
  refine w_getI X dX11_fact_1 rfl fl_X11_169 S0_188 rfl ?_
  refine w_iconst X dX11_fact_4 rfl ci_1 ?_
  refine w_icmp_eq X dX11_fact_5 rfl (t := 10) rfl (fun hc => ?_) (fun hc => ?_)
  · have hf := wok_t hf hc
    refine w_aload_n X dX11_fact_10 rfl rfl rfl ?_
    refine w_getJ X dX11_fact_11 rfl fl_X11_162 S0_188 rfl ?_
    refine w_ldc2 X dX11_fact_14 rfl wd_1479 ?_
    refine w_lcmp_ne X dX11_fact_17 dX11_fact_18 rfl (t := 23) rfl (fun hc => ?_) (fun hc => ?_)
    · have hf := wok_f hf hc
      refine w_aload_n X dX11_fact_23 rfl rfl rfl ?_
      refine w_getJ X dX11_fact_24 rfl fl_X11_162 S0_188 rfl ?_
      refine w_ldc2 X dX11_fact_27 rfl wd_1480 ?_
      refine w_lcmp_ne X dX11_fact_30 dX11_fact_31 rfl (t := 36) rfl (fun hc => ?_) (fun hc => ?_)
      · have hf := wok_f hf hc
        refine w_aload_n X dX11_fact_36 rfl rfl rfl ?_
        refine w_getJ X dX11_fact_37 rfl fl_X11_162 S0_188 rfl ?_
        refine w_ldc2 X dX11_fact_40 rfl wd_1481 ?_
        refine w_lcmp_ne X dX11_fact_43 dX11_fact_44 rfl (t := 51) rfl (fun hc => ?_) (fun hc => ?_)
        · have hf := wok_f hf hc
          refine w_aload_n X dX11_fact_51 rfl rfl rfl ?_
          refine w_getJ X dX11_fact_52 rfl fl_X11_162 S0_188 rfl ?_
          refine w_ldc2 X dX11_fact_55 rfl wd_1482 ?_
          refine w_lcmp_ne X dX11_fact_58 dX11_fact_59 rfl (t := 66) rfl (fun hc => ?_) (fun hc => ?_)
          · have hf := wok_f hf hc
            refine w_iconst X dX11_fact_66 rfl ci_0 ?_
            exact w_iret X dX11_fact_67 hr (hT _ (wok_s hf))
          · have hf := wok_t hf hc
            refine w_iconst X dX11_fact_62 rfl ci_4 ?_
            refine w_goto X dX11_fact_63 (t := 67) rfl ?_
            exact w_iret X dX11_fact_67 hr (hT _ (wok_s hf))
        · have hf := wok_t hf hc
          refine w_iconst X dX11_fact_47 rfl ci_3 ?_
          refine w_goto X dX11_fact_48 (t := 67) rfl ?_
          exact w_iret X dX11_fact_67 hr (hT _ (wok_s hf))
      · have hf := wok_t hf hc
        refine w_iconst X dX11_fact_34 rfl ci_2 ?_
        exact w_iret X dX11_fact_35 hr (hT _ (wok_s hf))
    · have hf := wok_t hf hc
      refine w_iconst X dX11_fact_21 rfl ci_1 ?_
      exact w_iret X dX11_fact_22 hr (hT _ (wok_s hf))
  · have hf := wok_f hf hc
    refine w_iconst X dX11_fact_8 rfl ci_0 ?_
    exact w_iret X dX11_fact_9 hr (hT _ (wok_s hf))
set_option maxRecDepth 4000 in
theorem kX11_fact (l : Launch) {h : wSt} {res : Int32} (hf : fX11_fact h  = some res) : wC l yX11_fact cX11_fact 1 (some .int) 1 S0 [.ref 188] h (wFI (fun a b => res = a ∧ h = b)) := by
  refine w_meth2 0 (by decide) (Nat.le_of_ble_eq_true rfl) (ls := [some (.ref 188)]) rfl ?_
  intro p e s m args below meth c D dA b0 ad X hr
  exact pX11_fact_b0 X hr  (K := fun z => res = z) (fun x hz => ⟨x, rfl, hz, rfl⟩) ⟨res, hf, rfl⟩
set_option maxRecDepth 4000 in
theorem pX11_reads_b424_11 (X : wCx p s m args meth c RX11 cX11_reads 6 D dA b0 ad) (hr : meth.sig.returnType = (some .boolean)) {h : wSt} {v1 : Int32} {v2 : Int32} {K : (Int32 × Int32 × wSt) ⊕ ((Bool × wSt)) → Prop} (hN : ∀ (n1 : Int32) (n2 : Int32) (nh : wSt), K (.inl (n1, n2, nh)) → wM p l e (wR 3) s m args below meth c 0 0 (wE below args s D dA b0 ad S0 F) 6 D dA b0 ad S0 11 [some (.ref 188), some (.int n1), some (.int n2), none, none, none] [] nh) (hT : ∀ (x : Bool) (h2 : wSt), K (.inr (x, h2)) → F (some (.int (wb x))) h2) (hf : wok (fX11_reads_b424_11 h v1 v2) K) : wM p l e (wR 3) s m args below meth c 0 0 (wE below args s D dA b0 ad S0 F) 6 D dA b0 ad S0 424 [some (.ref 188), some (.int v1), some (.int v2), none, none, none] [] h := by
  unfold fX11_reads_b424_11 at hf
  refine w_aload_n X dX11_reads_424 rfl rfl rfl ?_
  obtain ⟨yr26, eyr26, hf⟩ := wok_b hf
  refine w_callV X dX11_reads_425 rfl vl_X11_215 (kX11_nextToken l  eyr26) S0_188 (As := []) (st := []) rfl rfl (Nat.le_of_ble_eq_true rfl) ⟨Nat.le_of_ble_eq_true rfl, Nat.le_of_ble_eq_true rfl⟩ ⟨Nat.zero_le _, Nat.zero_le _⟩ (fun r h2 hF => ?_)
  obtain ⟨rfl, rfl⟩ := hF
  show wM p l e (wR 3) s m args below meth c 0 0 (wE below args s D dA b0 ad S0 F) 6 D dA b0 ad S0 428 [some (.ref 188), some (.int v1), some (.int v2), none, none, none] [] yr26
  refine w_goto X dX11_reads_428 (t := 11) rfl ?_
  exact hN _ _ _ (wok_s hf)
set_option maxRecDepth 4000 in
theorem pX11_reads_b237_11 (X : wCx p s m args meth c RX11 cX11_reads 6 D dA b0 ad) (hr : meth.sig.returnType = (some .boolean)) {h : wSt} {v1 : Int32} {w1 : Int32} {K : (Int32 × Int32 × wSt) ⊕ ((Bool × wSt)) → Prop} (hN : ∀ (n1 : Int32) (n2 : Int32) (nh : wSt), K (.inl (n1, n2, nh)) → wM p l e (wR 3) s m args below meth c 0 0 (wE below args s D dA b0 ad S0 F) 6 D dA b0 ad S0 11 [some (.ref 188), some (.int n1), some (.int n2), none, none, none] [] nh) (hT : ∀ (x : Bool) (h2 : wSt), K (.inr (x, h2)) → F (some (.int (wb x))) h2) (hf : wok (fX11_reads_b237_11 h v1 w1) K) : wM p l e (wR 3) s m args below meth c 0 0 (wE below args s D dA b0 ad S0 F) 6 D dA b0 ad S0 237 [some (.ref 188), some (.int v1), none, none, none, none] [.int w1, .ref 188] h := by
  unfold fX11_reads_b237_11 at hf
  obtain ⟨yr25, eyr25, hf⟩ := wok_b hf
  refine w_callV X dX11_reads_237 rfl vl_X11_211 (kX11_puts l  eyr25) S0_188 (As := [.int w1]) (st := []) rfl rfl (Nat.le_of_ble_eq_true rfl) ⟨Nat.le_of_ble_eq_true rfl, Nat.le_of_ble_eq_true rfl⟩ ⟨Nat.zero_le _, Nat.zero_le _⟩ (fun r h2 hF => ?_)
  obtain ⟨rfl, rfl⟩ := hF
  show wM p l e (wR 3) s m args below meth c 0 0 (wE below args s D dA b0 ad S0 F) 6 D dA b0 ad S0 240 [some (.ref 188), some (.int v1), none, none, none, none] [] yr25
  refine w_iconst X dX11_reads_240 rfl ci_1 ?_
  refine w_istore_n X dX11_reads_241 rfl rfl rfl (Nat.le_of_ble_eq_true rfl) (ls' := [some (.ref 188), some (.int v1), some (.int 1), none, none, none]) rfl ?_
  refine w_goto X dX11_reads_242 (t := 424) rfl ?_
  exact pX11_reads_b424_11 X hr  hN hT hf
set_option maxRecDepth 4000 in
theorem pX11_reads_b206_11 (X : wCx p s m args meth c RX11 cX11_reads 6 D dA b0 ad) (hr : meth.sig.returnType = (some .boolean)) {h : wSt} {v1 : Int32} {K : (Int32 × Int32 × wSt) ⊕ ((Bool × wSt)) → Prop} (hN : ∀ (n1 : Int32) (n2 : Int32) (nh : wSt), K (.inl (n1, n2, nh)) → wM p l e (wR 3) s m args below meth c 0 0 (wE below args s D dA b0 ad S0 F) 6 D dA b0 ad S0 11 [some (.ref 188), some (.int n1), some (.int n2), none, none, none] [] nh) (hT : ∀ (x : Bool) (h2 : wSt), K (.inr (x, h2)) → F (some (.int (wb x))) h2) (hf : wok (fX11_reads_b206_11 h v1) K) : wM p l e (wR 3) s m args below meth c 0 0 (wE below args s D dA b0 ad S0 F) 6 D dA b0 ad S0 206 [some (.ref 188), some (.int v1), none, none, none, none] [] h := by
  unfold fX11_reads_b206_11 at hf
  refine w_aload_n X dX11_reads_206 rfl rfl rfl ?_
  refine w_aload_n X dX11_reads_207 rfl rfl rfl ?_
  refine w_bipush X dX11_reads_208 rfl cb_43 ?_
  obtain ⟨yr23, eyr23, hf⟩ := wok_b hf
  refine w_callV X dX11_reads_210 rfl vl_X11_204 (kX11_isSign l  eyr23) S0_188 (As := [.int 43]) (st := [.ref 188]) rfl rfl (Nat.le_of_ble_eq_true rfl) ⟨Nat.le_of_ble_eq_true rfl, Nat.le_of_ble_eq_true rfl⟩ ⟨Nat.zero_le _, Nat.zero_le _⟩ (fun r h2 hF => ?_)
  obtain ⟨_, rfl, rfl, rfl⟩ := hF
  show wM p l e (wR 3) s m args below meth c 0 0 (wE below args s D dA b0 ad S0 F) 6 D dA b0 ad S0 213 [some (.ref 188), some (.int v1), none, none, none, none] [.int (wb yr23), .ref 188] h
  refine w_if_eq X dX11_reads_213 rfl (t := 221) rfl (fun hc => ?_) (fun hc => ?_)
  · have hf := wok_f hf (wb_0 hc)
    refine w_aload_n X dX11_reads_221 rfl rfl rfl ?_
    refine w_bipush X dX11_reads_222 rfl cb_45 ?_
    obtain ⟨yr24, eyr24, hf⟩ := wok_b hf
    refine w_callV X dX11_reads_224 rfl vl_X11_204 (kX11_isSign l  eyr24) S0_188 (As := [.int 45]) (st := [.ref 188]) rfl rfl (Nat.le_of_ble_eq_true rfl) ⟨Nat.le_of_ble_eq_true rfl, Nat.le_of_ble_eq_true rfl⟩ ⟨Nat.zero_le _, Nat.zero_le _⟩ (fun r h2 hF => ?_)
    obtain ⟨_, rfl, rfl, rfl⟩ := hF
    show wM p l e (wR 3) s m args below meth c 0 0 (wE below args s D dA b0 ad S0 F) 6 D dA b0 ad S0 227 [some (.ref 188), some (.int v1), none, none, none, none] [.int (wb yr24), .ref 188] h
    refine w_if_eq X dX11_reads_227 rfl (t := 235) rfl (fun hc => ?_) (fun hc => ?_)
    · have hf := wok_f hf (wb_0 hc)
      refine w_bipush X dX11_reads_235 rfl cb_22 ?_
      exact pX11_reads_b237_11 X hr  hN hT hf
    · have hf := wok_t hf (wb_n0 hc)
      refine w_bipush X dX11_reads_230 rfl cb_21 ?_
      refine w_goto X dX11_reads_232 (t := 237) rfl ?_
      exact pX11_reads_b237_11 X hr  hN hT hf
  · have hf := wok_t hf (wb_n0 hc)
    refine w_bipush X dX11_reads_216 rfl cb_20 ?_
    refine w_goto X dX11_reads_218 (t := 237) rfl ?_
    exact pX11_reads_b237_11 X hr  hN hT hf
set_option maxRecDepth 4000 in
theorem pX11_reads_b342_11 (X : wCx p s m args meth c RX11 cX11_reads 6 D dA b0 ad) (hr : meth.sig.returnType = (some .boolean)) {h : wSt} {v1 : Int32} {w1 : Int32} {K : (Int32 × Int32 × wSt) ⊕ ((Bool × wSt)) → Prop} (hN : ∀ (n1 : Int32) (n2 : Int32) (nh : wSt), K (.inl (n1, n2, nh)) → wM p l e (wR 3) s m args below meth c 0 0 (wE below args s D dA b0 ad S0 F) 6 D dA b0 ad S0 11 [some (.ref 188), some (.int n1), some (.int n2), none, none, none] [] nh) (hT : ∀ (x : Bool) (h2 : wSt), K (.inr (x, h2)) → F (some (.int (wb x))) h2) (hf : wok (fX11_reads_b342_11 h v1 w1) K) : wM p l e (wR 3) s m args below meth c 0 0 (wE below args s D dA b0 ad S0 F) 6 D dA b0 ad S0 342 [some (.ref 188), some (.int v1), none, none, none, none] [.int w1, .ref 188] h := by
  unfold fX11_reads_b342_11 at hf
  obtain ⟨yr33, eyr33, hf⟩ := wok_b hf
  refine w_callV X dX11_reads_342 rfl vl_X11_211 (kX11_puts l  eyr33) S0_188 (As := [.int w1]) (st := []) rfl rfl (Nat.le_of_ble_eq_true rfl) ⟨Nat.le_of_ble_eq_true rfl, Nat.le_of_ble_eq_true rfl⟩ ⟨Nat.zero_le _, Nat.zero_le _⟩ (fun r h2 hF => ?_)
  obtain ⟨rfl, rfl⟩ := hF
  show wM p l e (wR 3) s m args below meth c 0 0 (wE below args s D dA b0 ad S0 F) 6 D dA b0 ad S0 345 [some (.ref 188), some (.int v1), none, none, none, none] [] yr33
  refine w_aload_n X dX11_reads_345 rfl rfl rfl ?_
  refine w_getR X dX11_reads_346 rfl fl_X11_56 S0_188 rfl ?_
  refine w_iload_n X dX11_reads_349 rfl rfl rfl ?_
  refine w_iconst X dX11_reads_350 rfl ci_0 ?_
  obtain ⟨yhg34, hf⟩ := wok_g hf
  refine w_zast X dX11_reads_351 rfl (j := v1.toNatClampNeg) rfl S0_204 yhg34 ?_
  refine w_nmh (fun yh35 eyh35 => ?_)
  have hf := wok_l hf eyh35
  refine w_iconst X dX11_reads_352 rfl ci_1 ?_
  refine w_istore_n X dX11_reads_353 rfl rfl rfl (Nat.le_of_ble_eq_true rfl) (ls' := [some (.ref 188), some (.int v1), some (.int 1), none, none, none]) rfl ?_
  refine w_goto X dX11_reads_354 (t := 424) rfl ?_
  exact pX11_reads_b424_11 X hr  hN hT hf
set_option maxRecDepth 4000 in
theorem pX11_reads_b324_11 (X : wCx p s m args meth c RX11 cX11_reads 6 D dA b0 ad) (hr : meth.sig.returnType = (some .boolean)) {h : wSt} {v1 : Int32} {K : (Int32 × Int32 × wSt) ⊕ ((Bool × wSt)) → Prop} (hN : ∀ (n1 : Int32) (n2 : Int32) (nh : wSt), K (.inl (n1, n2, nh)) → wM p l e (wR 3) s m args below meth c 0 0 (wE below args s D dA b0 ad S0 F) 6 D dA b0 ad S0 11 [some (.ref 188), some (.int n1), some (.int n2), none, none, none] [] nh) (hT : ∀ (x : Bool) (h2 : wSt), K (.inr (x, h2)) → F (some (.int (wb x))) h2) (hf : wok (fX11_reads_b324_11 h v1) K) : wM p l e (wR 3) s m args below meth c 0 0 (wE below args s D dA b0 ad S0 F) 6 D dA b0 ad S0 324 [some (.ref 188), some (.int v1), none, none, none, none] [] h := by
  unfold fX11_reads_b324_11 at hf
  refine w_aload_n X dX11_reads_324 rfl rfl rfl ?_
  refine w_aload_n X dX11_reads_325 rfl rfl rfl ?_
  refine w_ldc2 X dX11_reads_326 rfl wd_1422 ?_
  obtain ⟨yr32, eyr32, hf⟩ := wok_b hf
  refine w_callV X dX11_reads_329 rfl vl_X11_200 (kX11_isWord l  eyr32) S0_188 (As := [.long 1111]) (st := [.ref 188]) rfl rfl (Nat.le_of_ble_eq_true rfl) ⟨Nat.le_of_ble_eq_true rfl, Nat.le_of_ble_eq_true rfl⟩ ⟨Nat.zero_le _, Nat.zero_le _⟩ (fun r h2 hF => ?_)
  obtain ⟨_, rfl, rfl, rfl⟩ := hF
  show wM p l e (wR 3) s m args below meth c 0 0 (wE below args s D dA b0 ad S0 F) 6 D dA b0 ad S0 332 [some (.ref 188), some (.int v1), none, none, none, none] [.int (wb yr32), .ref 188] h
  refine w_if_eq X dX11_reads_332 rfl (t := 340) rfl (fun hc => ?_) (fun hc => ?_)
  · have hf := wok_f hf (wb_0 hc)
    refine w_bipush X dX11_reads_340 rfl cb_27 ?_
    exact pX11_reads_b342_11 X hr  hN hT hf
  · have hf := wok_t hf (wb_n0 hc)
    refine w_bipush X dX11_reads_335 rfl cb_26 ?_
    refine w_goto X dX11_reads_337 (t := 342) rfl ?_
    exact pX11_reads_b342_11 X hr  hN hT hf
set_option maxRecDepth 4000 in
theorem pX11_reads_b418_11 (X : wCx p s m args meth c RX11 cX11_reads 6 D dA b0 ad) (hr : meth.sig.returnType = (some .boolean)) {h : wSt} {K : (Int32 × Int32 × wSt) ⊕ ((Bool × wSt)) → Prop} (hN : ∀ (n1 : Int32) (n2 : Int32) (nh : wSt), K (.inl (n1, n2, nh)) → wM p l e (wR 3) s m args below meth c 0 0 (wE below args s D dA b0 ad S0 F) 6 D dA b0 ad S0 11 [some (.ref 188), some (.int n1), some (.int n2), none, none, none] [] nh) (hT : ∀ (x : Bool) (h2 : wSt), K (.inr (x, h2)) → F (some (.int (wb x))) h2) (hf : wok (fX11_reads_b418_11 h ) K) : wM p l e (wR 3) s m args below meth c 0 0 (wE below args s D dA b0 ad S0 F) 6 D dA b0 ad S0 418 [some (.ref 188), none, none, none, none, none] [] h := by
  unfold fX11_reads_b418_11 at hf
  refine w_aload_n X dX11_reads_418 rfl rfl rfl ?_
  refine w_iconst X dX11_reads_419 rfl ci_1 ?_
  obtain ⟨yr38, eyr38, hf⟩ := wok_b hf
  refine w_callV X dX11_reads_420 rfl vl_X11_208 (kX11_fails l  eyr38) S0_188 (As := [.int 1]) (st := []) rfl rfl (Nat.le_of_ble_eq_true rfl) ⟨Nat.le_of_ble_eq_true rfl, Nat.le_of_ble_eq_true rfl⟩ ⟨Nat.zero_le _, Nat.zero_le _⟩ (fun r h2 hF => ?_)
  obtain ⟨_, rfl, rfl, rfl⟩ := hF
  show wM p l e (wR 3) s m args below meth c 0 0 (wE below args s D dA b0 ad S0 F) 6 D dA b0 ad S0 423 [some (.ref 188), none, none, none, none, none] [.int (wb yr38.1)] yr38.2
  exact w_zret X dX11_reads_423 hr (wb_n _) (hT _ _ (wok_s hf))
set_option maxRecDepth 4000 in
theorem pX11_reads_b399_11 (X : wCx p s m args meth c RX11 cX11_reads 6 D dA b0 ad) (hr : meth.sig.returnType = (some .boolean)) {h : wSt} {v1 : Int32} {K : (Int32 × Int32 × wSt) ⊕ ((Bool × wSt)) → Prop} (hN : ∀ (n1 : Int32) (n2 : Int32) (nh : wSt), K (.inl (n1, n2, nh)) → wM p l e (wR 3) s m args below meth c 0 0 (wE below args s D dA b0 ad S0 F) 6 D dA b0 ad S0 11 [some (.ref 188), some (.int n1), some (.int n2), none, none, none] [] nh) (hT : ∀ (x : Bool) (h2 : wSt), K (.inr (x, h2)) → F (some (.int (wb x))) h2) (hf : wok (fX11_reads_b399_11 h v1) K) : wM p l e (wR 3) s m args below meth c 0 0 (wE below args s D dA b0 ad S0 F) 6 D dA b0 ad S0 399 [some (.ref 188), some (.int v1), none, none, none, none] [] h := by
  unfold fX11_reads_b399_11 at hf
  refine w_iload_n X dX11_reads_399 rfl rfl rfl ?_
  refine w_if_ne X dX11_reads_400 rfl (t := 418) rfl (fun hc => ?_) (fun hc => ?_)
  · have hf := wok_f hf hc
    refine w_fg (ls2 := [some (.ref 188), none, none, none, none, none]) ⟨rfl, trivial⟩ ?_
    exact pX11_reads_b418_11 X hr  hN hT hf
  · have hf := wok_t hf hc
    refine w_aload_n X dX11_reads_403 rfl rfl rfl ?_
    refine w_bipush X dX11_reads_404 rfl cb_59 ?_
    obtain ⟨yr39, eyr39, hf⟩ := wok_b hf
    refine w_callV X dX11_reads_406 rfl vl_X11_204 (kX11_isSign l  eyr39) S0_188 (As := [.int 59]) (st := []) rfl rfl (Nat.le_of_ble_eq_true rfl) ⟨Nat.le_of_ble_eq_true rfl, Nat.le_of_ble_eq_true rfl⟩ ⟨Nat.zero_le _, Nat.zero_le _⟩ (fun r h2 hF => ?_)
    obtain ⟨_, rfl, rfl, rfl⟩ := hF
    show wM p l e (wR 3) s m args below meth c 0 0 (wE below args s D dA b0 ad S0 F) 6 D dA b0 ad S0 409 [some (.ref 188), some (.int v1), none, none, none, none] [.int (wb yr39)] h
    refine w_if_eq X dX11_reads_409 rfl (t := 418) rfl (fun hc => ?_) (fun hc => ?_)
    · have hf := wok_f hf (wb_0 hc)
      refine w_fg (ls2 := [some (.ref 188), none, none, none, none, none]) ⟨rfl, trivial⟩ ?_
      exact pX11_reads_b418_11 X hr  hN hT hf
    · have hf := wok_t hf (wb_n0 hc)
      refine w_aload_n X dX11_reads_412 rfl rfl rfl ?_
      obtain ⟨yr40, eyr40, hf⟩ := wok_b hf
      refine w_callV X dX11_reads_413 rfl vl_X11_215 (kX11_nextToken l  eyr40) S0_188 (As := []) (st := []) rfl rfl (Nat.le_of_ble_eq_true rfl) ⟨Nat.le_of_ble_eq_true rfl, Nat.le_of_ble_eq_true rfl⟩ ⟨Nat.zero_le _, Nat.zero_le _⟩ (fun r h2 hF => ?_)
      obtain ⟨rfl, rfl⟩ := hF
      show wM p l e (wR 3) s m args below meth c 0 0 (wE below args s D dA b0 ad S0 F) 6 D dA b0 ad S0 416 [some (.ref 188), some (.int v1), none, none, none, none] [] yr40
      refine w_iconst X dX11_reads_416 rfl ci_1 ?_
      exact w_zret X dX11_reads_417 hr rfl (hT true _ (wok_s hf))
set_option maxRecDepth 4000 in
theorem pX11_reads_l379b (X : wCx p s m args meth c RX11 cX11_reads 6 D dA b0 ad) (hr : meth.sig.returnType = (some .boolean)) {h : wSt} {v2 : Int32} {v1 : Int32} {K : (Int32) ⊕ ((Int32)) → Prop} (hN : ∀ (n1 : Int32), K (.inl n1) → wM p l e (wR 3) s m args below meth c 0 0 (wE below args s D dA b0 ad S0 F) 6 D dA b0 ad S0 379 [some (.ref 188), some (.int n1), some (.int v2), none, none, none] [] h) (hX0 : ∀ (n1 : Int32), K (.inr n1) → wM p l e (wR 3) s m args below meth c 0 0 (wE below args s D dA b0 ad S0 F) 6 D dA b0 ad S0 424 [some (.ref 188), some (.int n1), some (.int v2), none, none, none] [] h) (hf : wok (fX11_reads_l379 h v2 v1) K) : wM p l e (wR 3) s m args below meth c 0 0 (wE below args s D dA b0 ad S0 F) 6 D dA b0 ad S0 379 [some (.ref 188), some (.int v1), some (.int v2), none, none, none] [] h := by
  unfold fX11_reads_l379 at hf
  refine w_iload_n X dX11_reads_379 rfl rfl rfl ?_
  refine w_if_le X dX11_reads_380 rfl (t := 424) rfl (fun hc => ?_) (fun hc => ?_)
  · have hf := wok_t hf hc
    exact hX0 _ (wok_s hf)
  · have hf := wok_f hf hc
    refine w_aload_n X dX11_reads_383 rfl rfl rfl ?_
    refine w_getR X dX11_reads_384 rfl fl_X11_53 S0_188 rfl ?_
    refine w_iload_n X dX11_reads_387 rfl rfl rfl ?_
    obtain ⟨yhg42, hf⟩ := wok_g hf
    refine w_iald X dX11_reads_388 rfl (j := v1.toNatClampNeg) rfl S0_203 yhg42 ?_
    refine w_iconst X dX11_reads_389 rfl ci_1 ?_
    refine w_icmp_ne X dX11_reads_390 rfl (t := 424) rfl (fun hc => ?_) (fun hc => ?_)
    · have hf := wok_f hf hc
      exact hX0 _ (wok_s hf)
    · have hf := wok_t hf hc
      refine w_iinc X dX11_reads_393 rfl (v := (v1 + (-1))) rfl rfl (Nat.le_of_ble_eq_true rfl) (cinc_m1 _) (ls' := [some (.ref 188), some (.int (v1 + (-1))), some (.int v2), none, none, none]) rfl ?_
      refine w_goto X dX11_reads_396 (t := 379) rfl ?_
      exact hN _ (wok_s hf)
set_option maxRecDepth 4000 in
theorem pX11_reads_l379 (X : wCx p s m args meth c RX11 cX11_reads 6 D dA b0 ad) (hr : meth.sig.returnType = (some .boolean)) {h : wSt} {v2 : Int32} {KE : (Int32) → Prop} (hX0 : ∀ (n1 : Int32), KE (n1) → wM p l e (wR 3) s m args below meth c 0 0 (wE below args s D dA b0 ad S0 F) 6 D dA b0 ad S0 424 [some (.ref 188), some (.int n1), some (.int v2), none, none, none] [] h) : ∀ (n : Nat) (v1 : Int32), wok (wit (fun v : (Int32) => fX11_reads_l379 h v2 v) n v1) KE → wM p l e (wR 3) s m args below meth c 0 0 (wE below args s D dA b0 ad S0 F) 6 D dA b0 ad S0 379 [some (.ref 188), some (.int v1), some (.int v2), none, none, none] [] h := by
  have key := wit_M (b := (fun v : (Int32) => fX11_reads_l379 h v2 v)) (KE := KE) (G := fun v => wM p l e (wR 3) s m args below meth c 0 0 (wE below args s D dA b0 ad S0 F) 6 D dA b0 ad S0 379 [some (.ref 188), some (.int v), some (.int v2), none, none, none] [] h) (fun v K hN hE hf => pX11_reads_l379b X hr  (fun n1 hz => hN n1 hz) (fun z0 hz => hX0 z0 (hE _ hz)) hf)
  exact fun n v1 hf => key n v1 hf
set_option maxRecDepth 4000 in
theorem pX11_reads_b304_11 (X : wCx p s m args meth c RX11 cX11_reads 6 D dA b0 ad) (hr : meth.sig.returnType = (some .boolean)) {h : wSt} {v1 : Int32} {v2 : Int32} {K : (Int32 × Int32 × wSt) ⊕ ((Bool × wSt)) → Prop} (hN : ∀ (n1 : Int32) (n2 : Int32) (nh : wSt), K (.inl (n1, n2, nh)) → wM p l e (wR 3) s m args below meth c 0 0 (wE below args s D dA b0 ad S0 F) 6 D dA b0 ad S0 11 [some (.ref 188), some (.int n1), some (.int n2), none, none, none] [] nh) (hT : ∀ (x : Bool) (h2 : wSt), K (.inr (x, h2)) → F (some (.int (wb x))) h2) (hf : wok (fX11_reads_b304_11 h v1 v2) K) : wM p l e (wR 3) s m args below meth c 0 0 (wE below args s D dA b0 ad S0 F) 6 D dA b0 ad S0 304 [some (.ref 188), some (.int v1), some (.int v2), none, none, none] [] h := by
  unfold fX11_reads_b304_11 at hf
  refine w_aload_n X dX11_reads_304 rfl rfl rfl ?_
  refine w_ldc2 X dX11_reads_305 rfl wd_1422 ?_
  obtain ⟨yr31, eyr31, hf⟩ := wok_b hf
  refine w_callV X dX11_reads_308 rfl vl_X11_200 (kX11_isWord l  eyr31) S0_188 (As := [.long 1111]) (st := []) rfl rfl (Nat.le_of_ble_eq_true rfl) ⟨Nat.le_of_ble_eq_true rfl, Nat.le_of_ble_eq_true rfl⟩ ⟨Nat.zero_le _, Nat.zero_le _⟩ (fun r h2 hF => ?_)
  obtain ⟨_, rfl, rfl, rfl⟩ := hF
  show wM p l e (wR 3) s m args below meth c 0 0 (wE below args s D dA b0 ad S0 F) 6 D dA b0 ad S0 311 [some (.ref 188), some (.int v1), some (.int v2), none, none, none] [.int (wb yr31)] h
  refine w_if_ne X dX11_reads_311 rfl (t := 324) rfl (fun hc => ?_) (fun hc => ?_)
  · have hf := wok_t hf (wb_n0 hc)
    refine w_fg (ls2 := [some (.ref 188), some (.int v1), none, none, none, none]) ⟨rfl, rfl, trivial⟩ ?_
    exact pX11_reads_b324_11 X hr  hN hT hf
  · have hf := wok_f hf (wb_0 hc)
    refine w_aload_n X dX11_reads_314 rfl rfl rfl ?_
    refine w_ldc2 X dX11_reads_315 rfl wd_1423 ?_
    obtain ⟨yr36, eyr36, hf⟩ := wok_b hf
    refine w_callV X dX11_reads_318 rfl vl_X11_200 (kX11_isWord l  eyr36) S0_188 (As := [.long 423]) (st := []) rfl rfl (Nat.le_of_ble_eq_true rfl) ⟨Nat.le_of_ble_eq_true rfl, Nat.le_of_ble_eq_true rfl⟩ ⟨Nat.zero_le _, Nat.zero_le _⟩ (fun r h2 hF => ?_)
    obtain ⟨_, rfl, rfl, rfl⟩ := hF
    show wM p l e (wR 3) s m args below meth c 0 0 (wE below args s D dA b0 ad S0 F) 6 D dA b0 ad S0 321 [some (.ref 188), some (.int v1), some (.int v2), none, none, none] [.int (wb yr36)] h
    refine w_if_eq X dX11_reads_321 rfl (t := 357) rfl (fun hc => ?_) (fun hc => ?_)
    · have hf := wok_f hf (wb_0 hc)
      refine w_aload_n X dX11_reads_357 rfl rfl rfl ?_
      refine w_bipush X dX11_reads_358 rfl cb_41 ?_
      obtain ⟨yr37, eyr37, hf⟩ := wok_b hf
      refine w_callV X dX11_reads_360 rfl vl_X11_204 (kX11_isSign l  eyr37) S0_188 (As := [.int 41]) (st := []) rfl rfl (Nat.le_of_ble_eq_true rfl) ⟨Nat.le_of_ble_eq_true rfl, Nat.le_of_ble_eq_true rfl⟩ ⟨Nat.zero_le _, Nat.zero_le _⟩ (fun r h2 hF => ?_)
      obtain ⟨_, rfl, rfl, rfl⟩ := hF
      show wM p l e (wR 3) s m args below meth c 0 0 (wE below args s D dA b0 ad S0 F) 6 D dA b0 ad S0 363 [some (.ref 188), some (.int v1), some (.int v2), none, none, none] [.int (wb yr37)] h
      refine w_if_eq X dX11_reads_363 rfl (t := 399) rfl (fun hc => ?_) (fun hc => ?_)
      · have hf := wok_f hf (wb_0 hc)
        refine w_fg (ls2 := [some (.ref 188), some (.int v1), none, none, none, none]) ⟨rfl, rfl, trivial⟩ ?_
        exact pX11_reads_b399_11 X hr  hN hT hf
      · have hf := wok_t hf (wb_n0 hc)
        refine w_iload_n X dX11_reads_366 rfl rfl rfl ?_
        refine w_if_le X dX11_reads_367 rfl (t := 399) rfl (fun hc => ?_) (fun hc => ?_)
        · have hf := wok_t hf hc
          refine w_fg (ls2 := [some (.ref 188), some (.int v1), none, none, none, none]) ⟨rfl, rfl, trivial⟩ ?_
          exact pX11_reads_b399_11 X hr  hN hT hf
        · have hf := wok_f hf hc
          refine w_aload_n X dX11_reads_370 rfl rfl rfl ?_
          refine w_bipush X dX11_reads_371 rfl cb_29 ?_
          obtain ⟨yr41, eyr41, hf⟩ := wok_b hf
          refine w_callV X dX11_reads_373 rfl vl_X11_211 (kX11_puts l  eyr41) S0_188 (As := [.int 29]) (st := []) rfl rfl (Nat.le_of_ble_eq_true rfl) ⟨Nat.le_of_ble_eq_true rfl, Nat.le_of_ble_eq_true rfl⟩ ⟨Nat.zero_le _, Nat.zero_le _⟩ (fun r h2 hF => ?_)
          obtain ⟨rfl, rfl⟩ := hF
          show wM p l e (wR 3) s m args below meth c 0 0 (wE below args s D dA b0 ad S0 F) 6 D dA b0 ad S0 376 [some (.ref 188), some (.int v1), some (.int v2), none, none, none] [] yr41
          refine w_iinc X dX11_reads_376 rfl (v := (v1 + (-1))) rfl rfl (Nat.le_of_ble_eq_true rfl) (cinc_m1 _) (ls' := [some (.ref 188), some (.int (v1 + (-1))), some (.int v2), none, none, none]) rfl ?_
          obtain ⟨ye43, hye43, hf⟩ := wok_b hf
          refine pX11_reads_l379 X hr  (KE := fun z => ye43 = z) ?_ 3000 _ ⟨ye43, hye43, rfl⟩
          · intro yz44 hz
            subst hz
            exact pX11_reads_b424_11 X hr  hN hT hf
    · have hf := wok_t hf (wb_n0 hc)
      refine w_fg (ls2 := [some (.ref 188), some (.int v1), none, none, none, none]) ⟨rfl, rfl, trivial⟩ ?_
      exact pX11_reads_b324_11 X hr  hN hT hf
set_option maxRecDepth 4000 in
theorem pX11_reads_b289_11 (X : wCx p s m args meth c RX11 cX11_reads 6 D dA b0 ad) (hr : meth.sig.returnType = (some .boolean)) {h : wSt} {v1 : Int32} {w1 : Int32} {K : (Int32 × Int32 × wSt) ⊕ ((Bool × wSt)) → Prop} (hN : ∀ (n1 : Int32) (n2 : Int32) (nh : wSt), K (.inl (n1, n2, nh)) → wM p l e (wR 3) s m args below meth c 0 0 (wE below args s D dA b0 ad S0 F) 6 D dA b0 ad S0 11 [some (.ref 188), some (.int n1), some (.int n2), none, none, none] [] nh) (hT : ∀ (x : Bool) (h2 : wSt), K (.inr (x, h2)) → F (some (.int (wb x))) h2) (hf : wok (fX11_reads_b289_11 h v1 w1) K) : wM p l e (wR 3) s m args below meth c 0 0 (wE below args s D dA b0 ad S0 F) 6 D dA b0 ad S0 289 [some (.ref 188), some (.int v1), none, none, none, none] [.int w1, .ref 188] h := by
  unfold fX11_reads_b289_11 at hf
  obtain ⟨yr46, eyr46, hf⟩ := wok_b hf
  refine w_callV X dX11_reads_289 rfl vl_X11_211 (kX11_puts l  eyr46) S0_188 (As := [.int w1]) (st := []) rfl rfl (Nat.le_of_ble_eq_true rfl) ⟨Nat.le_of_ble_eq_true rfl, Nat.le_of_ble_eq_true rfl⟩ ⟨Nat.zero_le _, Nat.zero_le _⟩ (fun r h2 hF => ?_)
  obtain ⟨rfl, rfl⟩ := hF
  show wM p l e (wR 3) s m args below meth c 0 0 (wE below args s D dA b0 ad S0 F) 6 D dA b0 ad S0 292 [some (.ref 188), some (.int v1), none, none, none, none] [] yr46
  refine w_aload_n X dX11_reads_292 rfl rfl rfl ?_
  refine w_getR X dX11_reads_293 rfl fl_X11_56 S0_188 rfl ?_
  refine w_iload_n X dX11_reads_296 rfl rfl rfl ?_
  refine w_iconst X dX11_reads_297 rfl ci_1 ?_
  obtain ⟨yhg47, hf⟩ := wok_g hf
  refine w_zast X dX11_reads_298 rfl (j := v1.toNatClampNeg) rfl S0_204 yhg47 ?_
  refine w_nmh (fun yh48 eyh48 => ?_)
  have hf := wok_l hf eyh48
  refine w_iconst X dX11_reads_299 rfl ci_1 ?_
  refine w_istore_n X dX11_reads_300 rfl rfl rfl (Nat.le_of_ble_eq_true rfl) (ls' := [some (.ref 188), some (.int v1), some (.int 1), none, none, none]) rfl ?_
  refine w_goto X dX11_reads_301 (t := 424) rfl ?_
  exact pX11_reads_b424_11 X hr  hN hT hf
set_option maxRecDepth 4000 in
theorem pX11_reads_b263_11 (X : wCx p s m args meth c RX11 cX11_reads 6 D dA b0 ad) (hr : meth.sig.returnType = (some .boolean)) {h : wSt} {v1 : Int32} {v2 : Int32} {K : (Int32 × Int32 × wSt) ⊕ ((Bool × wSt)) → Prop} (hN : ∀ (n1 : Int32) (n2 : Int32) (nh : wSt), K (.inl (n1, n2, nh)) → wM p l e (wR 3) s m args below meth c 0 0 (wE below args s D dA b0 ad S0 F) 6 D dA b0 ad S0 11 [some (.ref 188), some (.int n1), some (.int n2), none, none, none] [] nh) (hT : ∀ (x : Bool) (h2 : wSt), K (.inr (x, h2)) → F (some (.int (wb x))) h2) (hf : wok (fX11_reads_b263_11 h v1 v2) K) : wM p l e (wR 3) s m args below meth c 0 0 (wE below args s D dA b0 ad S0 F) 6 D dA b0 ad S0 263 [some (.ref 188), some (.int v1), some (.int v2), none, none, none] [] h := by
  unfold fX11_reads_b263_11 at hf
  refine w_aload_n X dX11_reads_263 rfl rfl rfl ?_
  refine w_getR X dX11_reads_264 rfl fl_X11_56 S0_188 rfl ?_
  refine w_iload_n X dX11_reads_267 rfl rfl rfl ?_
  obtain ⟨yhg30, hf⟩ := wok_g hf
  refine w_zald X dX11_reads_268 rfl (j := v1.toNatClampNeg) rfl S0_204 yhg30 ?_
  refine w_if_ne X dX11_reads_269 rfl (t := 304) rfl (fun hc => ?_) (fun hc => ?_)
  · have hf := wok_f hf hc
    exact pX11_reads_b304_11 X hr  hN hT hf
  · have hf := wok_t hf hc
    refine w_aload_n X dX11_reads_272 rfl rfl rfl ?_
    refine w_aload_n X dX11_reads_273 rfl rfl rfl ?_
    refine w_bipush X dX11_reads_274 rfl cb_60 ?_
    obtain ⟨yr45, eyr45, hf⟩ := wok_b hf
    refine w_callV X dX11_reads_276 rfl vl_X11_204 (kX11_isSign l  eyr45) S0_188 (As := [.int 60]) (st := [.ref 188]) rfl rfl (Nat.le_of_ble_eq_true rfl) ⟨Nat.le_of_ble_eq_true rfl, Nat.le_of_ble_eq_true rfl⟩ ⟨Nat.zero_le _, Nat.zero_le _⟩ (fun r h2 hF => ?_)
    obtain ⟨_, rfl, rfl, rfl⟩ := hF
    show wM p l e (wR 3) s m args below meth c 0 0 (wE below args s D dA b0 ad S0 F) 6 D dA b0 ad S0 279 [some (.ref 188), some (.int v1), some (.int v2), none, none, none] [.int (wb yr45), .ref 188] h
    refine w_if_eq X dX11_reads_279 rfl (t := 287) rfl (fun hc => ?_) (fun hc => ?_)
    · have hf := wok_f hf (wb_0 hc)
      refine w_bipush X dX11_reads_287 rfl cb_25 ?_
      refine w_fg (ls2 := [some (.ref 188), some (.int v1), none, none, none, none]) ⟨rfl, rfl, trivial⟩ ?_
      exact pX11_reads_b289_11 X hr  hN hT hf
    · have hf := wok_t hf (wb_n0 hc)
      refine w_bipush X dX11_reads_282 rfl cb_24 ?_
      refine w_goto X dX11_reads_284 (t := 289) rfl ?_
      refine w_fg (ls2 := [some (.ref 188), some (.int v1), none, none, none, none]) ⟨rfl, rfl, trivial⟩ ?_
      exact pX11_reads_b289_11 X hr  hN hT hf
set_option maxRecDepth 4000 in
theorem pX11_reads_b172_11 (X : wCx p s m args meth c RX11 cX11_reads 6 D dA b0 ad) (hr : meth.sig.returnType = (some .boolean)) {h : wSt} {v1 : Int32} {v2 : Int32} {K : (Int32 × Int32 × wSt) ⊕ ((Bool × wSt)) → Prop} (hN : ∀ (n1 : Int32) (n2 : Int32) (nh : wSt), K (.inl (n1, n2, nh)) → wM p l e (wR 3) s m args below meth c 0 0 (wE below args s D dA b0 ad S0 F) 6 D dA b0 ad S0 11 [some (.ref 188), some (.int n1), some (.int n2), none, none, none] [] nh) (hT : ∀ (x : Bool) (h2 : wSt), K (.inr (x, h2)) → F (some (.int (wb x))) h2) (hf : wok (fX11_reads_b172_11 h v1 v2) K) : wM p l e (wR 3) s m args below meth c 0 0 (wE below args s D dA b0 ad S0 F) 6 D dA b0 ad S0 172 [some (.ref 188), some (.int v1), some (.int v2), none, none, none] [] h := by
  unfold fX11_reads_b172_11 at hf
  refine w_aload_n X dX11_reads_172 rfl rfl rfl ?_
  obtain ⟨yr58, eyr58, hf⟩ := wok_b hf
  refine w_callV X dX11_reads_173 rfl vl_X11_215 (kX11_nextToken l  eyr58) S0_188 (As := []) (st := []) rfl rfl (Nat.le_of_ble_eq_true rfl) ⟨Nat.le_of_ble_eq_true rfl, Nat.le_of_ble_eq_true rfl⟩ ⟨Nat.zero_le _, Nat.zero_le _⟩ (fun r h2 hF => ?_)
  obtain ⟨rfl, rfl⟩ := hF
  show wM p l e (wR 3) s m args below meth c 0 0 (wE below args s D dA b0 ad S0 F) 6 D dA b0 ad S0 176 [some (.ref 188), some (.int v1), some (.int v2), none, none, none] [] yr58
  refine w_goto X dX11_reads_176 (t := 11) rfl ?_
  exact hN _ _ _ (wok_s hf)
set_option maxRecDepth 4000 in
theorem pX11_reads_b120_11 (X : wCx p s m args meth c RX11 cX11_reads 6 D dA b0 ad) (hr : meth.sig.returnType = (some .boolean)) {h : wSt} {v1 : Int32} {v2 : Int32} {w1 : Int32} {w2 : Int32} {K : (Int32 × Int32 × wSt) ⊕ ((Bool × wSt)) → Prop} (hN : ∀ (n1 : Int32) (n2 : Int32) (nh : wSt), K (.inl (n1, n2, nh)) → wM p l e (wR 3) s m args below meth c 0 0 (wE below args s D dA b0 ad S0 F) 6 D dA b0 ad S0 11 [some (.ref 188), some (.int n1), some (.int n2), none, none, none] [] nh) (hT : ∀ (x : Bool) (h2 : wSt), K (.inr (x, h2)) → F (some (.int (wb x))) h2) (hf : wok (fX11_reads_b120_11 h v1 v2 w1 w2) K) : wM p l e (wR 3) s m args below meth c 0 0 (wE below args s D dA b0 ad S0 F) 6 D dA b0 ad S0 120 [some (.ref 188), some (.int v1), some (.int v2), none, none, none] [.int w2, .int w1, .ref 203] h := by
  unfold fX11_reads_b120_11 at hf
  obtain ⟨yhg54, hf⟩ := wok_g hf
  refine w_iast X dX11_reads_120 rfl (j := w1.toNatClampNeg) rfl S0_203 yhg54 ?_
  refine w_nmh (fun yh55 eyh55 => ?_)
  have hf := wok_l hf eyh55
  refine w_aload_n X dX11_reads_121 rfl rfl rfl ?_
  refine w_getR X dX11_reads_122 rfl fl_X11_56 S0_188 rfl ?_
  refine w_iload_n X dX11_reads_125 rfl rfl rfl ?_
  refine w_iconst X dX11_reads_126 rfl ci_0 ?_
  obtain ⟨yhg56, hf⟩ := wok_g hf
  refine w_zast X dX11_reads_127 rfl (j := v1.toNatClampNeg) rfl S0_204 yhg56 ?_
  refine w_nmh (fun yh57 eyh57 => ?_)
  have hf := wok_l hf eyh57
  refine w_goto X dX11_reads_128 (t := 172) rfl ?_
  exact pX11_reads_b172_11 X hr  hN hT hf
set_option maxRecDepth 4000 in
theorem pX11_reads_b99_11 (X : wCx p s m args meth c RX11 cX11_reads 6 D dA b0 ad) (hr : meth.sig.returnType = (some .boolean)) {h : wSt} {v1 : Int32} {v2 : Int32} {v4 : Int32} {w1 : Int32} {K : (Int32 × Int32 × wSt) ⊕ ((Bool × wSt)) → Prop} (hN : ∀ (n1 : Int32) (n2 : Int32) (nh : wSt), K (.inl (n1, n2, nh)) → wM p l e (wR 3) s m args below meth c 0 0 (wE below args s D dA b0 ad S0 F) 6 D dA b0 ad S0 11 [some (.ref 188), some (.int n1), some (.int n2), none, none, none] [] nh) (hT : ∀ (x : Bool) (h2 : wSt), K (.inr (x, h2)) → F (some (.int (wb x))) h2) (hf : wok (fX11_reads_b99_11 h v1 v2 v4 w1) K) : wM p l e (wR 3) s m args below meth c 0 0 (wE below args s D dA b0 ad S0 F) 6 D dA b0 ad S0 99 [some (.ref 188), some (.int v1), some (.int v2), none, some (.int v4), none] [.int w1, .ref 188] h := by
  unfold fX11_reads_b99_11 at hf
  obtain ⟨yr53, eyr53, hf⟩ := wok_b hf
  refine w_callV X dX11_reads_99 rfl vl_X11_211 (kX11_puts l  eyr53) S0_188 (As := [.int w1]) (st := []) rfl rfl (Nat.le_of_ble_eq_true rfl) ⟨Nat.le_of_ble_eq_true rfl, Nat.le_of_ble_eq_true rfl⟩ ⟨Nat.zero_le _, Nat.zero_le _⟩ (fun r h2 hF => ?_)
  obtain ⟨rfl, rfl⟩ := hF
  show wM p l e (wR 3) s m args below meth c 0 0 (wE below args s D dA b0 ad S0 F) 6 D dA b0 ad S0 102 [some (.ref 188), some (.int v1), some (.int v2), none, some (.int v4), none] [] yr53
  refine w_iinc X dX11_reads_102 rfl (v := (v1 + 1)) rfl rfl (Nat.le_of_ble_eq_true rfl) (cinc_1 _) (ls' := [some (.ref 188), some (.int (v1 + 1)), some (.int v2), none, some (.int v4), none]) rfl ?_
  refine w_aload_n X dX11_reads_105 rfl rfl rfl ?_
  refine w_getR X dX11_reads_106 rfl fl_X11_53 S0_188 rfl ?_
  refine w_iload_n X dX11_reads_109 rfl rfl rfl ?_
  refine w_iload X dX11_reads_110 rfl rfl ?_
  refine w_if_eq X dX11_reads_112 rfl (t := 119) rfl (fun hc => ?_) (fun hc => ?_)
  · have hf := wok_t hf hc
    refine w_iconst X dX11_reads_119 rfl ci_2 ?_
    refine w_fg (ls2 := [some (.ref 188), some (.int (v1 + 1)), some (.int v2), none, none, none]) ⟨rfl, rfl, rfl, trivial⟩ ?_
    exact pX11_reads_b120_11 X hr  hN hT hf
  · have hf := wok_f hf hc
    refine w_iconst X dX11_reads_115 rfl ci_1 ?_
    refine w_goto X dX11_reads_116 (t := 120) rfl ?_
    refine w_fg (ls2 := [some (.ref 188), some (.int (v1 + 1)), some (.int v2), none, none, none]) ⟨rfl, rfl, rfl, trivial⟩ ?_
    exact pX11_reads_b120_11 X hr  hN hT hf
set_option maxRecDepth 4000 in
theorem pX11_reads_b86_11 (X : wCx p s m args meth c RX11 cX11_reads 6 D dA b0 ad) (hr : meth.sig.returnType = (some .boolean)) {h : wSt} {v1 : Int32} {v2 : Int32} {v4 : Int32} {K : (Int32 × Int32 × wSt) ⊕ ((Bool × wSt)) → Prop} (hN : ∀ (n1 : Int32) (n2 : Int32) (nh : wSt), K (.inl (n1, n2, nh)) → wM p l e (wR 3) s m args below meth c 0 0 (wE below args s D dA b0 ad S0 F) 6 D dA b0 ad S0 11 [some (.ref 188), some (.int n1), some (.int n2), none, none, none] [] nh) (hT : ∀ (x : Bool) (h2 : wSt), K (.inr (x, h2)) → F (some (.int (wb x))) h2) (hf : wok (fX11_reads_b86_11 h v1 v2 v4) K) : wM p l e (wR 3) s m args below meth c 0 0 (wE below args s D dA b0 ad S0 F) 6 D dA b0 ad S0 86 [some (.ref 188), some (.int v1), some (.int v2), none, some (.int v4), none] [] h := by
  unfold fX11_reads_b86_11 at hf
  refine w_aload_n X dX11_reads_86 rfl rfl rfl ?_
  refine w_iload X dX11_reads_87 rfl rfl ?_
  refine w_if_eq X dX11_reads_89 rfl (t := 97) rfl (fun hc => ?_) (fun hc => ?_)
  · have hf := wok_t hf hc
    refine w_bipush X dX11_reads_97 rfl cb_28 ?_
    exact pX11_reads_b99_11 X hr  hN hT hf
  · have hf := wok_f hf hc
    refine w_bipush X dX11_reads_92 rfl cb_30 ?_
    refine w_goto X dX11_reads_94 (t := 99) rfl ?_
    exact pX11_reads_b99_11 X hr  hN hT hf
set_option maxRecDepth 4000 in
theorem pX11_reads_l152b (X : wCx p s m args meth c RX11 cX11_reads 6 D dA b0 ad) (hr : meth.sig.returnType = (some .boolean)) {h : wSt} {v2 : Int32} {v1 : Int32} {K : (Int32) ⊕ ((Int32)) → Prop} (hN : ∀ (n1 : Int32), K (.inl n1) → wM p l e (wR 3) s m args below meth c 0 0 (wE below args s D dA b0 ad S0 F) 6 D dA b0 ad S0 152 [some (.ref 188), some (.int n1), some (.int v2), none, none, none] [] h) (hX0 : ∀ (n1 : Int32), K (.inr n1) → wM p l e (wR 3) s m args below meth c 0 0 (wE below args s D dA b0 ad S0 F) 6 D dA b0 ad S0 172 [some (.ref 188), some (.int n1), some (.int v2), none, none, none] [] h) (hf : wok (fX11_reads_l152 h v2 v1) K) : wM p l e (wR 3) s m args below meth c 0 0 (wE below args s D dA b0 ad S0 F) 6 D dA b0 ad S0 152 [some (.ref 188), some (.int v1), some (.int v2), none, none, none] [] h := by
  unfold fX11_reads_l152 at hf
  refine w_iload_n X dX11_reads_152 rfl rfl rfl ?_
  refine w_if_le X dX11_reads_153 rfl (t := 172) rfl (fun hc => ?_) (fun hc => ?_)
  · have hf := wok_t hf hc
    exact hX0 _ (wok_s hf)
  · have hf := wok_f hf hc
    refine w_aload_n X dX11_reads_156 rfl rfl rfl ?_
    refine w_getR X dX11_reads_157 rfl fl_X11_53 S0_188 rfl ?_
    refine w_iload_n X dX11_reads_160 rfl rfl rfl ?_
    obtain ⟨yhg60, hf⟩ := wok_g hf
    refine w_iald X dX11_reads_161 rfl (j := v1.toNatClampNeg) rfl S0_203 yhg60 ?_
    refine w_iconst X dX11_reads_162 rfl ci_1 ?_
    refine w_icmp_ne X dX11_reads_163 rfl (t := 172) rfl (fun hc => ?_) (fun hc => ?_)
    · have hf := wok_f hf hc
      exact hX0 _ (wok_s hf)
    · have hf := wok_t hf hc
      refine w_iinc X dX11_reads_166 rfl (v := (v1 + (-1))) rfl rfl (Nat.le_of_ble_eq_true rfl) (cinc_m1 _) (ls' := [some (.ref 188), some (.int (v1 + (-1))), some (.int v2), none, none, none]) rfl ?_
      refine w_goto X dX11_reads_169 (t := 152) rfl ?_
      exact hN _ (wok_s hf)
set_option maxRecDepth 4000 in
theorem pX11_reads_l152 (X : wCx p s m args meth c RX11 cX11_reads 6 D dA b0 ad) (hr : meth.sig.returnType = (some .boolean)) {h : wSt} {v2 : Int32} {KE : (Int32) → Prop} (hX0 : ∀ (n1 : Int32), KE (n1) → wM p l e (wR 3) s m args below meth c 0 0 (wE below args s D dA b0 ad S0 F) 6 D dA b0 ad S0 172 [some (.ref 188), some (.int n1), some (.int v2), none, none, none] [] h) : ∀ (n : Nat) (v1 : Int32), wok (wit (fun v : (Int32) => fX11_reads_l152 h v2 v) n v1) KE → wM p l e (wR 3) s m args below meth c 0 0 (wE below args s D dA b0 ad S0 F) 6 D dA b0 ad S0 152 [some (.ref 188), some (.int v1), some (.int v2), none, none, none] [] h := by
  have key := wit_M (b := (fun v : (Int32) => fX11_reads_l152 h v2 v)) (KE := KE) (G := fun v => wM p l e (wR 3) s m args below meth c 0 0 (wE below args s D dA b0 ad S0 F) 6 D dA b0 ad S0 152 [some (.ref 188), some (.int v), some (.int v2), none, none, none] [] h) (fun v K hN hE hf => pX11_reads_l152b X hr  (fun n1 hz => hN n1 hz) (fun z0 hz => hX0 z0 (hE _ hz)) hf)
  exact fun n v1 hf => key n v1 hf
set_option maxRecDepth 4000 in
theorem pX11_reads_b147_11 (X : wCx p s m args meth c RX11 cX11_reads 6 D dA b0 ad) (hr : meth.sig.returnType = (some .boolean)) {h : wSt} {v1 : Int32} {w1 : Int32} {K : (Int32 × Int32 × wSt) ⊕ ((Bool × wSt)) → Prop} (hN : ∀ (n1 : Int32) (n2 : Int32) (nh : wSt), K (.inl (n1, n2, nh)) → wM p l e (wR 3) s m args below meth c 0 0 (wE below args s D dA b0 ad S0 F) 6 D dA b0 ad S0 11 [some (.ref 188), some (.int n1), some (.int n2), none, none, none] [] nh) (hT : ∀ (x : Bool) (h2 : wSt), K (.inr (x, h2)) → F (some (.int (wb x))) h2) (hf : wok (fX11_reads_b147_11 h v1 w1) K) : wM p l e (wR 3) s m args below meth c 0 0 (wE below args s D dA b0 ad S0 F) 6 D dA b0 ad S0 147 [some (.ref 188), some (.int v1), none, none, none, none] [.int w1, .ref 188] h := by
  unfold fX11_reads_b147_11 at hf
  obtain ⟨yr59, eyr59, hf⟩ := wok_b hf
  refine w_callV X dX11_reads_147 rfl vl_X11_211 (kX11_puts l  eyr59) S0_188 (As := [.int w1]) (st := []) rfl rfl (Nat.le_of_ble_eq_true rfl) ⟨Nat.le_of_ble_eq_true rfl, Nat.le_of_ble_eq_true rfl⟩ ⟨Nat.zero_le _, Nat.zero_le _⟩ (fun r h2 hF => ?_)
  obtain ⟨rfl, rfl⟩ := hF
  show wM p l e (wR 3) s m args below meth c 0 0 (wE below args s D dA b0 ad S0 F) 6 D dA b0 ad S0 150 [some (.ref 188), some (.int v1), none, none, none, none] [] yr59
  refine w_iconst X dX11_reads_150 rfl ci_0 ?_
  refine w_istore_n X dX11_reads_151 rfl rfl rfl (Nat.le_of_ble_eq_true rfl) (ls' := [some (.ref 188), some (.int v1), some (.int 0), none, none, none]) rfl ?_
  obtain ⟨ye61, hye61, hf⟩ := wok_b hf
  refine pX11_reads_l152 X hr  (KE := fun z => ye61 = z) ?_ 3000 _ ⟨ye61, hye61, rfl⟩
  · intro yz62 hz
    subst hz
    exact pX11_reads_b172_11 X hr  hN hT hf
set_option maxRecDepth 4000 in
theorem pX11_reads_b65_11 (X : wCx p s m args meth c RX11 cX11_reads 6 D dA b0 ad) (hr : meth.sig.returnType = (some .boolean)) {h : wSt} {v1 : Int32} {v2 : Int32} {v3 : Int32} {v4 : Int32} {v5 : Int32} {K : (Int32 × Int32 × wSt) ⊕ ((Bool × wSt)) → Prop} (hN : ∀ (n1 : Int32) (n2 : Int32) (nh : wSt), K (.inl (n1, n2, nh)) → wM p l e (wR 3) s m args below meth c 0 0 (wE below args s D dA b0 ad S0 F) 6 D dA b0 ad S0 11 [some (.ref 188), some (.int n1), some (.int n2), none, none, none] [] nh) (hT : ∀ (x : Bool) (h2 : wSt), K (.inr (x, h2)) → F (some (.int (wb x))) h2) (hf : wok (fX11_reads_b65_11 h v1 v2 v3 v4 v5) K) : wM p l e (wR 3) s m args below meth c 0 0 (wE below args s D dA b0 ad S0 F) 6 D dA b0 ad S0 65 [some (.ref 188), some (.int v1), some (.int v2), some (.int v3), some (.int v4), some (.int v5)] [] h := by
  unfold fX11_reads_b65_11 at hf
  refine w_iload_n X dX11_reads_65 rfl rfl rfl ?_
  refine w_iconst X dX11_reads_66 rfl ci_5 ?_
  refine w_icmp_ne X dX11_reads_67 rfl (t := 76) rfl (fun hc => ?_) (fun hc => ?_)
  · have hf := wok_f hf hc
    refine w_iload X dX11_reads_76 rfl rfl ?_
    refine w_if_ne X dX11_reads_78 rfl (t := 86) rfl (fun hc => ?_) (fun hc => ?_)
    · have hf := wok_f hf hc
      refine w_fg (ls2 := [some (.ref 188), some (.int v1), some (.int v2), none, some (.int v4), none]) ⟨rfl, rfl, rfl, rfl, trivial⟩ ?_
      exact pX11_reads_b86_11 X hr  hN hT hf
    · have hf := wok_t hf hc
      refine w_iload X dX11_reads_81 rfl rfl ?_
      refine w_if_eq X dX11_reads_83 rfl (t := 131) rfl (fun hc => ?_) (fun hc => ?_)
      · have hf := wok_t hf hc
        refine w_aload_n X dX11_reads_131 rfl rfl rfl ?_
        refine w_iload_n X dX11_reads_132 rfl rfl rfl ?_
        refine w_if_le X dX11_reads_133 rfl (t := 140) rfl (fun hc => ?_) (fun hc => ?_)
        · have hf := wok_t hf hc
          refine w_bipush X dX11_reads_140 rfl cb_100 ?_
          refine w_aload_n X dX11_reads_142 rfl rfl rfl ?_
          refine w_getI X dX11_reads_143 rfl fl_X11_166 S0_188 rfl ?_
          refine w_iadd X dX11_reads_146 rfl ?_
          refine w_fg (ls2 := [some (.ref 188), some (.int v1), none, none, none, none]) ⟨rfl, rfl, trivial⟩ ?_
          exact pX11_reads_b147_11 X hr  hN hT hf
        · have hf := wok_f hf hc
          refine w_iload_n X dX11_reads_136 rfl rfl rfl ?_
          refine w_goto X dX11_reads_137 (t := 147) rfl ?_
          refine w_fg (ls2 := [some (.ref 188), some (.int v1), none, none, none, none]) ⟨rfl, rfl, trivial⟩ ?_
          exact pX11_reads_b147_11 X hr  hN hT hf
      · have hf := wok_f hf hc
        refine w_fg (ls2 := [some (.ref 188), some (.int v1), some (.int v2), none, some (.int v4), none]) ⟨rfl, rfl, rfl, rfl, trivial⟩ ?_
        exact pX11_reads_b86_11 X hr  hN hT hf
  · have hf := wok_t hf hc
    refine w_aload_n X dX11_reads_70 rfl rfl rfl ?_
    refine w_iconst X dX11_reads_71 rfl ci_5 ?_
    obtain ⟨yr63, eyr63, hf⟩ := wok_b hf
    refine w_callV X dX11_reads_72 rfl vl_X11_208 (kX11_fails l  eyr63) S0_188 (As := [.int 5]) (st := []) rfl rfl (Nat.le_of_ble_eq_true rfl) ⟨Nat.le_of_ble_eq_true rfl, Nat.le_of_ble_eq_true rfl⟩ ⟨Nat.zero_le _, Nat.zero_le _⟩ (fun r h2 hF => ?_)
    obtain ⟨_, rfl, rfl, rfl⟩ := hF
    show wM p l e (wR 3) s m args below meth c 0 0 (wE below args s D dA b0 ad S0 F) 6 D dA b0 ad S0 75 [some (.ref 188), some (.int v1), some (.int v2), some (.int v3), some (.int v4), some (.int v5)] [.int (wb yr63.1)] yr63.2
    exact w_zret X dX11_reads_75 hr (wb_n _) (hT _ _ (wok_s hf))
set_option maxRecDepth 4000 in
theorem pX11_reads_l11b (X : wCx p s m args meth c RX11 cX11_reads 6 D dA b0 ad) (hr : meth.sig.returnType = (some .boolean)) {h : wSt} {v1 : Int32} {v2 : Int32} {K : (Int32 × Int32 × wSt) ⊕ ((Bool × wSt)) → Prop} (hN : ∀ (n1 : Int32) (n2 : Int32) (nh : wSt), K (.inl (n1, n2, nh)) → wM p l e (wR 3) s m args below meth c 0 0 (wE below args s D dA b0 ad S0 F) 6 D dA b0 ad S0 11 [some (.ref 188), some (.int n1), some (.int n2), none, none, none] [] nh) (hT : ∀ (x : Bool) (h2 : wSt), K (.inr (x, h2)) → F (some (.int (wb x))) h2) (hf : wok (fX11_reads_l11 h v1 v2) K) : wM p l e (wR 3) s m args below meth c 0 0 (wE below args s D dA b0 ad S0 F) 6 D dA b0 ad S0 11 [some (.ref 188), some (.int v1), some (.int v2), none, none, none] [] h := by
  unfold fX11_reads_l11 at hf
  refine w_iload_n X dX11_reads_11 rfl rfl rfl ?_
  refine w_if_eq X dX11_reads_12 rfl (t := 179) rfl (fun hc => ?_) (fun hc => ?_)
  · have hf := wok_t hf hc
    refine w_aload_n X dX11_reads_179 rfl rfl rfl ?_
    refine w_bipush X dX11_reads_180 rfl cb_43 ?_
    obtain ⟨yr22, eyr22, hf⟩ := wok_b hf
    refine w_callV X dX11_reads_182 rfl vl_X11_204 (kX11_isSign l  eyr22) S0_188 (As := [.int 43]) (st := []) rfl rfl (Nat.le_of_ble_eq_true rfl) ⟨Nat.le_of_ble_eq_true rfl, Nat.le_of_ble_eq_true rfl⟩ ⟨Nat.zero_le _, Nat.zero_le _⟩ (fun r h2 hF => ?_)
    obtain ⟨_, rfl, rfl, rfl⟩ := hF
    show wM p l e (wR 3) s m args below meth c 0 0 (wE below args s D dA b0 ad S0 F) 6 D dA b0 ad S0 185 [some (.ref 188), some (.int v1), some (.int v2), none, none, none] [.int (wb yr22)] h
    refine w_if_ne X dX11_reads_185 rfl (t := 206) rfl (fun hc => ?_) (fun hc => ?_)
    · have hf := wok_t hf (wb_n0 hc)
      refine w_fg (ls2 := [some (.ref 188), some (.int v1), none, none, none, none]) ⟨rfl, rfl, trivial⟩ ?_
      exact pX11_reads_b206_11 X hr  hN hT hf
    · have hf := wok_f hf (wb_0 hc)
      refine w_aload_n X dX11_reads_188 rfl rfl rfl ?_
      refine w_bipush X dX11_reads_189 rfl cb_45 ?_
      obtain ⟨yr27, eyr27, hf⟩ := wok_b hf
      refine w_callV X dX11_reads_191 rfl vl_X11_204 (kX11_isSign l  eyr27) S0_188 (As := [.int 45]) (st := []) rfl rfl (Nat.le_of_ble_eq_true rfl) ⟨Nat.le_of_ble_eq_true rfl, Nat.le_of_ble_eq_true rfl⟩ ⟨Nat.zero_le _, Nat.zero_le _⟩ (fun r h2 hF => ?_)
      obtain ⟨_, rfl, rfl, rfl⟩ := hF
      show wM p l e (wR 3) s m args below meth c 0 0 (wE below args s D dA b0 ad S0 F) 6 D dA b0 ad S0 194 [some (.ref 188), some (.int v1), some (.int v2), none, none, none] [.int (wb yr27)] h
      refine w_if_ne X dX11_reads_194 rfl (t := 206) rfl (fun hc => ?_) (fun hc => ?_)
      · have hf := wok_t hf (wb_n0 hc)
        refine w_fg (ls2 := [some (.ref 188), some (.int v1), none, none, none, none]) ⟨rfl, rfl, trivial⟩ ?_
        exact pX11_reads_b206_11 X hr  hN hT hf
      · have hf := wok_f hf (wb_0 hc)
        refine w_aload_n X dX11_reads_197 rfl rfl rfl ?_
        refine w_bipush X dX11_reads_198 rfl cb_42 ?_
        obtain ⟨yr28, eyr28, hf⟩ := wok_b hf
        refine w_callV X dX11_reads_200 rfl vl_X11_204 (kX11_isSign l  eyr28) S0_188 (As := [.int 42]) (st := []) rfl rfl (Nat.le_of_ble_eq_true rfl) ⟨Nat.le_of_ble_eq_true rfl, Nat.le_of_ble_eq_true rfl⟩ ⟨Nat.zero_le _, Nat.zero_le _⟩ (fun r h2 hF => ?_)
        obtain ⟨_, rfl, rfl, rfl⟩ := hF
        show wM p l e (wR 3) s m args below meth c 0 0 (wE below args s D dA b0 ad S0 F) 6 D dA b0 ad S0 203 [some (.ref 188), some (.int v1), some (.int v2), none, none, none] [.int (wb yr28)] h
        refine w_if_eq X dX11_reads_203 rfl (t := 245) rfl (fun hc => ?_) (fun hc => ?_)
        · have hf := wok_f hf (wb_0 hc)
          refine w_aload_n X dX11_reads_245 rfl rfl rfl ?_
          refine w_bipush X dX11_reads_246 rfl cb_60 ?_
          obtain ⟨yr29, eyr29, hf⟩ := wok_b hf
          refine w_callV X dX11_reads_248 rfl vl_X11_204 (kX11_isSign l  eyr29) S0_188 (As := [.int 60]) (st := []) rfl rfl (Nat.le_of_ble_eq_true rfl) ⟨Nat.le_of_ble_eq_true rfl, Nat.le_of_ble_eq_true rfl⟩ ⟨Nat.zero_le _, Nat.zero_le _⟩ (fun r h2 hF => ?_)
          obtain ⟨_, rfl, rfl, rfl⟩ := hF
          show wM p l e (wR 3) s m args below meth c 0 0 (wE below args s D dA b0 ad S0 F) 6 D dA b0 ad S0 251 [some (.ref 188), some (.int v1), some (.int v2), none, none, none] [.int (wb yr29)] h
          refine w_if_ne X dX11_reads_251 rfl (t := 263) rfl (fun hc => ?_) (fun hc => ?_)
          · have hf := wok_t hf (wb_n0 hc)
            exact pX11_reads_b263_11 X hr  hN hT hf
          · have hf := wok_f hf (wb_0 hc)
            refine w_aload_n X dX11_reads_254 rfl rfl rfl ?_
            refine w_bipush X dX11_reads_255 rfl cb_61 ?_
            obtain ⟨yr49, eyr49, hf⟩ := wok_b hf
            refine w_callV X dX11_reads_257 rfl vl_X11_204 (kX11_isSign l  eyr49) S0_188 (As := [.int 61]) (st := []) rfl rfl (Nat.le_of_ble_eq_true rfl) ⟨Nat.le_of_ble_eq_true rfl, Nat.le_of_ble_eq_true rfl⟩ ⟨Nat.zero_le _, Nat.zero_le _⟩ (fun r h2 hF => ?_)
            obtain ⟨_, rfl, rfl, rfl⟩ := hF
            show wM p l e (wR 3) s m args below meth c 0 0 (wE below args s D dA b0 ad S0 F) 6 D dA b0 ad S0 260 [some (.ref 188), some (.int v1), some (.int v2), none, none, none] [.int (wb yr49)] h
            refine w_if_eq X dX11_reads_260 rfl (t := 304) rfl (fun hc => ?_) (fun hc => ?_)
            · have hf := wok_f hf (wb_0 hc)
              exact pX11_reads_b304_11 X hr  hN hT hf
            · have hf := wok_t hf (wb_n0 hc)
              exact pX11_reads_b263_11 X hr  hN hT hf
        · have hf := wok_t hf (wb_n0 hc)
          refine w_fg (ls2 := [some (.ref 188), some (.int v1), none, none, none, none]) ⟨rfl, rfl, trivial⟩ ?_
          exact pX11_reads_b206_11 X hr  hN hT hf
  · have hf := wok_f hf hc
    refine w_aload_n X dX11_reads_15 rfl rfl rfl ?_
    obtain ⟨yr50, eyr50, hf⟩ := wok_b hf
    refine w_callV X dX11_reads_16 rfl vl_X11_194 (kX11_fact l  eyr50) S0_188 (As := []) (st := []) rfl rfl (Nat.le_of_ble_eq_true rfl) ⟨Nat.le_of_ble_eq_true rfl, Nat.le_of_ble_eq_true rfl⟩ ⟨Nat.zero_le _, Nat.zero_le _⟩ (fun r h2 hF => ?_)
    obtain ⟨_, rfl, rfl, rfl⟩ := hF
    show wM p l e (wR 3) s m args below meth c 0 0 (wE below args s D dA b0 ad S0 F) 6 D dA b0 ad S0 19 [some (.ref 188), some (.int v1), some (.int v2), none, none, none] [.int yr50] h
    refine w_istore_n X dX11_reads_19 rfl rfl rfl (Nat.le_of_ble_eq_true rfl) (ls' := [some (.ref 188), some (.int v1), some (.int v2), some (.int yr50), none, none]) rfl ?_
    refine w_aload_n X dX11_reads_20 rfl rfl rfl ?_
    refine w_ldc2 X dX11_reads_21 rfl wd_1421 ?_
    obtain ⟨yr51, eyr51, hf⟩ := wok_b hf
    refine w_callV X dX11_reads_24 rfl vl_X11_200 (kX11_isWord l  eyr51) S0_188 (As := [.long 10631]) (st := []) rfl rfl (Nat.le_of_ble_eq_true rfl) ⟨Nat.le_of_ble_eq_true rfl, Nat.le_of_ble_eq_true rfl⟩ ⟨Nat.zero_le _, Nat.zero_le _⟩ (fun r h2 hF => ?_)
    obtain ⟨_, rfl, rfl, rfl⟩ := hF
    show wM p l e (wR 3) s m args below meth c 0 0 (wE below args s D dA b0 ad S0 F) 6 D dA b0 ad S0 27 [some (.ref 188), some (.int v1), some (.int v2), some (.int yr50), none, none] [.int (wb yr51)] h
    refine w_istore X dX11_reads_27 rfl rfl (Nat.le_of_ble_eq_true rfl) (ls' := [some (.ref 188), some (.int v1), some (.int v2), some (.int yr50), some (.int (wb yr51)), none]) rfl ?_
    refine w_aload_n X dX11_reads_29 rfl rfl rfl ?_
    refine w_bipush X dX11_reads_30 rfl cb_40 ?_
    obtain ⟨yr52, eyr52, hf⟩ := wok_b hf
    refine w_callV X dX11_reads_32 rfl vl_X11_204 (kX11_isSign l  eyr52) S0_188 (As := [.int 40]) (st := []) rfl rfl (Nat.le_of_ble_eq_true rfl) ⟨Nat.le_of_ble_eq_true rfl, Nat.le_of_ble_eq_true rfl⟩ ⟨Nat.zero_le _, Nat.zero_le _⟩ (fun r h2 hF => ?_)
    obtain ⟨_, rfl, rfl, rfl⟩ := hF
    show wM p l e (wR 3) s m args below meth c 0 0 (wE below args s D dA b0 ad S0 F) 6 D dA b0 ad S0 35 [some (.ref 188), some (.int v1), some (.int v2), some (.int yr50), some (.int (wb yr51)), none] [.int (wb yr52)] h
    refine w_istore X dX11_reads_35 rfl rfl (Nat.le_of_ble_eq_true rfl) (ls' := [some (.ref 188), some (.int v1), some (.int v2), some (.int yr50), some (.int (wb yr51)), some (.int (wb yr52))]) rfl ?_
    refine w_iload_n X dX11_reads_37 rfl rfl rfl ?_
    refine w_if_ne X dX11_reads_38 rfl (t := 65) rfl (fun hc => ?_) (fun hc => ?_)
    · have hf := wok_f hf hc
      exact pX11_reads_b65_11 X hr  hN hT hf
    · have hf := wok_t hf hc
      refine w_iload X dX11_reads_41 rfl rfl ?_
      refine w_if_ne X dX11_reads_43 rfl (t := 65) rfl (fun hc => ?_) (fun hc => ?_)
      · have hf := wok_t hf (wb_n0 hc)
        exact pX11_reads_b65_11 X hr  hN hT hf
      · have hf := wok_f hf (wb_0 hc)
        refine w_iload X dX11_reads_46 rfl rfl ?_
        refine w_if_ne X dX11_reads_48 rfl (t := 65) rfl (fun hc => ?_) (fun hc => ?_)
        · have hf := wok_t hf (wb_n0 hc)
          exact pX11_reads_b65_11 X hr  hN hT hf
        · have hf := wok_f hf (wb_0 hc)
          refine w_aload_n X dX11_reads_51 rfl rfl rfl ?_
          refine w_getI X dX11_reads_52 rfl fl_X11_169 S0_188 rfl ?_
          refine w_iconst X dX11_reads_55 rfl ci_2 ?_
          refine w_icmp_eq X dX11_reads_56 rfl (t := 65) rfl (fun hc => ?_) (fun hc => ?_)
          · have hf := wok_t hf hc
            exact pX11_reads_b65_11 X hr  hN hT hf
          · have hf := wok_f hf hc
            refine w_aload_n X dX11_reads_59 rfl rfl rfl ?_
            refine w_iconst X dX11_reads_60 rfl ci_1 ?_
            obtain ⟨yr64, eyr64, hf⟩ := wok_b hf
            refine w_callV X dX11_reads_61 rfl vl_X11_208 (kX11_fails l  eyr64) S0_188 (As := [.int 1]) (st := []) rfl rfl (Nat.le_of_ble_eq_true rfl) ⟨Nat.le_of_ble_eq_true rfl, Nat.le_of_ble_eq_true rfl⟩ ⟨Nat.zero_le _, Nat.zero_le _⟩ (fun r h2 hF => ?_)
            obtain ⟨_, rfl, rfl, rfl⟩ := hF
            show wM p l e (wR 3) s m args below meth c 0 0 (wE below args s D dA b0 ad S0 F) 6 D dA b0 ad S0 64 [some (.ref 188), some (.int v1), some (.int v2), some (.int yr50), some (.int (wb yr51)), some (.int (wb yr52))] [.int (wb yr64.1)] yr64.2
            exact w_zret X dX11_reads_64 hr (wb_n _) (hT _ _ (wok_s hf))
set_option maxRecDepth 4000 in
theorem pX11_reads_l11 (X : wCx p s m args meth c RX11 cX11_reads 6 D dA b0 ad) (hr : meth.sig.returnType = (some .boolean))  {KE : (Bool × wSt) → Prop} (hT : ∀ (x : Bool) (h2 : wSt), KE ((x, h2)) → F (some (.int (wb x))) h2) : ∀ (n : Nat) (v1 : Int32) (v2 : Int32) (h : wSt), wok (wit (fun v : (Int32 × Int32 × wSt) => fX11_reads_l11 v.2.2 v.1 v.2.1) n (v1, v2, h)) KE → wM p l e (wR 3) s m args below meth c 0 0 (wE below args s D dA b0 ad S0 F) 6 D dA b0 ad S0 11 [some (.ref 188), some (.int v1), some (.int v2), none, none, none] [] h := by
  have key := wit_M (b := (fun v : (Int32 × Int32 × wSt) => fX11_reads_l11 v.2.2 v.1 v.2.1)) (KE := KE) (G := fun v => wM p l e (wR 3) s m args below meth c 0 0 (wE below args s D dA b0 ad S0 F) 6 D dA b0 ad S0 11 [some (.ref 188), some (.int v.1), some (.int v.2.1), none, none, none] [] v.2.2) (fun v K hN hE hf => pX11_reads_l11b X hr  (fun n1 n2 nh hz => hN (n1, n2, nh) hz) (fun z0 z1 hz => hT z0 z1 (hE _ hz)) hf)
  exact fun n v1 v2 h hf => key n (v1, v2, h) hf
set_option maxRecDepth 4000 in
theorem pX11_reads_b0 (X : wCx p s m args meth c RX11 cX11_reads 6 D dA b0 ad) (hr : meth.sig.returnType = (some .boolean)) {h : wSt} {K : Bool × wSt → Prop} (hT : ∀ (x : Bool) (h2 : wSt), K (x, h2) → F (some (.int (wb x))) h2) (hf : wok (fX11_reads h ) K) : wM p l e (wR 3) s m args below meth c 0 0 (wE below args s D dA b0 ad S0 F) 6 D dA b0 ad S0 0 [some (.ref 188), none, none, none, none, none] [] h := by
  unfold fX11_reads at hf
  refine w_iconst X dX11_reads_0 rfl ci_0 ?_
  refine w_istore_n X dX11_reads_1 rfl rfl rfl (Nat.le_of_ble_eq_true rfl) (ls' := [some (.ref 188), some (.int 0), none, none, none, none]) rfl ?_
  refine w_iconst X dX11_reads_2 rfl ci_1 ?_
  refine w_istore_n X dX11_reads_3 rfl rfl rfl (Nat.le_of_ble_eq_true rfl) (ls' := [some (.ref 188), some (.int 0), some (.int 1), none, none, none]) rfl ?_
  refine w_aload_n X dX11_reads_4 rfl rfl rfl ?_
  refine w_getR X dX11_reads_5 rfl fl_X11_56 S0_188 rfl ?_
  refine w_iconst X dX11_reads_8 rfl ci_0 ?_
  refine w_iconst X dX11_reads_9 rfl ci_0 ?_
  refine w_zast X dX11_reads_10 rfl (j := 0) cn_0 S0_204 (show wib 0 7 by decide) ?_
  refine w_nmh (fun yh21 eyh21 => ?_)
  have hf := wok_l hf eyh21
  obtain ⟨ye65, hye65, hf⟩ := wok_b hf
  refine pX11_reads_l11 X hr  (KE := fun z => ye65 = z) ?_ 3000 _ _ _ ⟨ye65, hye65, rfl⟩
  · intro z zh hz
    subst hz
    exact hT _ _ (wok_s hf)
set_option maxRecDepth 4000 in
theorem kX11_reads (l : Launch) {h : wSt} {res : Bool × wSt} (hf : fX11_reads h  = some res) : wC l yX11_reads cX11_reads 6 (some .boolean) 3 S0 [.ref 188] h (wFZ (fun a b => res.1 = a ∧ res.2 = b)) := by
  refine w_meth2 5 (by decide) (Nat.le_of_ble_eq_true rfl) (ls := [some (.ref 188), none, none, none, none, none]) rfl ?_
  intro p e s m args below meth c D dA b0 ad X hr
  exact pX11_reads_b0 X hr  (K := fun z => res = z) (fun x h2 hz => ⟨x, rfl, by rw [hz], by rw [hz]⟩) ⟨res, hf, rfl⟩
set_option maxRecDepth 4000 in
theorem pX11_opens_b0 (X : wCx p s m args meth c RX11 cX11_opens 2 D dA b0 ad) (hr : meth.sig.returnType = none) {h : wSt} {x0 : Int32} {K : wSt → Prop} (hT : ∀ (h2 : wSt), K h2 → F none h2) (hf : wok (fX11_opens h x0) K) : wM p l e (wR 1) s m args below meth c 0 0 (wE below args s D dA b0 ad S0 F) 2 D dA b0 ad S0 0 [some (.ref 188), some (.int x0)] [] h := by
  unfold fX11_opens at hf
  refine w_aload_n X dX11_opens_0 rfl rfl rfl ?_
  refine w_getR X dX11_opens_1 rfl fl_X11_63 S0_188 rfl ?_
  refine w_iload_n X dX11_opens_4 rfl rfl rfl ?_
  refine w_iconst X dX11_opens_5 rfl ci_0 ?_
  obtain ⟨yhg21, hf⟩ := wok_g hf
  refine w_iast X dX11_opens_6 rfl (j := x0.toNatClampNeg) rfl S0_206 yhg21 ?_
  refine w_nmh (fun yh22 eyh22 => ?_)
  have hf := wok_l hf eyh22
  refine w_aload_n X dX11_opens_7 rfl rfl rfl ?_
  refine w_getR X dX11_opens_8 rfl fl_X11_69 S0_188 rfl ?_
  refine w_iload_n X dX11_opens_11 rfl rfl rfl ?_
  refine w_iconst X dX11_opens_12 rfl ci_0 ?_
  refine w_iast X dX11_opens_13 rfl (j := x0.toNatClampNeg) rfl S0_208 yhg21 ?_
  refine w_nmh (fun yh23 eyh23 => ?_)
  have hf := wok_l hf eyh23
  refine w_aload_n X dX11_opens_14 rfl rfl rfl ?_
  refine w_getR X dX11_opens_15 rfl fl_X11_72 S0_188 rfl ?_
  refine w_iload_n X dX11_opens_18 rfl rfl rfl ?_
  refine w_iconst X dX11_opens_19 rfl ci_0 ?_
  refine w_iast X dX11_opens_20 rfl (j := x0.toNatClampNeg) rfl S0_209 yhg21 ?_
  refine w_nmh (fun yh24 eyh24 => ?_)
  have hf := wok_l hf eyh24
  refine w_aload_n X dX11_opens_21 rfl rfl rfl ?_
  refine w_getR X dX11_opens_22 rfl fl_X11_75 S0_188 rfl ?_
  refine w_iload_n X dX11_opens_25 rfl rfl rfl ?_
  refine w_bipush X dX11_opens_26 rfl cb_20 ?_
  refine w_iast X dX11_opens_28 rfl (j := x0.toNatClampNeg) rfl S0_210 yhg21 ?_
  refine w_nmh (fun yh25 eyh25 => ?_)
  have hf := wok_l hf eyh25
  refine w_aload_n X dX11_opens_29 rfl rfl rfl ?_
  refine w_getR X dX11_opens_30 rfl fl_X11_81 S0_188 rfl ?_
  refine w_iload_n X dX11_opens_33 rfl rfl rfl ?_
  refine w_iconst X dX11_opens_34 rfl ci_0 ?_
  refine w_iast X dX11_opens_35 rfl (j := x0.toNatClampNeg) rfl S0_212 yhg21 ?_
  refine w_nmh (fun yh26 eyh26 => ?_)
  have hf := wok_l hf eyh26
  exact w_vret X dX11_opens_36 hr (hT _ (wok_s hf))
set_option maxRecDepth 4000 in
theorem kX11_opens (l : Launch) {h : wSt} {x0 : Int32} {res : wSt} (hf : fX11_opens h x0 = some res) : wC l yX11_opens cX11_opens 2 none 1 S0 [.ref 188, .int x0] h (wFV (fun b => res = b)) := by
  refine w_meth2 0 (by decide) (Nat.le_of_ble_eq_true rfl) (ls := [some (.ref 188), some (.int x0)]) rfl ?_
  intro p e s m args below meth c D dA b0 ad X hr
  exact pX11_opens_b0 X hr  (K := fun z => res = z) (fun h2 hz => ⟨rfl, hz⟩) ⟨res, hf, rfl⟩
set_option maxRecDepth 4000 in
theorem pX11_sums_b45 (X : wCx p s m args meth c RX11 cX11_sums 2 D dA b0 ad) (hr : meth.sig.returnType = none) {h : wSt} {v1 : Int32} {w1 : Int32} {w2 : Int32} {K : wSt → Prop} (hT : ∀ (h2 : wSt), K h2 → F none h2)  (hf : wok (fX11_sums_b45 h v1 w1 w2) K) : wM p l e (wR 1) s m args below meth c 0 0 (wE below args s D dA b0 ad S0 F) 2 D dA b0 ad S0 45 [some (.ref 188), some (.int v1)] [.int w2, .int w1, .ref 209] h := by
  unfold fX11_sums_b45 at hf
  obtain ⟨yhg22, hf⟩ := wok_g hf
  refine w_iast X dX11_sums_45 rfl (j := w1.toNatClampNeg) rfl S0_209 yhg22 ?_
  refine w_nmh (fun yh23 eyh23 => ?_)
  have hf := wok_l hf eyh23
  refine w_aload_n X dX11_sums_46 rfl rfl rfl ?_
  refine w_getR X dX11_sums_47 rfl fl_X11_81 S0_188 rfl ?_
  refine w_iload_n X dX11_sums_50 rfl rfl rfl ?_
  refine w_iconst X dX11_sums_51 rfl ci_0 ?_
  obtain ⟨yhg24, hf⟩ := wok_g hf
  refine w_iast X dX11_sums_52 rfl (j := v1.toNatClampNeg) rfl S0_212 yhg24 ?_
  refine w_nmh (fun yh25 eyh25 => ?_)
  have hf := wok_l hf eyh25
  exact w_vret X dX11_sums_53 hr (hT _ (wok_s hf))
set_option maxRecDepth 4000 in
theorem pX11_sums_b0 (X : wCx p s m args meth c RX11 cX11_sums 2 D dA b0 ad) (hr : meth.sig.returnType = none) {h : wSt} {x0 : Int32} {K : wSt → Prop} (hT : ∀ (h2 : wSt), K h2 → F none h2) (hf : wok (fX11_sums h x0) K) : wM p l e (wR 1) s m args below meth c 0 0 (wE below args s D dA b0 ad S0 F) 2 D dA b0 ad S0 0 [some (.ref 188), some (.int x0)] [] h := by
  unfold fX11_sums at hf
  refine w_aload_n X dX11_sums_0 rfl rfl rfl ?_
  refine w_getR X dX11_sums_1 rfl fl_X11_72 S0_188 rfl ?_
  refine w_iload_n X dX11_sums_4 rfl rfl rfl ?_
  refine w_aload_n X dX11_sums_5 rfl rfl rfl ?_
  refine w_getR X dX11_sums_6 rfl fl_X11_75 S0_188 rfl ?_
  refine w_iload_n X dX11_sums_9 rfl rfl rfl ?_
  obtain ⟨yhg21, hf⟩ := wok_g hf
  refine w_iald X dX11_sums_10 rfl (j := x0.toNatClampNeg) rfl S0_210 yhg21 ?_
  refine w_bipush X dX11_sums_11 rfl cb_21 ?_
  refine w_icmp_ne X dX11_sums_13 rfl (t := 32) rfl (fun hc => ?_) (fun hc => ?_)
  · have hf := wok_f hf hc
    refine w_aload_n X dX11_sums_32 rfl rfl rfl ?_
    refine w_getR X dX11_sums_33 rfl fl_X11_72 S0_188 rfl ?_
    refine w_iload_n X dX11_sums_36 rfl rfl rfl ?_
    refine w_iald X dX11_sums_37 rfl (j := x0.toNatClampNeg) rfl S0_209 yhg21 ?_
    refine w_aload_n X dX11_sums_38 rfl rfl rfl ?_
    refine w_getR X dX11_sums_39 rfl fl_X11_78 S0_188 rfl ?_
    refine w_iload_n X dX11_sums_42 rfl rfl rfl ?_
    refine w_iald X dX11_sums_43 rfl (j := x0.toNatClampNeg) rfl S0_211 yhg21 ?_
    refine w_iadd X dX11_sums_44 rfl ?_
    exact pX11_sums_b45 X hr  hT hf
  · have hf := wok_t hf hc
    refine w_aload_n X dX11_sums_16 rfl rfl rfl ?_
    refine w_getR X dX11_sums_17 rfl fl_X11_72 S0_188 rfl ?_
    refine w_iload_n X dX11_sums_20 rfl rfl rfl ?_
    refine w_iald X dX11_sums_21 rfl (j := x0.toNatClampNeg) rfl S0_209 yhg21 ?_
    refine w_aload_n X dX11_sums_22 rfl rfl rfl ?_
    refine w_getR X dX11_sums_23 rfl fl_X11_78 S0_188 rfl ?_
    refine w_iload_n X dX11_sums_26 rfl rfl rfl ?_
    refine w_iald X dX11_sums_27 rfl (j := x0.toNatClampNeg) rfl S0_211 yhg21 ?_
    refine w_isub X dX11_sums_28 rfl ?_
    refine w_goto X dX11_sums_29 (t := 45) rfl ?_
    exact pX11_sums_b45 X hr  hT hf
set_option maxRecDepth 4000 in
theorem kX11_sums (l : Launch) {h : wSt} {x0 : Int32} {res : wSt} (hf : fX11_sums h x0 = some res) : wC l yX11_sums cX11_sums 2 none 1 S0 [.ref 188, .int x0] h (wFV (fun b => res = b)) := by
  refine w_meth2 0 (by decide) (Nat.le_of_ble_eq_true rfl) (ls := [some (.ref 188), some (.int x0)]) rfl ?_
  intro p e s m args below meth c D dA b0 ad X hr
  exact pX11_sums_b0 X hr  (K := fun z => res = z) (fun h2 hz => ⟨rfl, hz⟩) ⟨res, hf, rfl⟩
set_option maxRecDepth 4000 in
theorem pX11_tests_b136 (X : wCx p s m args meth c RX11 cX11_tests 3 D dA b0 ad) (hr : meth.sig.returnType = none) {h : wSt} {v1 : Int32} {v2 : Int32} {K : wSt → Prop} (hT : ∀ (h2 : wSt), K h2 → F none h2)  (hf : wok (fX11_tests_b136 h v1 v2) K) : wM p l e (wR 2) s m args below meth c 0 0 (wE below args s D dA b0 ad S0 F) 3 D dA b0 ad S0 136 [some (.ref 188), some (.int v1), some (.int v2)] [] h := by
  unfold fX11_tests_b136 at hf
  refine w_aload_n X dX11_tests_136 rfl rfl rfl ?_
  refine w_getR X dX11_tests_137 rfl fl_X11_60 S0_188 rfl ?_
  refine w_iload_n X dX11_tests_140 rfl rfl rfl ?_
  refine w_iload_n X dX11_tests_141 rfl rfl rfl ?_
  obtain ⟨yhg26, hf⟩ := wok_g hf
  refine w_iast X dX11_tests_142 rfl (j := v1.toNatClampNeg) rfl S0_205 yhg26 ?_
  refine w_nmh (fun yh27 eyh27 => ?_)
  have hf := wok_l hf eyh27
  refine w_aload_n X dX11_tests_143 rfl rfl rfl ?_
  refine w_getR X dX11_tests_144 rfl fl_X11_69 S0_188 rfl ?_
  refine w_iload_n X dX11_tests_147 rfl rfl rfl ?_
  refine w_iconst X dX11_tests_148 rfl ci_0 ?_
  refine w_iast X dX11_tests_149 rfl (j := v1.toNatClampNeg) rfl S0_208 yhg26 ?_
  refine w_nmh (fun yh28 eyh28 => ?_)
  have hf := wok_l hf eyh28
  refine w_aload_n X dX11_tests_150 rfl rfl rfl ?_
  refine w_getR X dX11_tests_151 rfl fl_X11_72 S0_188 rfl ?_
  refine w_iload_n X dX11_tests_154 rfl rfl rfl ?_
  refine w_iconst X dX11_tests_155 rfl ci_0 ?_
  refine w_iast X dX11_tests_156 rfl (j := v1.toNatClampNeg) rfl S0_209 yhg26 ?_
  refine w_nmh (fun yh29 eyh29 => ?_)
  have hf := wok_l hf eyh29
  refine w_aload_n X dX11_tests_157 rfl rfl rfl ?_
  refine w_getR X dX11_tests_158 rfl fl_X11_75 S0_188 rfl ?_
  refine w_iload_n X dX11_tests_161 rfl rfl rfl ?_
  refine w_bipush X dX11_tests_162 rfl cb_20 ?_
  refine w_iast X dX11_tests_164 rfl (j := v1.toNatClampNeg) rfl S0_210 yhg26 ?_
  refine w_nmh (fun yh30 eyh30 => ?_)
  have hf := wok_l hf eyh30
  exact w_vret X dX11_tests_165 hr (hT _ (wok_s hf))
set_option maxRecDepth 4000 in
theorem pX11_tests_b135 (X : wCx p s m args meth c RX11 cX11_tests 3 D dA b0 ad) (hr : meth.sig.returnType = none) {h : wSt} {v1 : Int32} {w0 : Int32} {K : wSt → Prop} (hT : ∀ (h2 : wSt), K h2 → F none h2)  (hf : wok (fX11_tests_b135 h v1 w0) K) : wM p l e (wR 2) s m args below meth c 0 0 (wE below args s D dA b0 ad S0 F) 3 D dA b0 ad S0 135 [some (.ref 188), some (.int v1), none] [.int w0] h := by
  unfold fX11_tests_b135 at hf
  refine w_istore_n X dX11_tests_135 rfl rfl rfl (Nat.le_of_ble_eq_true rfl) (ls' := [some (.ref 188), some (.int v1), some (.int w0)]) rfl ?_
  exact pX11_tests_b136 X hr  hT hf
set_option maxRecDepth 4000 in
theorem pX11_tests_b130 (X : wCx p s m args meth c RX11 cX11_tests 3 D dA b0 ad) (hr : meth.sig.returnType = none) {h : wSt} {v1 : Int32} {K : wSt → Prop} (hT : ∀ (h2 : wSt), K h2 → F none h2)  (hf : wok (fX11_tests_b130 h v1) K) : wM p l e (wR 2) s m args below meth c 0 0 (wE below args s D dA b0 ad S0 F) 3 D dA b0 ad S0 130 [some (.ref 188), some (.int v1), none] [] h := by
  unfold fX11_tests_b130 at hf
  refine w_iconst X dX11_tests_130 rfl ci_1 ?_
  refine w_goto X dX11_tests_131 (t := 135) rfl ?_
  exact pX11_tests_b135 X hr  hT hf
set_option maxRecDepth 4000 in
theorem pX11_tests_b106 (X : wCx p s m args meth c RX11 cX11_tests 3 D dA b0 ad) (hr : meth.sig.returnType = none) {h : wSt} {v1 : Int32} {v2 : Int32} {K : wSt → Prop} (hT : ∀ (h2 : wSt), K h2 → F none h2)  (hf : wok (fX11_tests_b106 h v1 v2) K) : wM p l e (wR 2) s m args below meth c 0 0 (wE below args s D dA b0 ad S0 F) 3 D dA b0 ad S0 106 [some (.ref 188), some (.int v1), some (.int v2)] [] h := by
  unfold fX11_tests_b106 at hf
  refine w_aload_n X dX11_tests_106 rfl rfl rfl ?_
  refine w_getR X dX11_tests_107 rfl fl_X11_63 S0_188 rfl ?_
  refine w_iload_n X dX11_tests_110 rfl rfl rfl ?_
  obtain ⟨yhg25, hf⟩ := wok_g hf
  refine w_iald X dX11_tests_111 rfl (j := v1.toNatClampNeg) rfl S0_206 yhg25 ?_
  refine w_bipush X dX11_tests_112 rfl cb_27 ?_
  refine w_icmp_ne X dX11_tests_114 rfl (t := 136) rfl (fun hc => ?_) (fun hc => ?_)
  · have hf := wok_f hf hc
    exact pX11_tests_b136 X hr  hT hf
  · have hf := wok_t hf hc
    refine w_aload_n X dX11_tests_117 rfl rfl rfl ?_
    refine w_getR X dX11_tests_118 rfl fl_X11_60 S0_188 rfl ?_
    refine w_iload_n X dX11_tests_121 rfl rfl rfl ?_
    refine w_iald X dX11_tests_122 rfl (j := v1.toNatClampNeg) rfl S0_205 yhg25 ?_
    refine w_if_ne X dX11_tests_123 rfl (t := 130) rfl (fun hc => ?_) (fun hc => ?_)
    · have hf := wok_f hf hc
      refine w_fg (ls2 := [some (.ref 188), some (.int v1), none]) ⟨rfl, rfl, trivial⟩ ?_
      exact pX11_tests_b130 X hr  hT hf
    · have hf := wok_t hf hc
      refine w_iload_n X dX11_tests_126 rfl rfl rfl ?_
      refine w_if_eq X dX11_tests_127 rfl (t := 134) rfl (fun hc => ?_) (fun hc => ?_)
      · have hf := wok_t hf hc
        refine w_iconst X dX11_tests_134 rfl ci_0 ?_
        refine w_fg (ls2 := [some (.ref 188), some (.int v1), none]) ⟨rfl, rfl, trivial⟩ ?_
        exact pX11_tests_b135 X hr  hT hf
      · have hf := wok_f hf hc
        refine w_fg (ls2 := [some (.ref 188), some (.int v1), none]) ⟨rfl, rfl, trivial⟩ ?_
        exact pX11_tests_b130 X hr  hT hf
set_option maxRecDepth 4000 in
theorem pX11_tests_b105 (X : wCx p s m args meth c RX11 cX11_tests 3 D dA b0 ad) (hr : meth.sig.returnType = none) {h : wSt} {v1 : Int32} {w0 : Int32} {K : wSt → Prop} (hT : ∀ (h2 : wSt), K h2 → F none h2)  (hf : wok (fX11_tests_b105 h v1 w0) K) : wM p l e (wR 2) s m args below meth c 0 0 (wE below args s D dA b0 ad S0 F) 3 D dA b0 ad S0 105 [some (.ref 188), some (.int v1), none] [.int w0] h := by
  unfold fX11_tests_b105 at hf
  refine w_istore_n X dX11_tests_105 rfl rfl rfl (Nat.le_of_ble_eq_true rfl) (ls' := [some (.ref 188), some (.int v1), some (.int w0)]) rfl ?_
  exact pX11_tests_b106 X hr  hT hf
set_option maxRecDepth 4000 in
theorem pX11_tests_b104 (X : wCx p s m args meth c RX11 cX11_tests 3 D dA b0 ad) (hr : meth.sig.returnType = none) {h : wSt} {v1 : Int32} {K : wSt → Prop} (hT : ∀ (h2 : wSt), K h2 → F none h2)  (hf : wok (fX11_tests_b104 h v1) K) : wM p l e (wR 2) s m args below meth c 0 0 (wE below args s D dA b0 ad S0 F) 3 D dA b0 ad S0 104 [some (.ref 188), some (.int v1), none] [] h := by
  unfold fX11_tests_b104 at hf
  refine w_iconst X dX11_tests_104 rfl ci_0 ?_
  exact pX11_tests_b105 X hr  hT hf
set_option maxRecDepth 4000 in
theorem pX11_tests_b76 (X : wCx p s m args meth c RX11 cX11_tests 3 D dA b0 ad) (hr : meth.sig.returnType = none) {h : wSt} {v1 : Int32} {v2 : Int32} {K : wSt → Prop} (hT : ∀ (h2 : wSt), K h2 → F none h2)  (hf : wok (fX11_tests_b76 h v1 v2) K) : wM p l e (wR 2) s m args below meth c 0 0 (wE below args s D dA b0 ad S0 F) 3 D dA b0 ad S0 76 [some (.ref 188), some (.int v1), some (.int v2)] [] h := by
  unfold fX11_tests_b76 at hf
  refine w_aload_n X dX11_tests_76 rfl rfl rfl ?_
  refine w_getR X dX11_tests_77 rfl fl_X11_63 S0_188 rfl ?_
  refine w_iload_n X dX11_tests_80 rfl rfl rfl ?_
  obtain ⟨yhg24, hf⟩ := wok_g hf
  refine w_iald X dX11_tests_81 rfl (j := v1.toNatClampNeg) rfl S0_206 yhg24 ?_
  refine w_bipush X dX11_tests_82 rfl cb_26 ?_
  refine w_icmp_ne X dX11_tests_84 rfl (t := 106) rfl (fun hc => ?_) (fun hc => ?_)
  · have hf := wok_f hf hc
    exact pX11_tests_b106 X hr  hT hf
  · have hf := wok_t hf hc
    refine w_aload_n X dX11_tests_87 rfl rfl rfl ?_
    refine w_getR X dX11_tests_88 rfl fl_X11_60 S0_188 rfl ?_
    refine w_iload_n X dX11_tests_91 rfl rfl rfl ?_
    refine w_iald X dX11_tests_92 rfl (j := v1.toNatClampNeg) rfl S0_205 yhg24 ?_
    refine w_if_eq X dX11_tests_93 rfl (t := 104) rfl (fun hc => ?_) (fun hc => ?_)
    · have hf := wok_t hf hc
      refine w_fg (ls2 := [some (.ref 188), some (.int v1), none]) ⟨rfl, rfl, trivial⟩ ?_
      exact pX11_tests_b104 X hr  hT hf
    · have hf := wok_f hf hc
      refine w_iload_n X dX11_tests_96 rfl rfl rfl ?_
      refine w_if_eq X dX11_tests_97 rfl (t := 104) rfl (fun hc => ?_) (fun hc => ?_)
      · have hf := wok_t hf hc
        refine w_fg (ls2 := [some (.ref 188), some (.int v1), none]) ⟨rfl, rfl, trivial⟩ ?_
        exact pX11_tests_b104 X hr  hT hf
      · have hf := wok_f hf hc
        refine w_iconst X dX11_tests_100 rfl ci_1 ?_
        refine w_goto X dX11_tests_101 (t := 105) rfl ?_
        refine w_fg (ls2 := [some (.ref 188), some (.int v1), none]) ⟨rfl, rfl, trivial⟩ ?_
        exact pX11_tests_b105 X hr  hT hf
set_option maxRecDepth 4000 in
theorem pX11_tests_b75 (X : wCx p s m args meth c RX11 cX11_tests 3 D dA b0 ad) (hr : meth.sig.returnType = none) {h : wSt} {v1 : Int32} {w0 : Int32} {K : wSt → Prop} (hT : ∀ (h2 : wSt), K h2 → F none h2)  (hf : wok (fX11_tests_b75 h v1 w0) K) : wM p l e (wR 2) s m args below meth c 0 0 (wE below args s D dA b0 ad S0 F) 3 D dA b0 ad S0 75 [some (.ref 188), some (.int v1), none] [.int w0] h := by
  unfold fX11_tests_b75 at hf
  refine w_istore_n X dX11_tests_75 rfl rfl rfl (Nat.le_of_ble_eq_true rfl) (ls' := [some (.ref 188), some (.int v1), some (.int w0)]) rfl ?_
  exact pX11_tests_b76 X hr  hT hf
set_option maxRecDepth 4000 in
theorem pX11_tests_b44 (X : wCx p s m args meth c RX11 cX11_tests 3 D dA b0 ad) (hr : meth.sig.returnType = none) {h : wSt} {v1 : Int32} {v2 : Int32} {K : wSt → Prop} (hT : ∀ (h2 : wSt), K h2 → F none h2)  (hf : wok (fX11_tests_b44 h v1 v2) K) : wM p l e (wR 2) s m args below meth c 0 0 (wE below args s D dA b0 ad S0 F) 3 D dA b0 ad S0 44 [some (.ref 188), some (.int v1), some (.int v2)] [] h := by
  unfold fX11_tests_b44 at hf
  refine w_aload_n X dX11_tests_44 rfl rfl rfl ?_
  refine w_getR X dX11_tests_45 rfl fl_X11_69 S0_188 rfl ?_
  refine w_iload_n X dX11_tests_48 rfl rfl rfl ?_
  obtain ⟨yhg23, hf⟩ := wok_g hf
  refine w_iald X dX11_tests_49 rfl (j := v1.toNatClampNeg) rfl S0_208 yhg23 ?_
  refine w_bipush X dX11_tests_50 rfl cb_25 ?_
  refine w_icmp_ne X dX11_tests_52 rfl (t := 76) rfl (fun hc => ?_) (fun hc => ?_)
  · have hf := wok_f hf hc
    exact pX11_tests_b76 X hr  hT hf
  · have hf := wok_t hf hc
    refine w_aload_n X dX11_tests_55 rfl rfl rfl ?_
    refine w_getR X dX11_tests_56 rfl fl_X11_66 S0_188 rfl ?_
    refine w_iload_n X dX11_tests_59 rfl rfl rfl ?_
    refine w_iald X dX11_tests_60 rfl (j := v1.toNatClampNeg) rfl S0_207 yhg23 ?_
    refine w_aload_n X dX11_tests_61 rfl rfl rfl ?_
    refine w_getR X dX11_tests_62 rfl fl_X11_72 S0_188 rfl ?_
    refine w_iload_n X dX11_tests_65 rfl rfl rfl ?_
    refine w_iald X dX11_tests_66 rfl (j := v1.toNatClampNeg) rfl S0_209 yhg23 ?_
    refine w_icmp_ne X dX11_tests_67 rfl (t := 74) rfl (fun hc => ?_) (fun hc => ?_)
    · have hf := wok_f hf hc
      refine w_iconst X dX11_tests_74 rfl ci_0 ?_
      refine w_fg (ls2 := [some (.ref 188), some (.int v1), none]) ⟨rfl, rfl, trivial⟩ ?_
      exact pX11_tests_b75 X hr  hT hf
    · have hf := wok_t hf hc
      refine w_iconst X dX11_tests_70 rfl ci_1 ?_
      refine w_goto X dX11_tests_71 (t := 75) rfl ?_
      refine w_fg (ls2 := [some (.ref 188), some (.int v1), none]) ⟨rfl, rfl, trivial⟩ ?_
      exact pX11_tests_b75 X hr  hT hf
set_option maxRecDepth 4000 in
theorem pX11_tests_b43 (X : wCx p s m args meth c RX11 cX11_tests 3 D dA b0 ad) (hr : meth.sig.returnType = none) {h : wSt} {v1 : Int32} {w0 : Int32} {K : wSt → Prop} (hT : ∀ (h2 : wSt), K h2 → F none h2)  (hf : wok (fX11_tests_b43 h v1 w0) K) : wM p l e (wR 2) s m args below meth c 0 0 (wE below args s D dA b0 ad S0 F) 3 D dA b0 ad S0 43 [some (.ref 188), some (.int v1), none] [.int w0] h := by
  unfold fX11_tests_b43 at hf
  refine w_istore_n X dX11_tests_43 rfl rfl rfl (Nat.le_of_ble_eq_true rfl) (ls' := [some (.ref 188), some (.int v1), some (.int w0)]) rfl ?_
  exact pX11_tests_b44 X hr  hT hf
set_option maxRecDepth 4000 in
theorem pX11_tests_b0 (X : wCx p s m args meth c RX11 cX11_tests 3 D dA b0 ad) (hr : meth.sig.returnType = none) {h : wSt} {x0 : Int32} {K : wSt → Prop} (hT : ∀ (h2 : wSt), K h2 → F none h2) (hf : wok (fX11_tests h x0) K) : wM p l e (wR 2) s m args below meth c 0 0 (wE below args s D dA b0 ad S0 F) 3 D dA b0 ad S0 0 [some (.ref 188), some (.int x0), none] [] h := by
  unfold fX11_tests at hf
  refine w_aload_n X dX11_tests_0 rfl rfl rfl ?_
  refine w_iload_n X dX11_tests_1 rfl rfl rfl ?_
  obtain ⟨yr21, eyr21, hf⟩ := wok_b hf
  refine w_callV X dX11_tests_2 rfl vl_X11_222 (kX11_sums l  eyr21) S0_188 (As := [.int x0]) (st := []) rfl rfl (Nat.le_of_ble_eq_true rfl) ⟨Nat.le_of_ble_eq_true rfl, Nat.le_of_ble_eq_true rfl⟩ ⟨Nat.zero_le _, Nat.zero_le _⟩ (fun r h2 hF => ?_)
  obtain ⟨rfl, rfl⟩ := hF
  show wM p l e (wR 2) s m args below meth c 0 0 (wE below args s D dA b0 ad S0 F) 3 D dA b0 ad S0 5 [some (.ref 188), some (.int x0), none] [] yr21
  refine w_aload_n X dX11_tests_5 rfl rfl rfl ?_
  refine w_getR X dX11_tests_6 rfl fl_X11_72 S0_188 rfl ?_
  refine w_iload_n X dX11_tests_9 rfl rfl rfl ?_
  obtain ⟨yhg22, hf⟩ := wok_g hf
  refine w_iald X dX11_tests_10 rfl (j := x0.toNatClampNeg) rfl S0_209 yhg22 ?_
  refine w_istore_n X dX11_tests_11 rfl rfl rfl (Nat.le_of_ble_eq_true rfl) (ls' := [some (.ref 188), some (.int x0), some (.int (yr21.1 209 x0.toNatClampNeg))]) rfl ?_
  refine w_aload_n X dX11_tests_12 rfl rfl rfl ?_
  refine w_getR X dX11_tests_13 rfl fl_X11_69 S0_188 rfl ?_
  refine w_iload_n X dX11_tests_16 rfl rfl rfl ?_
  refine w_iald X dX11_tests_17 rfl (j := x0.toNatClampNeg) rfl S0_208 yhg22 ?_
  refine w_bipush X dX11_tests_18 rfl cb_24 ?_
  refine w_icmp_ne X dX11_tests_20 rfl (t := 44) rfl (fun hc => ?_) (fun hc => ?_)
  · have hf := wok_f hf hc
    exact pX11_tests_b44 X hr  hT hf
  · have hf := wok_t hf hc
    refine w_aload_n X dX11_tests_23 rfl rfl rfl ?_
    refine w_getR X dX11_tests_24 rfl fl_X11_66 S0_188 rfl ?_
    refine w_iload_n X dX11_tests_27 rfl rfl rfl ?_
    refine w_iald X dX11_tests_28 rfl (j := x0.toNatClampNeg) rfl S0_207 yhg22 ?_
    refine w_aload_n X dX11_tests_29 rfl rfl rfl ?_
    refine w_getR X dX11_tests_30 rfl fl_X11_72 S0_188 rfl ?_
    refine w_iload_n X dX11_tests_33 rfl rfl rfl ?_
    refine w_iald X dX11_tests_34 rfl (j := x0.toNatClampNeg) rfl S0_209 yhg22 ?_
    refine w_icmp_ge X dX11_tests_35 rfl (t := 42) rfl (fun hc => ?_) (fun hc => ?_)
    · have hf := wok_t hf hc
      refine w_iconst X dX11_tests_42 rfl ci_0 ?_
      refine w_fg (ls2 := [some (.ref 188), some (.int x0), none]) ⟨rfl, rfl, trivial⟩ ?_
      exact pX11_tests_b43 X hr  hT hf
    · have hf := wok_f hf hc
      refine w_iconst X dX11_tests_38 rfl ci_1 ?_
      refine w_goto X dX11_tests_39 (t := 43) rfl ?_
      refine w_fg (ls2 := [some (.ref 188), some (.int x0), none]) ⟨rfl, rfl, trivial⟩ ?_
      exact pX11_tests_b43 X hr  hT hf
set_option maxRecDepth 4000 in
theorem kX11_tests (l : Launch) {h : wSt} {x0 : Int32} {res : wSt} (hf : fX11_tests h x0 = some res) : wC l yX11_tests cX11_tests 3 none 2 S0 [.ref 188, .int x0] h (wFV (fun b => res = b)) := by
  refine w_meth2 1 (by decide) (Nat.le_of_ble_eq_true rfl) (ls := [some (.ref 188), some (.int x0), none]) rfl ?_
  intro p e s m args below meth c D dA b0 ad X hr
  exact pX11_tests_b0 X hr  (K := fun z => res = z) (fun h2 hz => ⟨rfl, hz⟩) ⟨res, hf, rfl⟩
set_option maxRecDepth 4000 in
theorem pX11_worked_b329_14 (X : wCx p s m args meth c RX11 cX11_worked 6 D dA b0 ad) (hr : meth.sig.returnType = (some .int)) {h : wSt} {v1 : Int32} {v2 : Int32} {v3 : Int32} {K : (Int32 × Int32 × wSt) ⊕ ((wSt)) → Prop} (hN : ∀ (n2 : Int32) (n3 : Int32) (nh : wSt), K (.inl (n2, n3, nh)) → wM p l e (wR 3) s m args below meth c 0 0 (wE below args s D dA b0 ad S0 F) 6 D dA b0 ad S0 14 [some (.ref 188), some (.int v1), some (.int n2), some (.int n3), none, none] [] nh) (hX0 : ∀ (nh : wSt), K (.inr nh) → wM p l e (wR 3) s m args below meth c 0 0 (wE below args s D dA b0 ad S0 F) 6 D dA b0 ad S0 335 [some (.ref 188), none, none, none, none, none] [] nh) (hf : wok (fX11_worked_b329_14 h v1 v2 v3) K) : wM p l e (wR 3) s m args below meth c 0 0 (wE below args s D dA b0 ad S0 F) 6 D dA b0 ad S0 329 [some (.ref 188), some (.int v1), some (.int v2), some (.int v3), none, none] [] h := by
  unfold fX11_worked_b329_14 at hf
  refine w_iinc X dX11_worked_329 rfl (v := (v3 + 1)) rfl rfl (Nat.le_of_ble_eq_true rfl) (cinc_1 _) (ls' := [some (.ref 188), some (.int v1), some (.int v2), some (.int (v3 + 1)), none, none]) rfl ?_
  refine w_goto X dX11_worked_332 (t := 14) rfl ?_
  exact hN _ _ _ (wok_s hf)
set_option maxRecDepth 4000 in
theorem pX11_worked_b66_14 (X : wCx p s m args meth c RX11 cX11_worked 6 D dA b0 ad) (hr : meth.sig.returnType = (some .int)) {h : wSt} {v1 : Int32} {v2 : Int32} {v3 : Int32} {w1 : Int32} {w2 : Int32} {K : (Int32 × Int32 × wSt) ⊕ ((wSt)) → Prop} (hN : ∀ (n2 : Int32) (n3 : Int32) (nh : wSt), K (.inl (n2, n3, nh)) → wM p l e (wR 3) s m args below meth c 0 0 (wE below args s D dA b0 ad S0 F) 6 D dA b0 ad S0 14 [some (.ref 188), some (.int v1), some (.int n2), some (.int n3), none, none] [] nh) (hX0 : ∀ (nh : wSt), K (.inr nh) → wM p l e (wR 3) s m args below meth c 0 0 (wE below args s D dA b0 ad S0 F) 6 D dA b0 ad S0 335 [some (.ref 188), none, none, none, none, none] [] nh) (hf : wok (fX11_worked_b66_14 h v1 v2 v3 w1 w2) K) : wM p l e (wR 3) s m args below meth c 0 0 (wE below args s D dA b0 ad S0 F) 6 D dA b0 ad S0 66 [some (.ref 188), some (.int v1), some (.int v2), some (.int v3), none, none] [.int w2, .int w1, .ref 213] h := by
  unfold fX11_worked_b66_14 at hf
  obtain ⟨yhg25, hf⟩ := wok_g hf
  refine w_iast X dX11_worked_66 rfl (j := w1.toNatClampNeg) rfl S0_213 yhg25 ?_
  refine w_nmh (fun yh26 eyh26 => ?_)
  have hf := wok_l hf eyh26
  refine w_aload_n X dX11_worked_67 rfl rfl rfl ?_
  refine w_iload_n X dX11_worked_68 rfl rfl rfl ?_
  obtain ⟨yr27, eyr27, hf⟩ := wok_b hf
  refine w_callV X dX11_worked_69 rfl vl_X11_225 (kX11_opens l  eyr27) S0_188 (As := [.int v2]) (st := []) rfl rfl (Nat.le_of_ble_eq_true rfl) ⟨Nat.le_of_ble_eq_true rfl, Nat.le_of_ble_eq_true rfl⟩ ⟨Nat.zero_le _, Nat.zero_le _⟩ (fun r h2 hF => ?_)
  obtain ⟨rfl, rfl⟩ := hF
  show wM p l e (wR 3) s m args below meth c 0 0 (wE below args s D dA b0 ad S0 F) 6 D dA b0 ad S0 72 [some (.ref 188), some (.int v1), some (.int v2), some (.int v3), none, none] [] yr27
  refine w_goto X dX11_worked_72 (t := 329) rfl ?_
  exact pX11_worked_b329_14 X hr  hN hX0 hf
set_option maxRecDepth 4000 in
theorem pX11_worked_b46_14 (X : wCx p s m args meth c RX11 cX11_worked 6 D dA b0 ad) (hr : meth.sig.returnType = (some .int)) {h : wSt} {v1 : Int32} {v2 : Int32} {v3 : Int32} {v4 : Int32} {K : (Int32 × Int32 × wSt) ⊕ ((wSt)) → Prop} (hN : ∀ (n2 : Int32) (n3 : Int32) (nh : wSt), K (.inl (n2, n3, nh)) → wM p l e (wR 3) s m args below meth c 0 0 (wE below args s D dA b0 ad S0 F) 6 D dA b0 ad S0 14 [some (.ref 188), some (.int v1), some (.int n2), some (.int n3), none, none] [] nh) (hX0 : ∀ (nh : wSt), K (.inr nh) → wM p l e (wR 3) s m args below meth c 0 0 (wE below args s D dA b0 ad S0 F) 6 D dA b0 ad S0 335 [some (.ref 188), none, none, none, none, none] [] nh) (hf : wok (fX11_worked_b46_14 h v1 v2 v3 v4) K) : wM p l e (wR 3) s m args below meth c 0 0 (wE below args s D dA b0 ad S0 F) 6 D dA b0 ad S0 46 [some (.ref 188), some (.int v1), some (.int v2), some (.int v3), some (.int v4), none] [] h := by
  unfold fX11_worked_b46_14 at hf
  refine w_iinc X dX11_worked_46 rfl (v := (v2 + 1)) rfl rfl (Nat.le_of_ble_eq_true rfl) (cinc_1 _) (ls' := [some (.ref 188), some (.int v1), some (.int (v2 + 1)), some (.int v3), some (.int v4), none]) rfl ?_
  refine w_aload_n X dX11_worked_49 rfl rfl rfl ?_
  refine w_getR X dX11_worked_50 rfl fl_X11_84 S0_188 rfl ?_
  refine w_iload_n X dX11_worked_53 rfl rfl rfl ?_
  refine w_iload X dX11_worked_54 rfl rfl ?_
  refine w_bipush X dX11_worked_56 rfl cb_30 ?_
  refine w_icmp_ne X dX11_worked_58 rfl (t := 65) rfl (fun hc => ?_) (fun hc => ?_)
  · have hf := wok_f hf hc
    refine w_iconst X dX11_worked_65 rfl ci_0 ?_
    refine w_fg (ls2 := [some (.ref 188), some (.int v1), some (.int (v2 + 1)), some (.int v3), none, none]) ⟨rfl, rfl, rfl, rfl, trivial⟩ ?_
    exact pX11_worked_b66_14 X hr  hN hX0 hf
  · have hf := wok_t hf hc
    refine w_iconst X dX11_worked_61 rfl ci_1 ?_
    refine w_goto X dX11_worked_62 (t := 66) rfl ?_
    refine w_fg (ls2 := [some (.ref 188), some (.int v1), some (.int (v2 + 1)), some (.int v3), none, none]) ⟨rfl, rfl, rfl, rfl, trivial⟩ ?_
    exact pX11_worked_b66_14 X hr  hN hX0 hf
set_option maxRecDepth 4000 in
theorem pX11_worked_b89_14 (X : wCx p s m args meth c RX11 cX11_worked 6 D dA b0 ad) (hr : meth.sig.returnType = (some .int)) {h : wSt} {v1 : Int32} {v2 : Int32} {v3 : Int32} {v4 : Int32} {K : (Int32 × Int32 × wSt) ⊕ ((wSt)) → Prop} (hN : ∀ (n2 : Int32) (n3 : Int32) (nh : wSt), K (.inl (n2, n3, nh)) → wM p l e (wR 3) s m args below meth c 0 0 (wE below args s D dA b0 ad S0 F) 6 D dA b0 ad S0 14 [some (.ref 188), some (.int v1), some (.int n2), some (.int n3), none, none] [] nh) (hX0 : ∀ (nh : wSt), K (.inr nh) → wM p l e (wR 3) s m args below meth c 0 0 (wE below args s D dA b0 ad S0 F) 6 D dA b0 ad S0 335 [some (.ref 188), none, none, none, none, none] [] nh) (hf : wok (fX11_worked_b89_14 h v1 v2 v3 v4) K) : wM p l e (wR 3) s m args below meth c 0 0 (wE below args s D dA b0 ad S0 F) 6 D dA b0 ad S0 89 [some (.ref 188), some (.int v1), some (.int v2), some (.int v3), some (.int v4), none] [] h := by
  unfold fX11_worked_b89_14 at hf
  refine w_aload_n X dX11_worked_89 rfl rfl rfl ?_
  refine w_iload_n X dX11_worked_90 rfl rfl rfl ?_
  obtain ⟨yr28, eyr28, hf⟩ := wok_b hf
  refine w_callV X dX11_worked_91 rfl vl_X11_222 (kX11_sums l  eyr28) S0_188 (As := [.int v2]) (st := []) rfl rfl (Nat.le_of_ble_eq_true rfl) ⟨Nat.le_of_ble_eq_true rfl, Nat.le_of_ble_eq_true rfl⟩ ⟨Nat.zero_le _, Nat.zero_le _⟩ (fun r h2 hF => ?_)
  obtain ⟨rfl, rfl⟩ := hF
  show wM p l e (wR 3) s m args below meth c 0 0 (wE below args s D dA b0 ad S0 F) 6 D dA b0 ad S0 94 [some (.ref 188), some (.int v1), some (.int v2), some (.int v3), some (.int v4), none] [] yr28
  refine w_aload_n X dX11_worked_94 rfl rfl rfl ?_
  refine w_getR X dX11_worked_95 rfl fl_X11_75 S0_188 rfl ?_
  refine w_iload_n X dX11_worked_98 rfl rfl rfl ?_
  refine w_iload X dX11_worked_99 rfl rfl ?_
  obtain ⟨yhg29, hf⟩ := wok_g hf
  refine w_iast X dX11_worked_101 rfl (j := v2.toNatClampNeg) rfl S0_210 yhg29 ?_
  refine w_nmh (fun yh30 eyh30 => ?_)
  have hf := wok_l hf eyh30
  refine w_goto X dX11_worked_102 (t := 329) rfl ?_
  refine w_fg (ls2 := [some (.ref 188), some (.int v1), some (.int v2), some (.int v3), none, none]) ⟨rfl, rfl, rfl, rfl, trivial⟩ ?_
  exact pX11_worked_b329_14 X hr  hN hX0 hf
set_option maxRecDepth 4000 in
theorem pX11_worked_b137_14 (X : wCx p s m args meth c RX11 cX11_worked 6 D dA b0 ad) (hr : meth.sig.returnType = (some .int)) {h : wSt} {v1 : Int32} {v2 : Int32} {v3 : Int32} {v4 : Int32} {K : (Int32 × Int32 × wSt) ⊕ ((wSt)) → Prop} (hN : ∀ (n2 : Int32) (n3 : Int32) (nh : wSt), K (.inl (n2, n3, nh)) → wM p l e (wR 3) s m args below meth c 0 0 (wE below args s D dA b0 ad S0 F) 6 D dA b0 ad S0 14 [some (.ref 188), some (.int v1), some (.int n2), some (.int n3), none, none] [] nh) (hX0 : ∀ (nh : wSt), K (.inr nh) → wM p l e (wR 3) s m args below meth c 0 0 (wE below args s D dA b0 ad S0 F) 6 D dA b0 ad S0 335 [some (.ref 188), none, none, none, none, none] [] nh) (hf : wok (fX11_worked_b137_14 h v1 v2 v3 v4) K) : wM p l e (wR 3) s m args below meth c 0 0 (wE below args s D dA b0 ad S0 F) 6 D dA b0 ad S0 137 [some (.ref 188), some (.int v1), some (.int v2), some (.int v3), some (.int v4), none] [] h := by
  unfold fX11_worked_b137_14 at hf
  refine w_aload_n X dX11_worked_137 rfl rfl rfl ?_
  refine w_iload_n X dX11_worked_138 rfl rfl rfl ?_
  obtain ⟨yr31, eyr31, hf⟩ := wok_b hf
  refine w_callV X dX11_worked_139 rfl vl_X11_222 (kX11_sums l  eyr31) S0_188 (As := [.int v2]) (st := []) rfl rfl (Nat.le_of_ble_eq_true rfl) ⟨Nat.le_of_ble_eq_true rfl, Nat.le_of_ble_eq_true rfl⟩ ⟨Nat.zero_le _, Nat.zero_le _⟩ (fun r h2 hF => ?_)
  obtain ⟨rfl, rfl⟩ := hF
  show wM p l e (wR 3) s m args below meth c 0 0 (wE below args s D dA b0 ad S0 F) 6 D dA b0 ad S0 142 [some (.ref 188), some (.int v1), some (.int v2), some (.int v3), some (.int v4), none] [] yr31
  refine w_aload_n X dX11_worked_142 rfl rfl rfl ?_
  refine w_getR X dX11_worked_143 rfl fl_X11_66 S0_188 rfl ?_
  refine w_iload_n X dX11_worked_146 rfl rfl rfl ?_
  refine w_aload_n X dX11_worked_147 rfl rfl rfl ?_
  refine w_getR X dX11_worked_148 rfl fl_X11_72 S0_188 rfl ?_
  refine w_iload_n X dX11_worked_151 rfl rfl rfl ?_
  obtain ⟨yhg32, hf⟩ := wok_g hf
  refine w_iald X dX11_worked_152 rfl (j := v2.toNatClampNeg) rfl S0_209 yhg32 ?_
  refine w_iast X dX11_worked_153 rfl (j := v2.toNatClampNeg) rfl S0_207 yhg32 ?_
  refine w_nmh (fun yh33 eyh33 => ?_)
  have hf := wok_l hf eyh33
  refine w_aload_n X dX11_worked_154 rfl rfl rfl ?_
  refine w_getR X dX11_worked_155 rfl fl_X11_69 S0_188 rfl ?_
  refine w_iload_n X dX11_worked_158 rfl rfl rfl ?_
  refine w_iload X dX11_worked_159 rfl rfl ?_
  refine w_iast X dX11_worked_161 rfl (j := v2.toNatClampNeg) rfl S0_208 yhg32 ?_
  refine w_nmh (fun yh34 eyh34 => ?_)
  have hf := wok_l hf eyh34
  refine w_aload_n X dX11_worked_162 rfl rfl rfl ?_
  refine w_getR X dX11_worked_163 rfl fl_X11_72 S0_188 rfl ?_
  refine w_iload_n X dX11_worked_166 rfl rfl rfl ?_
  refine w_iconst X dX11_worked_167 rfl ci_0 ?_
  refine w_iast X dX11_worked_168 rfl (j := v2.toNatClampNeg) rfl S0_209 yhg32 ?_
  refine w_nmh (fun yh35 eyh35 => ?_)
  have hf := wok_l hf eyh35
  refine w_aload_n X dX11_worked_169 rfl rfl rfl ?_
  refine w_getR X dX11_worked_170 rfl fl_X11_75 S0_188 rfl ?_
  refine w_iload_n X dX11_worked_173 rfl rfl rfl ?_
  refine w_bipush X dX11_worked_174 rfl cb_20 ?_
  refine w_iast X dX11_worked_176 rfl (j := v2.toNatClampNeg) rfl S0_210 yhg32 ?_
  refine w_nmh (fun yh36 eyh36 => ?_)
  have hf := wok_l hf eyh36
  refine w_goto X dX11_worked_177 (t := 329) rfl ?_
  refine w_fg (ls2 := [some (.ref 188), some (.int v1), some (.int v2), some (.int v3), none, none]) ⟨rfl, rfl, rfl, rfl, trivial⟩ ?_
  exact pX11_worked_b329_14 X hr  hN hX0 hf
set_option maxRecDepth 4000 in
theorem pX11_worked_b194_14 (X : wCx p s m args meth c RX11 cX11_worked 6 D dA b0 ad) (hr : meth.sig.returnType = (some .int)) {h : wSt} {v1 : Int32} {v2 : Int32} {v3 : Int32} {v4 : Int32} {K : (Int32 × Int32 × wSt) ⊕ ((wSt)) → Prop} (hN : ∀ (n2 : Int32) (n3 : Int32) (nh : wSt), K (.inl (n2, n3, nh)) → wM p l e (wR 3) s m args below meth c 0 0 (wE below args s D dA b0 ad S0 F) 6 D dA b0 ad S0 14 [some (.ref 188), some (.int v1), some (.int n2), some (.int n3), none, none] [] nh) (hX0 : ∀ (nh : wSt), K (.inr nh) → wM p l e (wR 3) s m args below meth c 0 0 (wE below args s D dA b0 ad S0 F) 6 D dA b0 ad S0 335 [some (.ref 188), none, none, none, none, none] [] nh) (hf : wok (fX11_worked_b194_14 h v1 v2 v3 v4) K) : wM p l e (wR 3) s m args below meth c 0 0 (wE below args s D dA b0 ad S0 F) 6 D dA b0 ad S0 194 [some (.ref 188), some (.int v1), some (.int v2), some (.int v3), some (.int v4), none] [] h := by
  unfold fX11_worked_b194_14 at hf
  refine w_aload_n X dX11_worked_194 rfl rfl rfl ?_
  refine w_iload_n X dX11_worked_195 rfl rfl rfl ?_
  obtain ⟨yr37, eyr37, hf⟩ := wok_b hf
  refine w_callV X dX11_worked_196 rfl vl_X11_228 (kX11_tests l  eyr37) S0_188 (As := [.int v2]) (st := []) rfl rfl (Nat.le_of_ble_eq_true rfl) ⟨Nat.le_of_ble_eq_true rfl, Nat.le_of_ble_eq_true rfl⟩ ⟨Nat.zero_le _, Nat.zero_le _⟩ (fun r h2 hF => ?_)
  obtain ⟨rfl, rfl⟩ := hF
  show wM p l e (wR 3) s m args below meth c 0 0 (wE below args s D dA b0 ad S0 F) 6 D dA b0 ad S0 199 [some (.ref 188), some (.int v1), some (.int v2), some (.int v3), some (.int v4), none] [] yr37
  refine w_aload_n X dX11_worked_199 rfl rfl rfl ?_
  refine w_getR X dX11_worked_200 rfl fl_X11_63 S0_188 rfl ?_
  refine w_iload_n X dX11_worked_203 rfl rfl rfl ?_
  refine w_iload X dX11_worked_204 rfl rfl ?_
  obtain ⟨yhg38, hf⟩ := wok_g hf
  refine w_iast X dX11_worked_206 rfl (j := v2.toNatClampNeg) rfl S0_206 yhg38 ?_
  refine w_nmh (fun yh39 eyh39 => ?_)
  have hf := wok_l hf eyh39
  refine w_goto X dX11_worked_207 (t := 329) rfl ?_
  refine w_fg (ls2 := [some (.ref 188), some (.int v1), some (.int v2), some (.int v3), none, none]) ⟨rfl, rfl, rfl, rfl, trivial⟩ ?_
  exact pX11_worked_b329_14 X hr  hN hX0 hf
set_option maxRecDepth 4000 in
theorem pX11_worked_b292_268 (X : wCx p s m args meth c RX11 cX11_worked 6 D dA b0 ad) (hr : meth.sig.returnType = (some .int)) {h : wSt} {v1 : Int32} {v2 : Int32} {v3 : Int32} {w0 : Int32} {K : (Int32 × Int32) ⊕ ((Int32 × Int32)) → Prop} (hN : ∀ (n2 : Int32) (n5 : Int32), K (.inl (n2, n5)) → wM p l e (wR 3) s m args below meth c 0 0 (wE below args s D dA b0 ad S0 F) 6 D dA b0 ad S0 268 [some (.ref 188), some (.int v1), some (.int n2), some (.int v3), none, some (.int n5)] [] h) (hX0 : ∀ (n2 : Int32) (n5 : Int32), K (.inr (n2, n5)) → wM p l e (wR 3) s m args below meth c 0 0 (wE below args s D dA b0 ad S0 F) 6 D dA b0 ad S0 300 [some (.ref 188), some (.int v1), some (.int n2), some (.int v3), none, some (.int n5)] [] h) (hf : wok (fX11_worked_b292_268 h v1 v2 v3 w0) K) : wM p l e (wR 3) s m args below meth c 0 0 (wE below args s D dA b0 ad S0 F) 6 D dA b0 ad S0 292 [some (.ref 188), some (.int v1), some (.int v2), some (.int v3), none, none] [.int w0] h := by
  unfold fX11_worked_b292_268 at hf
  refine w_istore X dX11_worked_292 rfl rfl (Nat.le_of_ble_eq_true rfl) (ls' := [some (.ref 188), some (.int v1), some (.int v2), some (.int v3), none, some (.int w0)]) rfl ?_
  refine w_iinc X dX11_worked_294 rfl (v := (v2 + (-1))) rfl rfl (Nat.le_of_ble_eq_true rfl) (cinc_m1 _) (ls' := [some (.ref 188), some (.int v1), some (.int (v2 + (-1))), some (.int v3), none, some (.int w0)]) rfl ?_
  refine w_goto X dX11_worked_297 (t := 268) rfl ?_
  exact hN _ _ (wok_s hf)
set_option maxRecDepth 4000 in
theorem pX11_worked_l268b (X : wCx p s m args meth c RX11 cX11_worked 6 D dA b0 ad) (hr : meth.sig.returnType = (some .int)) {h : wSt} {v1 : Int32} {v3 : Int32} {v2 : Int32} {v5 : Int32} {K : (Int32 × Int32) ⊕ ((Int32 × Int32)) → Prop} (hN : ∀ (n2 : Int32) (n5 : Int32), K (.inl (n2, n5)) → wM p l e (wR 3) s m args below meth c 0 0 (wE below args s D dA b0 ad S0 F) 6 D dA b0 ad S0 268 [some (.ref 188), some (.int v1), some (.int n2), some (.int v3), none, some (.int n5)] [] h) (hX0 : ∀ (n2 : Int32) (n5 : Int32), K (.inr (n2, n5)) → wM p l e (wR 3) s m args below meth c 0 0 (wE below args s D dA b0 ad S0 F) 6 D dA b0 ad S0 300 [some (.ref 188), some (.int v1), some (.int n2), some (.int v3), none, some (.int n5)] [] h) (hf : wok (fX11_worked_l268 h v1 v3 v2 v5) K) : wM p l e (wR 3) s m args below meth c 0 0 (wE below args s D dA b0 ad S0 F) 6 D dA b0 ad S0 268 [some (.ref 188), some (.int v1), some (.int v2), some (.int v3), none, some (.int v5)] [] h := by
  unfold fX11_worked_l268 at hf
  refine w_iload_n X dX11_worked_268 rfl rfl rfl ?_
  refine w_if_le X dX11_worked_269 rfl (t := 300) rfl (fun hc => ?_) (fun hc => ?_)
  · have hf := wok_t hf hc
    exact hX0 _ _ (wok_s hf)
  · have hf := wok_f hf hc
    refine w_aload_n X dX11_worked_272 rfl rfl rfl ?_
    refine w_getR X dX11_worked_273 rfl fl_X11_84 S0_188 rfl ?_
    refine w_iload_n X dX11_worked_276 rfl rfl rfl ?_
    obtain ⟨yhg40, hf⟩ := wok_g hf
    refine w_iald X dX11_worked_277 rfl (j := v2.toNatClampNeg) rfl S0_213 yhg40 ?_
    refine w_iconst X dX11_worked_278 rfl ci_1 ?_
    refine w_icmp_ne X dX11_worked_279 rfl (t := 300) rfl (fun hc => ?_) (fun hc => ?_)
    · have hf := wok_f hf hc
      exact hX0 _ _ (wok_s hf)
    · have hf := wok_t hf hc
      refine w_iload X dX11_worked_282 rfl rfl ?_
      refine w_if_ne X dX11_worked_284 rfl (t := 291) rfl (fun hc => ?_) (fun hc => ?_)
      · have hf := wok_f hf hc
        refine w_iconst X dX11_worked_291 rfl ci_0 ?_
        refine w_fg (ls2 := [some (.ref 188), some (.int v1), some (.int v2), some (.int v3), none, none]) ⟨rfl, rfl, rfl, rfl, trivial⟩ ?_
        exact pX11_worked_b292_268 X hr  hN hX0 hf
      · have hf := wok_t hf hc
        refine w_iconst X dX11_worked_287 rfl ci_1 ?_
        refine w_goto X dX11_worked_288 (t := 292) rfl ?_
        refine w_fg (ls2 := [some (.ref 188), some (.int v1), some (.int v2), some (.int v3), none, none]) ⟨rfl, rfl, rfl, rfl, trivial⟩ ?_
        exact pX11_worked_b292_268 X hr  hN hX0 hf
set_option maxRecDepth 4000 in
theorem pX11_worked_l268 (X : wCx p s m args meth c RX11 cX11_worked 6 D dA b0 ad) (hr : meth.sig.returnType = (some .int)) {h : wSt} {v1 : Int32} {v3 : Int32} {KE : (Int32 × Int32) → Prop} (hX0 : ∀ (n2 : Int32) (n5 : Int32), KE ((n2, n5)) → wM p l e (wR 3) s m args below meth c 0 0 (wE below args s D dA b0 ad S0 F) 6 D dA b0 ad S0 300 [some (.ref 188), some (.int v1), some (.int n2), some (.int v3), none, some (.int n5)] [] h) : ∀ (n : Nat) (v2 : Int32) (v5 : Int32), wok (wit (fun v : (Int32 × Int32) => fX11_worked_l268 h v1 v3 v.1 v.2) n (v2, v5)) KE → wM p l e (wR 3) s m args below meth c 0 0 (wE below args s D dA b0 ad S0 F) 6 D dA b0 ad S0 268 [some (.ref 188), some (.int v1), some (.int v2), some (.int v3), none, some (.int v5)] [] h := by
  have key := wit_M (b := (fun v : (Int32 × Int32) => fX11_worked_l268 h v1 v3 v.1 v.2)) (KE := KE) (G := fun v => wM p l e (wR 3) s m args below meth c 0 0 (wE below args s D dA b0 ad S0 F) 6 D dA b0 ad S0 268 [some (.ref 188), some (.int v1), some (.int v.1), some (.int v3), none, some (.int v.2)] [] h) (fun v K hN hE hf => pX11_worked_l268b X hr  (fun n2 n5 hz => hN (n2, n5) hz) (fun z0 z1 hz => hX0 z0 z1 (hE _ hz)) hf)
  exact fun n v2 v5 hf => key n (v2, v5) hf
set_option maxRecDepth 4000 in
theorem pX11_worked_b328_14 (X : wCx p s m args meth c RX11 cX11_worked 6 D dA b0 ad) (hr : meth.sig.returnType = (some .int)) {h : wSt} {v1 : Int32} {v2 : Int32} {v3 : Int32} {w1 : Int32} {w2 : Int32} {K : (Int32 × Int32 × wSt) ⊕ ((wSt)) → Prop} (hN : ∀ (n2 : Int32) (n3 : Int32) (nh : wSt), K (.inl (n2, n3, nh)) → wM p l e (wR 3) s m args below meth c 0 0 (wE below args s D dA b0 ad S0 F) 6 D dA b0 ad S0 14 [some (.ref 188), some (.int v1), some (.int n2), some (.int n3), none, none] [] nh) (hX0 : ∀ (nh : wSt), K (.inr nh) → wM p l e (wR 3) s m args below meth c 0 0 (wE below args s D dA b0 ad S0 F) 6 D dA b0 ad S0 335 [some (.ref 188), none, none, none, none, none] [] nh) (hf : wok (fX11_worked_b328_14 h v1 v2 v3 w1 w2) K) : wM p l e (wR 3) s m args below meth c 0 0 (wE below args s D dA b0 ad S0 F) 6 D dA b0 ad S0 328 [some (.ref 188), some (.int v1), some (.int v2), some (.int v3), none, none] [.int w2, .int w1, .ref 211] h := by
  unfold fX11_worked_b328_14 at hf
  obtain ⟨yhg45, hf⟩ := wok_g hf
  refine w_iast X dX11_worked_328 rfl (j := w1.toNatClampNeg) rfl S0_211 yhg45 ?_
  refine w_nmh (fun yh46 eyh46 => ?_)
  have hf := wok_l hf eyh46
  exact pX11_worked_b329_14 X hr  hN hX0 hf
set_option maxRecDepth 4000 in
theorem pX11_worked_b243_14 (X : wCx p s m args meth c RX11 cX11_worked 6 D dA b0 ad) (hr : meth.sig.returnType = (some .int)) {h : wSt} {v1 : Int32} {v2 : Int32} {v3 : Int32} {v4 : Int32} {w0 : Int32} {K : (Int32 × Int32 × wSt) ⊕ ((wSt)) → Prop} (hN : ∀ (n2 : Int32) (n3 : Int32) (nh : wSt), K (.inl (n2, n3, nh)) → wM p l e (wR 3) s m args below meth c 0 0 (wE below args s D dA b0 ad S0 F) 6 D dA b0 ad S0 14 [some (.ref 188), some (.int v1), some (.int n2), some (.int n3), none, none] [] nh) (hX0 : ∀ (nh : wSt), K (.inr nh) → wM p l e (wR 3) s m args below meth c 0 0 (wE below args s D dA b0 ad S0 F) 6 D dA b0 ad S0 335 [some (.ref 188), none, none, none, none, none] [] nh) (hf : wok (fX11_worked_b243_14 h v1 v2 v3 v4 w0) K) : wM p l e (wR 3) s m args below meth c 0 0 (wE below args s D dA b0 ad S0 F) 6 D dA b0 ad S0 243 [some (.ref 188), some (.int v1), some (.int v2), some (.int v3), some (.int v4), none] [.int w0] h := by
  unfold fX11_worked_b243_14 at hf
  refine w_istore X dX11_worked_243 rfl rfl (Nat.le_of_ble_eq_true rfl) (ls' := [some (.ref 188), some (.int v1), some (.int v2), some (.int v3), some (.int v4), some (.int w0)]) rfl ?_
  refine w_iload X dX11_worked_245 rfl rfl ?_
  refine w_bipush X dX11_worked_247 rfl cb_29 ?_
  refine w_icmp_ne X dX11_worked_249 rfl (t := 268) rfl (fun hc => ?_) (fun hc => ?_)
  · have hf := wok_f hf hc
    refine w_fg (ls2 := [some (.ref 188), some (.int v1), some (.int v2), some (.int v3), none, some (.int w0)]) ⟨rfl, rfl, rfl, rfl, rfl, trivial⟩ ?_
    obtain ⟨ye41, hye41, hf⟩ := wok_b hf
    refine pX11_worked_l268 X hr  (KE := fun z => ye41 = z) ?_ 3000 _ _ ⟨ye41, hye41, rfl⟩
    · intro yz42 yz43 hz
      subst hz
      refine w_aload_n X dX11_worked_300 rfl rfl rfl ?_
      refine w_getR X dX11_worked_301 rfl fl_X11_78 S0_188 rfl ?_
      refine w_iload_n X dX11_worked_304 rfl rfl rfl ?_
      refine w_aload_n X dX11_worked_305 rfl rfl rfl ?_
      refine w_getR X dX11_worked_306 rfl fl_X11_81 S0_188 rfl ?_
      refine w_iload_n X dX11_worked_309 rfl rfl rfl ?_
      obtain ⟨yhg44, hf⟩ := wok_g hf
      refine w_iald X dX11_worked_310 rfl (j := yz42.toNatClampNeg) rfl S0_212 yhg44 ?_
      refine w_if_ne X dX11_worked_311 rfl (t := 319) rfl (fun hc => ?_) (fun hc => ?_)
      · have hf := wok_f hf hc
        refine w_aload_n X dX11_worked_319 rfl rfl rfl ?_
        refine w_getR X dX11_worked_320 rfl fl_X11_78 S0_188 rfl ?_
        refine w_iload_n X dX11_worked_323 rfl rfl rfl ?_
        refine w_iald X dX11_worked_324 rfl (j := yz42.toNatClampNeg) rfl S0_211 yhg44 ?_
        refine w_iload X dX11_worked_325 rfl rfl ?_
        refine w_imul X dX11_worked_327 rfl ?_
        refine w_fg (ls2 := [some (.ref 188), some (.int v1), some (.int yz42), some (.int v3), none, none]) ⟨rfl, rfl, rfl, rfl, trivial⟩ ?_
        exact pX11_worked_b328_14 X hr  hN hX0 hf
      · have hf := wok_t hf hc
        refine w_iload X dX11_worked_314 rfl rfl ?_
        refine w_goto X dX11_worked_316 (t := 328) rfl ?_
        refine w_fg (ls2 := [some (.ref 188), some (.int v1), some (.int yz42), some (.int v3), none, none]) ⟨rfl, rfl, rfl, rfl, trivial⟩ ?_
        exact pX11_worked_b328_14 X hr  hN hX0 hf
  · have hf := wok_t hf hc
    refine w_aload_n X dX11_worked_252 rfl rfl rfl ?_
    refine w_iload_n X dX11_worked_253 rfl rfl rfl ?_
    obtain ⟨yr47, eyr47, hf⟩ := wok_b hf
    refine w_callV X dX11_worked_254 rfl vl_X11_228 (kX11_tests l  eyr47) S0_188 (As := [.int v2]) (st := []) rfl rfl (Nat.le_of_ble_eq_true rfl) ⟨Nat.le_of_ble_eq_true rfl, Nat.le_of_ble_eq_true rfl⟩ ⟨Nat.zero_le _, Nat.zero_le _⟩ (fun r h2 hF => ?_)
    obtain ⟨rfl, rfl⟩ := hF
    show wM p l e (wR 3) s m args below meth c 0 0 (wE below args s D dA b0 ad S0 F) 6 D dA b0 ad S0 257 [some (.ref 188), some (.int v1), some (.int v2), some (.int v3), some (.int v4), some (.int w0)] [] yr47
    refine w_aload_n X dX11_worked_257 rfl rfl rfl ?_
    refine w_getR X dX11_worked_258 rfl fl_X11_60 S0_188 rfl ?_
    refine w_iload_n X dX11_worked_261 rfl rfl rfl ?_
    obtain ⟨yhg48, hf⟩ := wok_g hf
    refine w_iald X dX11_worked_262 rfl (j := v2.toNatClampNeg) rfl S0_205 yhg48 ?_
    refine w_istore X dX11_worked_263 rfl rfl (Nat.le_of_ble_eq_true rfl) (ls' := [some (.ref 188), some (.int v1), some (.int v2), some (.int v3), some (.int v4), some (.int (yr47.1 205 v2.toNatClampNeg))]) rfl ?_
    refine w_iinc X dX11_worked_265 rfl (v := (v2 + (-1))) rfl rfl (Nat.le_of_ble_eq_true rfl) (cinc_m1 _) (ls' := [some (.ref 188), some (.int v1), some (.int (v2 + (-1))), some (.int v3), some (.int v4), some (.int (yr47.1 205 v2.toNatClampNeg))]) rfl ?_
    refine w_fg (ls2 := [some (.ref 188), some (.int v1), some (.int (v2 + (-1))), some (.int v3), none, some (.int (yr47.1 205 v2.toNatClampNeg))]) ⟨rfl, rfl, rfl, rfl, rfl, trivial⟩ ?_
    obtain ⟨ye49, hye49, hf⟩ := wok_b hf
    refine pX11_worked_l268 X hr  (KE := fun z => ye49 = z) ?_ 3000 _ _ ⟨ye49, hye49, rfl⟩
    · intro yz50 yz51 hz
      subst hz
      refine w_aload_n X dX11_worked_300 rfl rfl rfl ?_
      refine w_getR X dX11_worked_301 rfl fl_X11_78 S0_188 rfl ?_
      refine w_iload_n X dX11_worked_304 rfl rfl rfl ?_
      refine w_aload_n X dX11_worked_305 rfl rfl rfl ?_
      refine w_getR X dX11_worked_306 rfl fl_X11_81 S0_188 rfl ?_
      refine w_iload_n X dX11_worked_309 rfl rfl rfl ?_
      obtain ⟨yhg52, hf⟩ := wok_g hf
      refine w_iald X dX11_worked_310 rfl (j := yz50.toNatClampNeg) rfl S0_212 yhg52 ?_
      refine w_if_ne X dX11_worked_311 rfl (t := 319) rfl (fun hc => ?_) (fun hc => ?_)
      · have hf := wok_f hf hc
        refine w_aload_n X dX11_worked_319 rfl rfl rfl ?_
        refine w_getR X dX11_worked_320 rfl fl_X11_78 S0_188 rfl ?_
        refine w_iload_n X dX11_worked_323 rfl rfl rfl ?_
        refine w_iald X dX11_worked_324 rfl (j := yz50.toNatClampNeg) rfl S0_211 yhg52 ?_
        refine w_iload X dX11_worked_325 rfl rfl ?_
        refine w_imul X dX11_worked_327 rfl ?_
        refine w_fg (ls2 := [some (.ref 188), some (.int v1), some (.int yz50), some (.int v3), none, none]) ⟨rfl, rfl, rfl, rfl, trivial⟩ ?_
        exact pX11_worked_b328_14 X hr  hN hX0 hf
      · have hf := wok_t hf hc
        refine w_iload X dX11_worked_314 rfl rfl ?_
        refine w_goto X dX11_worked_316 (t := 328) rfl ?_
        refine w_fg (ls2 := [some (.ref 188), some (.int v1), some (.int yz50), some (.int v3), none, none]) ⟨rfl, rfl, rfl, rfl, trivial⟩ ?_
        exact pX11_worked_b328_14 X hr  hN hX0 hf
set_option maxRecDepth 4000 in
theorem pX11_worked_l14b (X : wCx p s m args meth c RX11 cX11_worked 6 D dA b0 ad) (hr : meth.sig.returnType = (some .int)) {h : wSt} {v1 : Int32} {v2 : Int32} {v3 : Int32} {K : (Int32 × Int32 × wSt) ⊕ ((wSt)) → Prop} (hN : ∀ (n2 : Int32) (n3 : Int32) (nh : wSt), K (.inl (n2, n3, nh)) → wM p l e (wR 3) s m args below meth c 0 0 (wE below args s D dA b0 ad S0 F) 6 D dA b0 ad S0 14 [some (.ref 188), some (.int v1), some (.int n2), some (.int n3), none, none] [] nh) (hX0 : ∀ (nh : wSt), K (.inr nh) → wM p l e (wR 3) s m args below meth c 0 0 (wE below args s D dA b0 ad S0 F) 6 D dA b0 ad S0 335 [some (.ref 188), none, none, none, none, none] [] nh) (hf : wok (fX11_worked_l14 h v1 v2 v3) K) : wM p l e (wR 3) s m args below meth c 0 0 (wE below args s D dA b0 ad S0 F) 6 D dA b0 ad S0 14 [some (.ref 188), some (.int v1), some (.int v2), some (.int v3), none, none] [] h := by
  unfold fX11_worked_l14 at hf
  refine w_iload_n X dX11_worked_14 rfl rfl rfl ?_
  refine w_aload_n X dX11_worked_15 rfl rfl rfl ?_
  refine w_getR X dX11_worked_16 rfl fl_X11_47 S0_188 rfl ?_
  refine w_iload_n X dX11_worked_19 rfl rfl rfl ?_
  obtain ⟨yhg23, hf⟩ := wok_g hf
  refine w_iald X dX11_worked_20 rfl (j := v1.toNatClampNeg) rfl S0_201 yhg23 ?_
  refine w_icmp_ge X dX11_worked_21 rfl (t := 335) rfl (fun hc => ?_) (fun hc => ?_)
  · have hf := wok_t hf hc
    refine w_fg (ls2 := [some (.ref 188), none, none, none, none, none]) ⟨rfl, trivial⟩ ?_
    exact hX0 _ (wok_s hf)
  · have hf := wok_f hf hc
    refine w_aload_n X dX11_worked_24 rfl rfl rfl ?_
    refine w_getR X dX11_worked_25 rfl fl_X11_50 S0_188 rfl ?_
    refine w_iload_n X dX11_worked_28 rfl rfl rfl ?_
    obtain ⟨yhg24, hf⟩ := wok_g hf
    refine w_iald X dX11_worked_29 rfl (j := v3.toNatClampNeg) rfl S0_202 yhg24 ?_
    refine w_istore X dX11_worked_30 rfl rfl (Nat.le_of_ble_eq_true rfl) (ls' := [some (.ref 188), some (.int v1), some (.int v2), some (.int v3), some (.int (h.1 202 v3.toNatClampNeg)), none]) rfl ?_
    refine w_iload X dX11_worked_32 rfl rfl ?_
    refine w_bipush X dX11_worked_34 rfl cb_28 ?_
    refine w_icmp_eq X dX11_worked_36 rfl (t := 46) rfl (fun hc => ?_) (fun hc => ?_)
    · have hf := wok_t hf hc
      exact pX11_worked_b46_14 X hr  hN hX0 hf
    · have hf := wok_f hf hc
      refine w_iload X dX11_worked_39 rfl rfl ?_
      refine w_bipush X dX11_worked_41 rfl cb_30 ?_
      refine w_icmp_ne X dX11_worked_43 rfl (t := 75) rfl (fun hc => ?_) (fun hc => ?_)
      · have hf := wok_f hf hc
        refine w_iload X dX11_worked_75 rfl rfl ?_
        refine w_bipush X dX11_worked_77 rfl cb_20 ?_
        refine w_icmp_eq X dX11_worked_79 rfl (t := 89) rfl (fun hc => ?_) (fun hc => ?_)
        · have hf := wok_t hf hc
          exact pX11_worked_b89_14 X hr  hN hX0 hf
        · have hf := wok_f hf hc
          refine w_iload X dX11_worked_82 rfl rfl ?_
          refine w_bipush X dX11_worked_84 rfl cb_21 ?_
          refine w_icmp_ne X dX11_worked_86 rfl (t := 105) rfl (fun hc => ?_) (fun hc => ?_)
          · have hf := wok_f hf hc
            refine w_iload X dX11_worked_105 rfl rfl ?_
            refine w_bipush X dX11_worked_107 rfl cb_22 ?_
            refine w_icmp_ne X dX11_worked_109 rfl (t := 123) rfl (fun hc => ?_) (fun hc => ?_)
            · have hf := wok_f hf hc
              refine w_iload X dX11_worked_123 rfl rfl ?_
              refine w_bipush X dX11_worked_125 rfl cb_24 ?_
              refine w_icmp_eq X dX11_worked_127 rfl (t := 137) rfl (fun hc => ?_) (fun hc => ?_)
              · have hf := wok_t hf hc
                exact pX11_worked_b137_14 X hr  hN hX0 hf
              · have hf := wok_f hf hc
                refine w_iload X dX11_worked_130 rfl rfl ?_
                refine w_bipush X dX11_worked_132 rfl cb_25 ?_
                refine w_icmp_ne X dX11_worked_134 rfl (t := 180) rfl (fun hc => ?_) (fun hc => ?_)
                · have hf := wok_f hf hc
                  refine w_iload X dX11_worked_180 rfl rfl ?_
                  refine w_bipush X dX11_worked_182 rfl cb_26 ?_
                  refine w_icmp_eq X dX11_worked_184 rfl (t := 194) rfl (fun hc => ?_) (fun hc => ?_)
                  · have hf := wok_t hf hc
                    exact pX11_worked_b194_14 X hr  hN hX0 hf
                  · have hf := wok_f hf hc
                    refine w_iload X dX11_worked_187 rfl rfl ?_
                    refine w_bipush X dX11_worked_189 rfl cb_27 ?_
                    refine w_icmp_ne X dX11_worked_191 rfl (t := 210) rfl (fun hc => ?_) (fun hc => ?_)
                    · have hf := wok_f hf hc
                      refine w_iload X dX11_worked_210 rfl rfl ?_
                      refine w_bipush X dX11_worked_212 rfl cb_100 ?_
                      refine w_icmp_lt X dX11_worked_214 rfl (t := 225) rfl (fun hc => ?_) (fun hc => ?_)
                      · have hf := wok_t hf hc
                        refine w_iload X dX11_worked_225 rfl rfl ?_
                        refine w_bipush X dX11_worked_227 rfl cb_20 ?_
                        refine w_icmp_ge X dX11_worked_229 rfl (t := 242) rfl (fun hc => ?_) (fun hc => ?_)
                        · have hf := wok_t hf hc
                          refine w_iconst X dX11_worked_242 rfl ci_0 ?_
                          exact pX11_worked_b243_14 X hr  hN hX0 hf
                        · have hf := wok_f hf hc
                          refine w_aload_n X dX11_worked_232 rfl rfl rfl ?_
                          refine w_getR X dX11_worked_233 rfl fl_X11_87 S0_188 rfl ?_
                          refine w_iload X dX11_worked_236 rfl rfl ?_
                          obtain ⟨yhg53, hf⟩ := wok_g hf
                          refine w_iald X dX11_worked_238 rfl (j := (h.1 202 v3.toNatClampNeg).toNatClampNeg) rfl S0_214 yhg53 ?_
                          refine w_goto X dX11_worked_239 (t := 243) rfl ?_
                          exact pX11_worked_b243_14 X hr  hN hX0 hf
                      · have hf := wok_f hf hc
                        refine w_iload X dX11_worked_217 rfl rfl ?_
                        refine w_bipush X dX11_worked_219 rfl cb_100 ?_
                        refine w_isub X dX11_worked_221 rfl ?_
                        refine w_goto X dX11_worked_222 (t := 243) rfl ?_
                        exact pX11_worked_b243_14 X hr  hN hX0 hf
                    · have hf := wok_t hf hc
                      exact pX11_worked_b194_14 X hr  hN hX0 hf
                · have hf := wok_t hf hc
                  exact pX11_worked_b137_14 X hr  hN hX0 hf
            · have hf := wok_t hf hc
              refine w_aload_n X dX11_worked_112 rfl rfl rfl ?_
              refine w_getR X dX11_worked_113 rfl fl_X11_81 S0_188 rfl ?_
              refine w_iload_n X dX11_worked_116 rfl rfl rfl ?_
              refine w_iload X dX11_worked_117 rfl rfl ?_
              obtain ⟨yhg54, hf⟩ := wok_g hf
              refine w_iast X dX11_worked_119 rfl (j := v2.toNatClampNeg) rfl S0_212 yhg54 ?_
              refine w_nmh (fun yh55 eyh55 => ?_)
              have hf := wok_l hf eyh55
              refine w_goto X dX11_worked_120 (t := 329) rfl ?_
              refine w_fg (ls2 := [some (.ref 188), some (.int v1), some (.int v2), some (.int v3), none, none]) ⟨rfl, rfl, rfl, rfl, trivial⟩ ?_
              exact pX11_worked_b329_14 X hr  hN hX0 hf
          · have hf := wok_t hf hc
            exact pX11_worked_b89_14 X hr  hN hX0 hf
      · have hf := wok_t hf hc
        exact pX11_worked_b46_14 X hr  hN hX0 hf
set_option maxRecDepth 4000 in
theorem pX11_worked_l14 (X : wCx p s m args meth c RX11 cX11_worked 6 D dA b0 ad) (hr : meth.sig.returnType = (some .int))  {v1 : Int32} {KE : (wSt) → Prop} (hX0 : ∀ (nh : wSt), KE (nh) → wM p l e (wR 3) s m args below meth c 0 0 (wE below args s D dA b0 ad S0 F) 6 D dA b0 ad S0 335 [some (.ref 188), none, none, none, none, none] [] nh) : ∀ (n : Nat) (v2 : Int32) (v3 : Int32) (h : wSt), wok (wit (fun v : (Int32 × Int32 × wSt) => fX11_worked_l14 v.2.2 v1 v.1 v.2.1) n (v2, v3, h)) KE → wM p l e (wR 3) s m args below meth c 0 0 (wE below args s D dA b0 ad S0 F) 6 D dA b0 ad S0 14 [some (.ref 188), some (.int v1), some (.int v2), some (.int v3), none, none] [] h := by
  have key := wit_M (b := (fun v : (Int32 × Int32 × wSt) => fX11_worked_l14 v.2.2 v1 v.1 v.2.1)) (KE := KE) (G := fun v => wM p l e (wR 3) s m args below meth c 0 0 (wE below args s D dA b0 ad S0 F) 6 D dA b0 ad S0 14 [some (.ref 188), some (.int v1), some (.int v.1), some (.int v.2.1), none, none] [] v.2.2) (fun v K hN hE hf => pX11_worked_l14b X hr  (fun n2 n3 nh hz => hN (n2, n3, nh) hz) (fun z0 hz => hX0 z0 (hE _ hz)) hf)
  exact fun n v2 v3 h hf => key n (v2, v3, h) hf
set_option maxRecDepth 4000 in
theorem pX11_worked_b0 (X : wCx p s m args meth c RX11 cX11_worked 6 D dA b0 ad) (hr : meth.sig.returnType = (some .int)) {h : wSt} {x0 : Int32} {K : Int32 × wSt → Prop} (hT : ∀ (x : Int32) (h2 : wSt), K (x, h2) → F (some (.int x)) h2) (hf : wok (fX11_worked h x0) K) : wM p l e (wR 3) s m args below meth c 0 0 (wE below args s D dA b0 ad S0 F) 6 D dA b0 ad S0 0 [some (.ref 188), some (.int x0), none, none, none, none] [] h := by
  unfold fX11_worked at hf
  refine w_iconst X dX11_worked_0 rfl ci_0 ?_
  refine w_istore_n X dX11_worked_1 rfl rfl rfl (Nat.le_of_ble_eq_true rfl) (ls' := [some (.ref 188), some (.int x0), some (.int 0), none, none, none]) rfl ?_
  refine w_aload_n X dX11_worked_2 rfl rfl rfl ?_
  refine w_iconst X dX11_worked_3 rfl ci_0 ?_
  obtain ⟨yr21, eyr21, hf⟩ := wok_b hf
  refine w_callV X dX11_worked_4 rfl vl_X11_225 (kX11_opens l  eyr21) S0_188 (As := [.int 0]) (st := []) rfl rfl (Nat.le_of_ble_eq_true rfl) ⟨Nat.le_of_ble_eq_true rfl, Nat.le_of_ble_eq_true rfl⟩ ⟨Nat.zero_le _, Nat.zero_le _⟩ (fun r h2 hF => ?_)
  obtain ⟨rfl, rfl⟩ := hF
  show wM p l e (wR 3) s m args below meth c 0 0 (wE below args s D dA b0 ad S0 F) 6 D dA b0 ad S0 7 [some (.ref 188), some (.int x0), some (.int 0), none, none, none] [] yr21
  refine w_aload_n X dX11_worked_7 rfl rfl rfl ?_
  refine w_getR X dX11_worked_8 rfl fl_X11_44 S0_188 rfl ?_
  refine w_iload_n X dX11_worked_11 rfl rfl rfl ?_
  obtain ⟨yhg22, hf⟩ := wok_g hf
  refine w_iald X dX11_worked_12 rfl (j := x0.toNatClampNeg) rfl S0_200 yhg22 ?_
  refine w_istore_n X dX11_worked_13 rfl rfl rfl (Nat.le_of_ble_eq_true rfl) (ls' := [some (.ref 188), some (.int x0), some (.int 0), some (.int (yr21.1 200 x0.toNatClampNeg)), none, none]) rfl ?_
  obtain ⟨ye56, hye56, hf⟩ := wok_b hf
  refine pX11_worked_l14 X hr  (KE := fun z => ye56 = z) ?_ 3000 _ _ _ ⟨ye56, hye56, rfl⟩
  · intro yz57 hz
    subst hz
    refine w_aload_n X dX11_worked_335 rfl rfl rfl ?_
    refine w_iconst X dX11_worked_336 rfl ci_0 ?_
    obtain ⟨yr58, eyr58, hf⟩ := wok_b hf
    refine w_callV X dX11_worked_337 rfl vl_X11_228 (kX11_tests l  eyr58) S0_188 (As := [.int 0]) (st := []) rfl rfl (Nat.le_of_ble_eq_true rfl) ⟨Nat.le_of_ble_eq_true rfl, Nat.le_of_ble_eq_true rfl⟩ ⟨Nat.zero_le _, Nat.zero_le _⟩ (fun r h2 hF => ?_)
    obtain ⟨rfl, rfl⟩ := hF
    show wM p l e (wR 3) s m args below meth c 0 0 (wE below args s D dA b0 ad S0 F) 6 D dA b0 ad S0 340 [some (.ref 188), none, none, none, none, none] [] yr58
    refine w_aload_n X dX11_worked_340 rfl rfl rfl ?_
    refine w_getR X dX11_worked_341 rfl fl_X11_60 S0_188 rfl ?_
    refine w_iconst X dX11_worked_344 rfl ci_0 ?_
    refine w_iald X dX11_worked_345 rfl (j := 0) cn_0 S0_205 (show wib 0 7 by decide) ?_
    exact w_iret X dX11_worked_346 hr (hT _ _ (wok_s hf))
set_option maxRecDepth 4000 in
theorem kX11_worked (l : Launch) {h : wSt} {x0 : Int32} {res : Int32 × wSt} (hf : fX11_worked h x0 = some res) : wC l yX11_worked cX11_worked 6 (some .int) 3 S0 [.ref 188, .int x0] h (wFI (fun a b => res.1 = a ∧ res.2 = b)) := by
  refine w_meth2 4 (by decide) (Nat.le_of_ble_eq_true rfl) (ls := [some (.ref 188), some (.int x0), none, none, none, none]) rfl ?_
  intro p e s m args below meth c D dA b0 ad X hr
  exact pX11_worked_b0 X hr  (K := fun z => res = z) (fun x h2 hz => ⟨x, rfl, by rw [hz], by rw [hz]⟩) ⟨res, hf, rfl⟩
set_option maxRecDepth 4000 in
theorem pX11_isKept_b230 (X : wCx p s m args meth c RX11 cX11_isKept 1 D dA b0 ad) (hr : meth.sig.returnType = (some .boolean)) {h : wSt} {K : Bool → Prop} (hT : ∀ (x : Bool), K x → F (some (.int (wb x))) h)  (hf : wok (fX11_isKept_b230 h ) K) : wM p l e (wR 1) s m args below meth c 0 0 (wE below args s D dA b0 ad S0 F) 1 D dA b0 ad S0 230 [none] [] h := by
  unfold fX11_isKept_b230 at hf
  refine w_iconst X dX11_isKept_230 rfl ci_1 ?_
  refine w_goto X dX11_isKept_231 (t := 235) rfl ?_
  exact w_zret X dX11_isKept_235 hr rfl (hT true (wok_s hf))
set_option maxRecDepth 4000 in
theorem pX11_isKept_b0 (X : wCx p s m args meth c RX11 cX11_isKept 1 D dA b0 ad) (hr : meth.sig.returnType = (some .boolean)) {h : wSt} {K : Bool → Prop} (hT : ∀ (x : Bool), K x → F (some (.int (wb x))) h) (hf : wok (fX11_isKept h ) K) : wM p l e (wR 1) s m args below meth c 0 0 (wE below args s D dA b0 ad S0 F) 1 D dA b0 ad S0 0 [some (.ref 188)] [] h := by
  unfold fX11_isKept at hf
  refine w_aload_n X dX11_isKept_0 rfl rfl rfl ?_
  refine w_getI X dX11_isKept_1 rfl fl_X11_169 S0_188 rfl ?_
  refine w_iconst X dX11_isKept_4 rfl ci_1 ?_
  refine w_icmp_eq X dX11_isKept_5 rfl (t := 10) rfl (fun hc => ?_) (fun hc => ?_)
  · have hf := wok_t hf hc
    refine w_aload_n X dX11_isKept_10 rfl rfl rfl ?_
    refine w_getJ X dX11_isKept_11 rfl fl_X11_162 S0_188 rfl ?_
    refine w_ldc2 X dX11_isKept_14 rfl wd_1384 ?_
    refine w_lcmp_eq X dX11_isKept_17 dX11_isKept_18 rfl (t := 230) rfl (fun hc => ?_) (fun hc => ?_)
    · have hf := wok_t hf hc
      refine w_fg (ls2 := [none]) trivial ?_
      exact pX11_isKept_b230 X hr  hT hf
    · have hf := wok_f hf hc
      refine w_aload_n X dX11_isKept_21 rfl rfl rfl ?_
      refine w_getJ X dX11_isKept_22 rfl fl_X11_162 S0_188 rfl ?_
      refine w_ldc2 X dX11_isKept_25 rfl wd_1405 ?_
      refine w_lcmp_eq X dX11_isKept_28 dX11_isKept_29 rfl (t := 230) rfl (fun hc => ?_) (fun hc => ?_)
      · have hf := wok_t hf hc
        refine w_fg (ls2 := [none]) trivial ?_
        exact pX11_isKept_b230 X hr  hT hf
      · have hf := wok_f hf hc
        refine w_aload_n X dX11_isKept_32 rfl rfl rfl ?_
        refine w_getJ X dX11_isKept_33 rfl fl_X11_162 S0_188 rfl ?_
        refine w_ldc2 X dX11_isKept_36 rfl wd_1406 ?_
        refine w_lcmp_eq X dX11_isKept_39 dX11_isKept_40 rfl (t := 230) rfl (fun hc => ?_) (fun hc => ?_)
        · have hf := wok_t hf hc
          refine w_fg (ls2 := [none]) trivial ?_
          exact pX11_isKept_b230 X hr  hT hf
        · have hf := wok_f hf hc
          refine w_aload_n X dX11_isKept_43 rfl rfl rfl ?_
          refine w_getJ X dX11_isKept_44 rfl fl_X11_162 S0_188 rfl ?_
          refine w_ldc2 X dX11_isKept_47 rfl wd_1407 ?_
          refine w_lcmp_eq X dX11_isKept_50 dX11_isKept_51 rfl (t := 230) rfl (fun hc => ?_) (fun hc => ?_)
          · have hf := wok_t hf hc
            refine w_fg (ls2 := [none]) trivial ?_
            exact pX11_isKept_b230 X hr  hT hf
          · have hf := wok_f hf hc
            refine w_aload_n X dX11_isKept_54 rfl rfl rfl ?_
            refine w_getJ X dX11_isKept_55 rfl fl_X11_162 S0_188 rfl ?_
            refine w_ldc2 X dX11_isKept_58 rfl wd_1408 ?_
            refine w_lcmp_eq X dX11_isKept_61 dX11_isKept_62 rfl (t := 230) rfl (fun hc => ?_) (fun hc => ?_)
            · have hf := wok_t hf hc
              refine w_fg (ls2 := [none]) trivial ?_
              exact pX11_isKept_b230 X hr  hT hf
            · have hf := wok_f hf hc
              refine w_aload_n X dX11_isKept_65 rfl rfl rfl ?_
              refine w_getJ X dX11_isKept_66 rfl fl_X11_162 S0_188 rfl ?_
              refine w_ldc2 X dX11_isKept_69 rfl wd_1409 ?_
              refine w_lcmp_eq X dX11_isKept_72 dX11_isKept_73 rfl (t := 230) rfl (fun hc => ?_) (fun hc => ?_)
              · have hf := wok_t hf hc
                refine w_fg (ls2 := [none]) trivial ?_
                exact pX11_isKept_b230 X hr  hT hf
              · have hf := wok_f hf hc
                refine w_aload_n X dX11_isKept_76 rfl rfl rfl ?_
                refine w_getJ X dX11_isKept_77 rfl fl_X11_162 S0_188 rfl ?_
                refine w_ldc2 X dX11_isKept_80 rfl wd_1410 ?_
                refine w_lcmp_eq X dX11_isKept_83 dX11_isKept_84 rfl (t := 230) rfl (fun hc => ?_) (fun hc => ?_)
                · have hf := wok_t hf hc
                  refine w_fg (ls2 := [none]) trivial ?_
                  exact pX11_isKept_b230 X hr  hT hf
                · have hf := wok_f hf hc
                  refine w_aload_n X dX11_isKept_87 rfl rfl rfl ?_
                  refine w_getJ X dX11_isKept_88 rfl fl_X11_162 S0_188 rfl ?_
                  refine w_ldc2 X dX11_isKept_91 rfl wd_1411 ?_
                  refine w_lcmp_eq X dX11_isKept_94 dX11_isKept_95 rfl (t := 230) rfl (fun hc => ?_) (fun hc => ?_)
                  · have hf := wok_t hf hc
                    refine w_fg (ls2 := [none]) trivial ?_
                    exact pX11_isKept_b230 X hr  hT hf
                  · have hf := wok_f hf hc
                    refine w_aload_n X dX11_isKept_98 rfl rfl rfl ?_
                    refine w_getJ X dX11_isKept_99 rfl fl_X11_162 S0_188 rfl ?_
                    refine w_ldc2 X dX11_isKept_102 rfl wd_1412 ?_
                    refine w_lcmp_eq X dX11_isKept_105 dX11_isKept_106 rfl (t := 230) rfl (fun hc => ?_) (fun hc => ?_)
                    · have hf := wok_t hf hc
                      refine w_fg (ls2 := [none]) trivial ?_
                      exact pX11_isKept_b230 X hr  hT hf
                    · have hf := wok_f hf hc
                      refine w_aload_n X dX11_isKept_109 rfl rfl rfl ?_
                      refine w_getJ X dX11_isKept_110 rfl fl_X11_162 S0_188 rfl ?_
                      refine w_ldc2 X dX11_isKept_113 rfl wd_1413 ?_
                      refine w_lcmp_eq X dX11_isKept_116 dX11_isKept_117 rfl (t := 230) rfl (fun hc => ?_) (fun hc => ?_)
                      · have hf := wok_t hf hc
                        refine w_fg (ls2 := [none]) trivial ?_
                        exact pX11_isKept_b230 X hr  hT hf
                      · have hf := wok_f hf hc
                        refine w_aload_n X dX11_isKept_120 rfl rfl rfl ?_
                        refine w_getJ X dX11_isKept_121 rfl fl_X11_162 S0_188 rfl ?_
                        refine w_ldc2 X dX11_isKept_124 rfl wd_1414 ?_
                        refine w_lcmp_eq X dX11_isKept_127 dX11_isKept_128 rfl (t := 230) rfl (fun hc => ?_) (fun hc => ?_)
                        · have hf := wok_t hf hc
                          refine w_fg (ls2 := [none]) trivial ?_
                          exact pX11_isKept_b230 X hr  hT hf
                        · have hf := wok_f hf hc
                          refine w_aload_n X dX11_isKept_131 rfl rfl rfl ?_
                          refine w_getJ X dX11_isKept_132 rfl fl_X11_162 S0_188 rfl ?_
                          refine w_ldc2 X dX11_isKept_135 rfl wd_1415 ?_
                          refine w_lcmp_eq X dX11_isKept_138 dX11_isKept_139 rfl (t := 230) rfl (fun hc => ?_) (fun hc => ?_)
                          · have hf := wok_t hf hc
                            refine w_fg (ls2 := [none]) trivial ?_
                            exact pX11_isKept_b230 X hr  hT hf
                          · have hf := wok_f hf hc
                            refine w_aload_n X dX11_isKept_142 rfl rfl rfl ?_
                            refine w_getJ X dX11_isKept_143 rfl fl_X11_162 S0_188 rfl ?_
                            refine w_ldc2 X dX11_isKept_146 rfl wd_1416 ?_
                            refine w_lcmp_eq X dX11_isKept_149 dX11_isKept_150 rfl (t := 230) rfl (fun hc => ?_) (fun hc => ?_)
                            · have hf := wok_t hf hc
                              refine w_fg (ls2 := [none]) trivial ?_
                              exact pX11_isKept_b230 X hr  hT hf
                            · have hf := wok_f hf hc
                              refine w_aload_n X dX11_isKept_153 rfl rfl rfl ?_
                              refine w_getJ X dX11_isKept_154 rfl fl_X11_162 S0_188 rfl ?_
                              refine w_ldc2 X dX11_isKept_157 rfl wd_1417 ?_
                              refine w_lcmp_eq X dX11_isKept_160 dX11_isKept_161 rfl (t := 230) rfl (fun hc => ?_) (fun hc => ?_)
                              · have hf := wok_t hf hc
                                refine w_fg (ls2 := [none]) trivial ?_
                                exact pX11_isKept_b230 X hr  hT hf
                              · have hf := wok_f hf hc
                                refine w_aload_n X dX11_isKept_164 rfl rfl rfl ?_
                                refine w_getJ X dX11_isKept_165 rfl fl_X11_162 S0_188 rfl ?_
                                refine w_ldc2 X dX11_isKept_168 rfl wd_1418 ?_
                                refine w_lcmp_eq X dX11_isKept_171 dX11_isKept_172 rfl (t := 230) rfl (fun hc => ?_) (fun hc => ?_)
                                · have hf := wok_t hf hc
                                  refine w_fg (ls2 := [none]) trivial ?_
                                  exact pX11_isKept_b230 X hr  hT hf
                                · have hf := wok_f hf hc
                                  refine w_aload_n X dX11_isKept_175 rfl rfl rfl ?_
                                  refine w_getJ X dX11_isKept_176 rfl fl_X11_162 S0_188 rfl ?_
                                  refine w_ldc2 X dX11_isKept_179 rfl wd_1419 ?_
                                  refine w_lcmp_eq X dX11_isKept_182 dX11_isKept_183 rfl (t := 230) rfl (fun hc => ?_) (fun hc => ?_)
                                  · have hf := wok_t hf hc
                                    refine w_fg (ls2 := [none]) trivial ?_
                                    exact pX11_isKept_b230 X hr  hT hf
                                  · have hf := wok_f hf hc
                                    refine w_aload_n X dX11_isKept_186 rfl rfl rfl ?_
                                    refine w_getJ X dX11_isKept_187 rfl fl_X11_162 S0_188 rfl ?_
                                    refine w_ldc2 X dX11_isKept_190 rfl wd_1420 ?_
                                    refine w_lcmp_eq X dX11_isKept_193 dX11_isKept_194 rfl (t := 230) rfl (fun hc => ?_) (fun hc => ?_)
                                    · have hf := wok_t hf hc
                                      refine w_fg (ls2 := [none]) trivial ?_
                                      exact pX11_isKept_b230 X hr  hT hf
                                    · have hf := wok_f hf hc
                                      refine w_aload_n X dX11_isKept_197 rfl rfl rfl ?_
                                      refine w_getJ X dX11_isKept_198 rfl fl_X11_162 S0_188 rfl ?_
                                      refine w_ldc2 X dX11_isKept_201 rfl wd_1421 ?_
                                      refine w_lcmp_eq X dX11_isKept_204 dX11_isKept_205 rfl (t := 230) rfl (fun hc => ?_) (fun hc => ?_)
                                      · have hf := wok_t hf hc
                                        refine w_fg (ls2 := [none]) trivial ?_
                                        exact pX11_isKept_b230 X hr  hT hf
                                      · have hf := wok_f hf hc
                                        refine w_aload_n X dX11_isKept_208 rfl rfl rfl ?_
                                        refine w_getJ X dX11_isKept_209 rfl fl_X11_162 S0_188 rfl ?_
                                        refine w_ldc2 X dX11_isKept_212 rfl wd_1422 ?_
                                        refine w_lcmp_eq X dX11_isKept_215 dX11_isKept_216 rfl (t := 230) rfl (fun hc => ?_) (fun hc => ?_)
                                        · have hf := wok_t hf hc
                                          refine w_fg (ls2 := [none]) trivial ?_
                                          exact pX11_isKept_b230 X hr  hT hf
                                        · have hf := wok_f hf hc
                                          refine w_aload_n X dX11_isKept_219 rfl rfl rfl ?_
                                          refine w_getJ X dX11_isKept_220 rfl fl_X11_162 S0_188 rfl ?_
                                          refine w_ldc2 X dX11_isKept_223 rfl wd_1423 ?_
                                          refine w_lcmp_ne X dX11_isKept_226 dX11_isKept_227 rfl (t := 234) rfl (fun hc => ?_) (fun hc => ?_)
                                          · have hf := wok_f hf hc
                                            refine w_iconst X dX11_isKept_234 rfl ci_0 ?_
                                            exact w_zret X dX11_isKept_235 hr rfl (hT false (wok_s hf))
                                          · have hf := wok_t hf hc
                                            refine w_fg (ls2 := [none]) trivial ?_
                                            exact pX11_isKept_b230 X hr  hT hf
  · have hf := wok_f hf hc
    refine w_iconst X dX11_isKept_8 rfl ci_1 ?_
    exact w_zret X dX11_isKept_9 hr rfl (hT true (wok_s hf))
set_option maxRecDepth 4000 in
theorem kX11_isKept (l : Launch) {h : wSt} {res : Bool} (hf : fX11_isKept h  = some res) : wC l yX11_isKept cX11_isKept 1 (some .boolean) 1 S0 [.ref 188] h (wFZ (fun a b => res = a ∧ h = b)) := by
  refine w_meth2 0 (by decide) (Nat.le_of_ble_eq_true rfl) (ls := [some (.ref 188)]) rfl ?_
  intro p e s m args below meth c D dA b0 ad X hr
  exact pX11_isKept_b0 X hr  (K := fun z => res = z) (fun x hz => ⟨x, rfl, hz, rfl⟩) ⟨res, hf, rfl⟩
set_option maxRecDepth 4000 in
theorem pX11_skinNamed_l4b (X : wCx p s m args meth c RX11 cX11_skinNamed 3 D dA b0 ad) (hr : meth.sig.returnType = (some .int)) {h : wSt} {v1 : Int32} {v2 : Int32} {K : (Int32) ⊕ ((Unit) ⊕ (Int32)) → Prop} (hN : ∀ (n2 : Int32), K (.inl n2) → wM p l e (wR 1) s m args below meth c 0 0 (wE below args s D dA b0 ad S0 F) 3 D dA b0 ad S0 4 [some (.ref 188), some (.int v1), some (.int n2)] [] h) (hX0 : K (.inr (.inl ())) → wM p l e (wR 1) s m args below meth c 0 0 (wE below args s D dA b0 ad S0 F) 3 D dA b0 ad S0 48 [none, none, none] [] h) (hT : ∀ (x : Int32), K (.inr (.inr x)) → F (some (.int x)) h) (hf : wok (fX11_skinNamed_l4 h v1 v2) K) : wM p l e (wR 1) s m args below meth c 0 0 (wE below args s D dA b0 ad S0 F) 3 D dA b0 ad S0 4 [some (.ref 188), some (.int v1), some (.int v2)] [] h := by
  unfold fX11_skinNamed_l4 at hf
  refine w_iload_n X dX11_skinNamed_4 rfl rfl rfl ?_
  refine w_iconst X dX11_skinNamed_5 rfl ci_3 ?_
  refine w_iload_n X dX11_skinNamed_6 rfl rfl rfl ?_
  refine w_imul X dX11_skinNamed_7 rfl ?_
  refine w_aload_n X dX11_skinNamed_8 rfl rfl rfl ?_
  refine w_getR X dX11_skinNamed_9 rfl fl_X11_13 S0_188 rfl ?_
  refine w_iconst X dX11_skinNamed_12 rfl ci_3 ?_
  refine w_iload_n X dX11_skinNamed_13 rfl rfl rfl ?_
  refine w_imul X dX11_skinNamed_14 rfl ?_
  refine w_iconst X dX11_skinNamed_15 rfl ci_0 ?_
  refine w_iadd X dX11_skinNamed_16 rfl ?_
  obtain ⟨yhg21, hf⟩ := wok_g hf
  refine w_iald X dX11_skinNamed_17 rfl (j := ((3 * v1) + 0).toNatClampNeg) rfl S0_190 yhg21 ?_
  refine w_iadd X dX11_skinNamed_18 rfl ?_
  refine w_icmp_ge X dX11_skinNamed_19 rfl (t := 48) rfl (fun hc => ?_) (fun hc => ?_)
  · have hf := wok_t hf hc
    refine w_fg (ls2 := [none, none, none]) trivial ?_
    exact hX0 (wok_s hf)
  · have hf := wok_f hf hc
    refine w_aload_n X dX11_skinNamed_22 rfl rfl rfl ?_
    refine w_getR X dX11_skinNamed_23 rfl fl_X11_16 S0_188 rfl ?_
    refine w_iload_n X dX11_skinNamed_26 rfl rfl rfl ?_
    obtain ⟨yhg22, hf⟩ := wok_g hf
    refine w_lald X dX11_skinNamed_27 rfl (j := v2.toNatClampNeg) rfl S0_191 yhg22 ?_
    refine w_aload_n X dX11_skinNamed_28 rfl rfl rfl ?_
    refine w_getJ X dX11_skinNamed_29 rfl fl_X11_162 S0_188 rfl ?_
    refine w_lcmp_ne X dX11_skinNamed_32 dX11_skinNamed_33 rfl (t := 42) rfl (fun hc => ?_) (fun hc => ?_)
    · have hf := wok_f hf hc
      refine w_iinc X dX11_skinNamed_42 rfl (v := (v2 + 1)) rfl rfl (Nat.le_of_ble_eq_true rfl) (cinc_1 _) (ls' := [some (.ref 188), some (.int v1), some (.int (v2 + 1))]) rfl ?_
      refine w_goto X dX11_skinNamed_45 (t := 4) rfl ?_
      exact hN _ (wok_s hf)
    · have hf := wok_t hf hc
      refine w_iload_n X dX11_skinNamed_36 rfl rfl rfl ?_
      refine w_iconst X dX11_skinNamed_37 rfl ci_3 ?_
      refine w_iload_n X dX11_skinNamed_38 rfl rfl rfl ?_
      refine w_imul X dX11_skinNamed_39 rfl ?_
      refine w_isub X dX11_skinNamed_40 rfl ?_
      exact w_iret X dX11_skinNamed_41 hr (hT _ (wok_s hf))
set_option maxRecDepth 4000 in
theorem pX11_skinNamed_l4 (X : wCx p s m args meth c RX11 cX11_skinNamed 3 D dA b0 ad) (hr : meth.sig.returnType = (some .int)) {h : wSt} {v1 : Int32} {KE : (Unit) ⊕ (Int32) → Prop} (hX0 : KE ((.inl ())) → wM p l e (wR 1) s m args below meth c 0 0 (wE below args s D dA b0 ad S0 F) 3 D dA b0 ad S0 48 [none, none, none] [] h) (hT : ∀ (x : Int32), KE ((.inr x)) → F (some (.int x)) h) : ∀ (n : Nat) (v2 : Int32), wok (wit (fun v : (Int32) => fX11_skinNamed_l4 h v1 v) n v2) KE → wM p l e (wR 1) s m args below meth c 0 0 (wE below args s D dA b0 ad S0 F) 3 D dA b0 ad S0 4 [some (.ref 188), some (.int v1), some (.int v2)] [] h := by
  have key := wit_M (b := (fun v : (Int32) => fX11_skinNamed_l4 h v1 v)) (KE := KE) (G := fun v => wM p l e (wR 1) s m args below meth c 0 0 (wE below args s D dA b0 ad S0 F) 3 D dA b0 ad S0 4 [some (.ref 188), some (.int v1), some (.int v)] [] h) (fun v K hN hE hf => pX11_skinNamed_l4b X hr  (fun n2 hz => hN n2 hz) (fun  hz => hX0  (hE _ hz)) (fun z0 hz => hT z0 (hE _ hz)) hf)
  exact fun n v2 hf => key n v2 hf
set_option maxRecDepth 4000 in
theorem pX11_skinNamed_b0 (X : wCx p s m args meth c RX11 cX11_skinNamed 3 D dA b0 ad) (hr : meth.sig.returnType = (some .int)) {h : wSt} {x0 : Int32} {K : Int32 → Prop} (hT : ∀ (x : Int32), K x → F (some (.int x)) h) (hf : wok (fX11_skinNamed h x0) K) : wM p l e (wR 1) s m args below meth c 0 0 (wE below args s D dA b0 ad S0 F) 3 D dA b0 ad S0 0 [some (.ref 188), some (.int x0), none] [] h := by
  unfold fX11_skinNamed at hf
  refine w_iconst X dX11_skinNamed_0 rfl ci_3 ?_
  refine w_iload_n X dX11_skinNamed_1 rfl rfl rfl ?_
  refine w_imul X dX11_skinNamed_2 rfl ?_
  refine w_istore_n X dX11_skinNamed_3 rfl rfl rfl (Nat.le_of_ble_eq_true rfl) (ls' := [some (.ref 188), some (.int x0), some (.int (3 * x0))]) rfl ?_
  obtain ⟨ye23, hye23, hf⟩ := wok_b hf
  refine pX11_skinNamed_l4 X hr  (KE := fun z => ye23 = z) ?_ ?_ 3000 _ ⟨ye23, hye23, rfl⟩
  · intro hz
    subst hz
    refine w_iconst X dX11_skinNamed_48 rfl ci_m1 ?_
    exact w_iret X dX11_skinNamed_49 hr (hT _ (wok_s hf))
  · intro z hz
    subst hz
    exact hT _ (wok_s hf)
set_option maxRecDepth 4000 in
theorem kX11_skinNamed (l : Launch) {h : wSt} {x0 : Int32} {res : Int32} (hf : fX11_skinNamed h x0 = some res) : wC l yX11_skinNamed cX11_skinNamed 3 (some .int) 1 S0 [.ref 188, .int x0] h (wFI (fun a b => res = a ∧ h = b)) := by
  refine w_meth2 1 (by decide) (Nat.le_of_ble_eq_true rfl) (ls := [some (.ref 188), some (.int x0), none]) rfl ?_
  intro p e s m args below meth c D dA b0 ad X hr
  exact pX11_skinNamed_b0 X hr  (K := fun z => res = z) (fun x hz => ⟨x, rfl, hz, rfl⟩) ⟨res, hf, rfl⟩
set_option maxRecDepth 4000 in
theorem pX11_textNamed_l5b (X : wCx p s m args meth c RX11 cX11_textNamed 3 D dA b0 ad) (hr : meth.sig.returnType = (some .int)) {h : wSt} {v1 : Int32} {v2 : Int32} {K : (Int32) ⊕ ((Unit) ⊕ (Int32)) → Prop} (hN : ∀ (n2 : Int32), K (.inl n2) → wM p l e (wR 1) s m args below meth c 0 0 (wE below args s D dA b0 ad S0 F) 3 D dA b0 ad S0 5 [some (.ref 188), some (.int v1), some (.int n2)] [] h) (hX0 : K (.inr (.inl ())) → wM p l e (wR 1) s m args below meth c 0 0 (wE below args s D dA b0 ad S0 F) 3 D dA b0 ad S0 51 [none, none, none] [] h) (hT : ∀ (x : Int32), K (.inr (.inr x)) → F (some (.int x)) h) (hf : wok (fX11_textNamed_l5 h v1 v2) K) : wM p l e (wR 1) s m args below meth c 0 0 (wE below args s D dA b0 ad S0 F) 3 D dA b0 ad S0 5 [some (.ref 188), some (.int v1), some (.int v2)] [] h := by
  unfold fX11_textNamed_l5 at hf
  refine w_iload_n X dX11_textNamed_5 rfl rfl rfl ?_
  refine w_bipush X dX11_textNamed_6 rfl cb_6 ?_
  refine w_iload_n X dX11_textNamed_8 rfl rfl rfl ?_
  refine w_imul X dX11_textNamed_9 rfl ?_
  refine w_aload_n X dX11_textNamed_10 rfl rfl rfl ?_
  refine w_getR X dX11_textNamed_11 rfl fl_X11_13 S0_188 rfl ?_
  refine w_iconst X dX11_textNamed_14 rfl ci_3 ?_
  refine w_iload_n X dX11_textNamed_15 rfl rfl rfl ?_
  refine w_imul X dX11_textNamed_16 rfl ?_
  refine w_iconst X dX11_textNamed_17 rfl ci_1 ?_
  refine w_iadd X dX11_textNamed_18 rfl ?_
  obtain ⟨yhg21, hf⟩ := wok_g hf
  refine w_iald X dX11_textNamed_19 rfl (j := ((3 * v1) + 1).toNatClampNeg) rfl S0_190 yhg21 ?_
  refine w_iadd X dX11_textNamed_20 rfl ?_
  refine w_icmp_ge X dX11_textNamed_21 rfl (t := 51) rfl (fun hc => ?_) (fun hc => ?_)
  · have hf := wok_t hf hc
    refine w_fg (ls2 := [none, none, none]) trivial ?_
    exact hX0 (wok_s hf)
  · have hf := wok_f hf hc
    refine w_aload_n X dX11_textNamed_24 rfl rfl rfl ?_
    refine w_getR X dX11_textNamed_25 rfl fl_X11_20 S0_188 rfl ?_
    refine w_iload_n X dX11_textNamed_28 rfl rfl rfl ?_
    obtain ⟨yhg22, hf⟩ := wok_g hf
    refine w_lald X dX11_textNamed_29 rfl (j := v2.toNatClampNeg) rfl S0_192 yhg22 ?_
    refine w_aload_n X dX11_textNamed_30 rfl rfl rfl ?_
    refine w_getJ X dX11_textNamed_31 rfl fl_X11_162 S0_188 rfl ?_
    refine w_lcmp_ne X dX11_textNamed_34 dX11_textNamed_35 rfl (t := 45) rfl (fun hc => ?_) (fun hc => ?_)
    · have hf := wok_f hf hc
      refine w_iinc X dX11_textNamed_45 rfl (v := (v2 + 1)) rfl rfl (Nat.le_of_ble_eq_true rfl) (cinc_1 _) (ls' := [some (.ref 188), some (.int v1), some (.int (v2 + 1))]) rfl ?_
      refine w_goto X dX11_textNamed_48 (t := 5) rfl ?_
      exact hN _ (wok_s hf)
    · have hf := wok_t hf hc
      refine w_iload_n X dX11_textNamed_38 rfl rfl rfl ?_
      refine w_bipush X dX11_textNamed_39 rfl cb_6 ?_
      refine w_iload_n X dX11_textNamed_41 rfl rfl rfl ?_
      refine w_imul X dX11_textNamed_42 rfl ?_
      refine w_isub X dX11_textNamed_43 rfl ?_
      exact w_iret X dX11_textNamed_44 hr (hT _ (wok_s hf))
set_option maxRecDepth 4000 in
theorem pX11_textNamed_l5 (X : wCx p s m args meth c RX11 cX11_textNamed 3 D dA b0 ad) (hr : meth.sig.returnType = (some .int)) {h : wSt} {v1 : Int32} {KE : (Unit) ⊕ (Int32) → Prop} (hX0 : KE ((.inl ())) → wM p l e (wR 1) s m args below meth c 0 0 (wE below args s D dA b0 ad S0 F) 3 D dA b0 ad S0 51 [none, none, none] [] h) (hT : ∀ (x : Int32), KE ((.inr x)) → F (some (.int x)) h) : ∀ (n : Nat) (v2 : Int32), wok (wit (fun v : (Int32) => fX11_textNamed_l5 h v1 v) n v2) KE → wM p l e (wR 1) s m args below meth c 0 0 (wE below args s D dA b0 ad S0 F) 3 D dA b0 ad S0 5 [some (.ref 188), some (.int v1), some (.int v2)] [] h := by
  have key := wit_M (b := (fun v : (Int32) => fX11_textNamed_l5 h v1 v)) (KE := KE) (G := fun v => wM p l e (wR 1) s m args below meth c 0 0 (wE below args s D dA b0 ad S0 F) 3 D dA b0 ad S0 5 [some (.ref 188), some (.int v1), some (.int v)] [] h) (fun v K hN hE hf => pX11_textNamed_l5b X hr  (fun n2 hz => hN n2 hz) (fun  hz => hX0  (hE _ hz)) (fun z0 hz => hT z0 (hE _ hz)) hf)
  exact fun n v2 hf => key n v2 hf
set_option maxRecDepth 4000 in
theorem pX11_textNamed_b0 (X : wCx p s m args meth c RX11 cX11_textNamed 3 D dA b0 ad) (hr : meth.sig.returnType = (some .int)) {h : wSt} {x0 : Int32} {K : Int32 → Prop} (hT : ∀ (x : Int32), K x → F (some (.int x)) h) (hf : wok (fX11_textNamed h x0) K) : wM p l e (wR 1) s m args below meth c 0 0 (wE below args s D dA b0 ad S0 F) 3 D dA b0 ad S0 0 [some (.ref 188), some (.int x0), none] [] h := by
  unfold fX11_textNamed at hf
  refine w_bipush X dX11_textNamed_0 rfl cb_6 ?_
  refine w_iload_n X dX11_textNamed_2 rfl rfl rfl ?_
  refine w_imul X dX11_textNamed_3 rfl ?_
  refine w_istore_n X dX11_textNamed_4 rfl rfl rfl (Nat.le_of_ble_eq_true rfl) (ls' := [some (.ref 188), some (.int x0), some (.int (6 * x0))]) rfl ?_
  obtain ⟨ye23, hye23, hf⟩ := wok_b hf
  refine pX11_textNamed_l5 X hr  (KE := fun z => ye23 = z) ?_ ?_ 3000 _ ⟨ye23, hye23, rfl⟩
  · intro hz
    subst hz
    refine w_iconst X dX11_textNamed_51 rfl ci_m1 ?_
    exact w_iret X dX11_textNamed_52 hr (hT _ (wok_s hf))
  · intro z hz
    subst hz
    exact hT _ (wok_s hf)
set_option maxRecDepth 4000 in
theorem kX11_textNamed (l : Launch) {h : wSt} {x0 : Int32} {res : Int32} (hf : fX11_textNamed h x0 = some res) : wC l yX11_textNamed cX11_textNamed 3 (some .int) 1 S0 [.ref 188, .int x0] h (wFI (fun a b => res = a ∧ h = b)) := by
  refine w_meth2 1 (by decide) (Nat.le_of_ble_eq_true rfl) (ls := [some (.ref 188), some (.int x0), none]) rfl ?_
  intro p e s m args below meth c D dA b0 ad X hr
  exact pX11_textNamed_b0 X hr  (K := fun z => res = z) (fun x hz => ⟨x, rfl, hz, rfl⟩) ⟨res, hf, rfl⟩
set_option maxRecDepth 4000 in
theorem pX11_needsNumber_b0 (X : wCx p s m args meth c RX11 cX11_needsNumber 3 D dA b0 ad) (hr : meth.sig.returnType = (some .boolean)) {h : wSt} {x0 : Int32} {x1 : Int32} {K : Bool × wSt → Prop} (hT : ∀ (x : Bool) (h2 : wSt), K (x, h2) → F (some (.int (wb x))) h2) (hf : wok (fX11_needsNumber h x0 x1) K) : wM p l e (wR 3) s m args below meth c 0 0 (wE below args s D dA b0 ad S0 F) 3 D dA b0 ad S0 0 [some (.ref 188), some (.int x0), some (.int x1)] [] h := by
  unfold fX11_needsNumber at hf
  refine w_aload_n X dX11_needsNumber_0 rfl rfl rfl ?_
  refine w_getI X dX11_needsNumber_1 rfl fl_X11_169 S0_188 rfl ?_
  refine w_iconst X dX11_needsNumber_4 rfl ci_2 ?_
  refine w_icmp_eq X dX11_needsNumber_5 rfl (t := 14) rfl (fun hc => ?_) (fun hc => ?_)
  · have hf := wok_t hf hc
    refine w_aload_n X dX11_needsNumber_14 rfl rfl rfl ?_
    refine w_getI X dX11_needsNumber_15 rfl fl_X11_166 S0_188 rfl ?_
    refine w_iload_n X dX11_needsNumber_18 rfl rfl rfl ?_
    refine w_iload_n X dX11_needsNumber_19 rfl rfl rfl ?_
    obtain ⟨yr21, eyr21, hf⟩ := wok_b hf
    refine w_callS X dX11_needsNumber_20 rfl sl_X11_265 (kX11_within l  eyr21) (As := [.int (h.1 188 8), .int x0, .int x1]) (st := []) rfl rfl (Nat.le_of_ble_eq_true rfl) ⟨Nat.le_of_ble_eq_true rfl, Nat.le_of_ble_eq_true rfl⟩ ⟨Nat.zero_le _, Nat.zero_le _⟩ (fun r h2 hF => ?_)
    obtain ⟨_, rfl, rfl, rfl⟩ := hF
    show wM p l e (wR 3) s m args below meth c 0 0 (wE below args s D dA b0 ad S0 F) 3 D dA b0 ad S0 23 [some (.ref 188), some (.int x0), some (.int x1)] [.int (wb yr21)] h
    refine w_if_ne X dX11_needsNumber_23 rfl (t := 32) rfl (fun hc => ?_) (fun hc => ?_)
    · have hf := wok_t hf (wb_n0 hc)
      refine w_aload_n X dX11_needsNumber_32 rfl rfl rfl ?_
      refine w_aload_n X dX11_needsNumber_33 rfl rfl rfl ?_
      refine w_getI X dX11_needsNumber_34 rfl fl_X11_166 S0_188 rfl ?_
      refine w_putI X dX11_needsNumber_37 rfl fp_X11_269 S0_188 rfl ?_
      refine w_nmh (fun yh22 eyh22 => ?_)
      have hf := wok_l hf eyh22
      refine w_aload_n X dX11_needsNumber_40 rfl rfl rfl ?_
      obtain ⟨yr23, eyr23, hf⟩ := wok_b hf
      refine w_callV X dX11_needsNumber_41 rfl vl_X11_215 (kX11_nextToken l  eyr23) S0_188 (As := []) (st := []) rfl rfl (Nat.le_of_ble_eq_true rfl) ⟨Nat.le_of_ble_eq_true rfl, Nat.le_of_ble_eq_true rfl⟩ ⟨Nat.zero_le _, Nat.zero_le _⟩ (fun r h2 hF => ?_)
      obtain ⟨rfl, rfl⟩ := hF
      show wM p l e (wR 3) s m args below meth c 0 0 (wE below args s D dA b0 ad S0 F) 3 D dA b0 ad S0 44 [some (.ref 188), some (.int x0), some (.int x1)] [] yr23
      refine w_iconst X dX11_needsNumber_44 rfl ci_1 ?_
      exact w_zret X dX11_needsNumber_45 hr rfl (hT true _ (wok_s hf))
    · have hf := wok_f hf (wb_0 hc)
      refine w_aload_n X dX11_needsNumber_26 rfl rfl rfl ?_
      refine w_iconst X dX11_needsNumber_27 rfl ci_4 ?_
      obtain ⟨yr24, eyr24, hf⟩ := wok_b hf
      refine w_callV X dX11_needsNumber_28 rfl vl_X11_208 (kX11_fails l  eyr24) S0_188 (As := [.int 4]) (st := []) rfl rfl (Nat.le_of_ble_eq_true rfl) ⟨Nat.le_of_ble_eq_true rfl, Nat.le_of_ble_eq_true rfl⟩ ⟨Nat.zero_le _, Nat.zero_le _⟩ (fun r h2 hF => ?_)
      obtain ⟨_, rfl, rfl, rfl⟩ := hF
      show wM p l e (wR 3) s m args below meth c 0 0 (wE below args s D dA b0 ad S0 F) 3 D dA b0 ad S0 31 [some (.ref 188), some (.int x0), some (.int x1)] [.int (wb yr24.1)] yr24.2
      exact w_zret X dX11_needsNumber_31 hr (wb_n _) (hT _ _ (wok_s hf))
  · have hf := wok_f hf hc
    refine w_aload_n X dX11_needsNumber_8 rfl rfl rfl ?_
    refine w_iconst X dX11_needsNumber_9 rfl ci_1 ?_
    obtain ⟨yr25, eyr25, hf⟩ := wok_b hf
    refine w_callV X dX11_needsNumber_10 rfl vl_X11_208 (kX11_fails l  eyr25) S0_188 (As := [.int 1]) (st := []) rfl rfl (Nat.le_of_ble_eq_true rfl) ⟨Nat.le_of_ble_eq_true rfl, Nat.le_of_ble_eq_true rfl⟩ ⟨Nat.zero_le _, Nat.zero_le _⟩ (fun r h2 hF => ?_)
    obtain ⟨_, rfl, rfl, rfl⟩ := hF
    show wM p l e (wR 3) s m args below meth c 0 0 (wE below args s D dA b0 ad S0 F) 3 D dA b0 ad S0 13 [some (.ref 188), some (.int x0), some (.int x1)] [.int (wb yr25.1)] yr25.2
    exact w_zret X dX11_needsNumber_13 hr (wb_n _) (hT _ _ (wok_s hf))
set_option maxRecDepth 4000 in
theorem kX11_needsNumber (l : Launch) {h : wSt} {x0 : Int32} {x1 : Int32} {res : Bool × wSt} (hf : fX11_needsNumber h x0 x1 = some res) : wC l yX11_needsNumber cX11_needsNumber 3 (some .boolean) 3 S0 [.ref 188, .int x0, .int x1] h (wFZ (fun a b => res.1 = a ∧ res.2 = b)) := by
  refine w_meth2 0 (by decide) (Nat.le_of_ble_eq_true rfl) (ls := [some (.ref 188), some (.int x0), some (.int x1)]) rfl ?_
  intro p e s m args below meth c D dA b0 ad X hr
  exact pX11_needsNumber_b0 X hr  (K := fun z => res = z) (fun x h2 hz => ⟨x, rfl, by rw [hz], by rw [hz]⟩) ⟨res, hf, rfl⟩
set_option maxRecDepth 4000 in
theorem pX11_needsBoth_b0 (X : wCx p s m args meth c RX11 cX11_needsBoth 5 D dA b0 ad) (hr : meth.sig.returnType = (some .boolean)) {h : wSt} {x0 : Int64} {x1 : Int32} {x2 : Int32} {K : Bool × wSt → Prop} (hT : ∀ (x : Bool) (h2 : wSt), K (x, h2) → F (some (.int (wb x))) h2) (hf : wok (fX11_needsBoth h x0 x1 x2) K) : wM p l e (wR 4) s m args below meth c 0 0 (wE below args s D dA b0 ad S0 F) 5 D dA b0 ad S0 0 [some (.ref 188), some (.long x0), none, some (.int x1), some (.int x2)] [] h := by
  unfold fX11_needsBoth at hf
  refine w_aload_n X dX11_needsBoth_0 rfl rfl rfl ?_
  refine w_lload_n X dX11_needsBoth_1 rfl rfl rfl ?_
  obtain ⟨yr21, eyr21, hf⟩ := wok_b hf
  refine w_callV X dX11_needsBoth_2 rfl vl_X11_200 (kX11_isWord l  eyr21) S0_188 (As := [.long x0]) (st := []) rfl rfl (Nat.le_of_ble_eq_true rfl) ⟨Nat.le_of_ble_eq_true rfl, Nat.le_of_ble_eq_true rfl⟩ ⟨Nat.zero_le _, Nat.zero_le _⟩ (fun r h2 hF => ?_)
  obtain ⟨_, rfl, rfl, rfl⟩ := hF
  show wM p l e (wR 4) s m args below meth c 0 0 (wE below args s D dA b0 ad S0 F) 5 D dA b0 ad S0 5 [some (.ref 188), some (.long x0), none, some (.int x1), some (.int x2)] [.int (wb yr21)] h
  refine w_if_ne X dX11_needsBoth_5 rfl (t := 14) rfl (fun hc => ?_) (fun hc => ?_)
  · have hf := wok_t hf (wb_n0 hc)
    refine w_aload_n X dX11_needsBoth_14 rfl rfl rfl ?_
    obtain ⟨yr22, eyr22, hf⟩ := wok_b hf
    refine w_callV X dX11_needsBoth_15 rfl vl_X11_215 (kX11_nextToken l  eyr22) S0_188 (As := []) (st := []) rfl rfl (Nat.le_of_ble_eq_true rfl) ⟨Nat.le_of_ble_eq_true rfl, Nat.le_of_ble_eq_true rfl⟩ ⟨Nat.zero_le _, Nat.zero_le _⟩ (fun r h2 hF => ?_)
    obtain ⟨rfl, rfl⟩ := hF
    show wM p l e (wR 4) s m args below meth c 0 0 (wE below args s D dA b0 ad S0 F) 5 D dA b0 ad S0 18 [some (.ref 188), some (.long x0), none, some (.int x1), some (.int x2)] [] yr22
    refine w_aload_n X dX11_needsBoth_18 rfl rfl rfl ?_
    refine w_iload_n X dX11_needsBoth_19 rfl rfl rfl ?_
    refine w_iload X dX11_needsBoth_20 rfl rfl ?_
    obtain ⟨yr23, eyr23, hf⟩ := wok_b hf
    refine w_callV X dX11_needsBoth_22 rfl vl_X11_272 (kX11_needsNumber l  eyr23) S0_188 (As := [.int x1, .int x2]) (st := []) rfl rfl (Nat.le_of_ble_eq_true rfl) ⟨Nat.le_of_ble_eq_true rfl, Nat.le_of_ble_eq_true rfl⟩ ⟨Nat.zero_le _, Nat.zero_le _⟩ (fun r h2 hF => ?_)
    obtain ⟨_, rfl, rfl, rfl⟩ := hF
    show wM p l e (wR 4) s m args below meth c 0 0 (wE below args s D dA b0 ad S0 F) 5 D dA b0 ad S0 25 [some (.ref 188), some (.long x0), none, some (.int x1), some (.int x2)] [.int (wb yr23.1)] yr23.2
    exact w_zret X dX11_needsBoth_25 hr (wb_n _) (hT _ _ (wok_s hf))
  · have hf := wok_f hf (wb_0 hc)
    refine w_aload_n X dX11_needsBoth_8 rfl rfl rfl ?_
    refine w_iconst X dX11_needsBoth_9 rfl ci_1 ?_
    obtain ⟨yr24, eyr24, hf⟩ := wok_b hf
    refine w_callV X dX11_needsBoth_10 rfl vl_X11_208 (kX11_fails l  eyr24) S0_188 (As := [.int 1]) (st := []) rfl rfl (Nat.le_of_ble_eq_true rfl) ⟨Nat.le_of_ble_eq_true rfl, Nat.le_of_ble_eq_true rfl⟩ ⟨Nat.zero_le _, Nat.zero_le _⟩ (fun r h2 hF => ?_)
    obtain ⟨_, rfl, rfl, rfl⟩ := hF
    show wM p l e (wR 4) s m args below meth c 0 0 (wE below args s D dA b0 ad S0 F) 5 D dA b0 ad S0 13 [some (.ref 188), some (.long x0), none, some (.int x1), some (.int x2)] [.int (wb yr24.1)] yr24.2
    exact w_zret X dX11_needsBoth_13 hr (wb_n _) (hT _ _ (wok_s hf))
set_option maxRecDepth 4000 in
theorem kX11_needsBoth (l : Launch) {h : wSt} {x0 : Int64} {x1 : Int32} {x2 : Int32} {res : Bool × wSt} (hf : fX11_needsBoth h x0 x1 x2 = some res) : wC l yX11_needsBoth cX11_needsBoth 5 (some .boolean) 4 S0 [.ref 188, .long x0, .int x1, .int x2] h (wFZ (fun a b => res.1 = a ∧ res.2 = b)) := by
  refine w_meth2 0 (by decide) (Nat.le_of_ble_eq_true rfl) (ls := [some (.ref 188), some (.long x0), none, some (.int x1), some (.int x2)]) rfl ?_
  intro p e s m args below meth c D dA b0 ad X hr
  exact pX11_needsBoth_b0 X hr  (K := fun z => res = z) (fun x h2 hz => ⟨x, rfl, by rw [hz], by rw [hz]⟩) ⟨res, hf, rfl⟩
set_option maxRecDepth 4000 in
theorem pX11_closes_b0 (X : wCx p s m args meth c RX11 cX11_closes 1 D dA b0 ad) (hr : meth.sig.returnType = (some .boolean)) {h : wSt} {K : Bool × wSt → Prop} (hT : ∀ (x : Bool) (h2 : wSt), K (x, h2) → F (some (.int (wb x))) h2) (hf : wok (fX11_closes h ) K) : wM p l e (wR 3) s m args below meth c 0 0 (wE below args s D dA b0 ad S0 F) 1 D dA b0 ad S0 0 [some (.ref 188)] [] h := by
  unfold fX11_closes at hf
  refine w_aload_n X dX11_closes_0 rfl rfl rfl ?_
  refine w_bipush X dX11_closes_1 rfl cb_59 ?_
  obtain ⟨yr21, eyr21, hf⟩ := wok_b hf
  refine w_callV X dX11_closes_3 rfl vl_X11_204 (kX11_isSign l  eyr21) S0_188 (As := [.int 59]) (st := []) rfl rfl (Nat.le_of_ble_eq_true rfl) ⟨Nat.le_of_ble_eq_true rfl, Nat.le_of_ble_eq_true rfl⟩ ⟨Nat.zero_le _, Nat.zero_le _⟩ (fun r h2 hF => ?_)
  obtain ⟨_, rfl, rfl, rfl⟩ := hF
  show wM p l e (wR 3) s m args below meth c 0 0 (wE below args s D dA b0 ad S0 F) 1 D dA b0 ad S0 6 [some (.ref 188)] [.int (wb yr21)] h
  refine w_if_ne X dX11_closes_6 rfl (t := 15) rfl (fun hc => ?_) (fun hc => ?_)
  · have hf := wok_t hf (wb_n0 hc)
    refine w_aload_n X dX11_closes_15 rfl rfl rfl ?_
    obtain ⟨yr22, eyr22, hf⟩ := wok_b hf
    refine w_callV X dX11_closes_16 rfl vl_X11_215 (kX11_nextToken l  eyr22) S0_188 (As := []) (st := []) rfl rfl (Nat.le_of_ble_eq_true rfl) ⟨Nat.le_of_ble_eq_true rfl, Nat.le_of_ble_eq_true rfl⟩ ⟨Nat.zero_le _, Nat.zero_le _⟩ (fun r h2 hF => ?_)
    obtain ⟨rfl, rfl⟩ := hF
    show wM p l e (wR 3) s m args below meth c 0 0 (wE below args s D dA b0 ad S0 F) 1 D dA b0 ad S0 19 [some (.ref 188)] [] yr22
    refine w_iconst X dX11_closes_19 rfl ci_1 ?_
    exact w_zret X dX11_closes_20 hr rfl (hT true _ (wok_s hf))
  · have hf := wok_f hf (wb_0 hc)
    refine w_aload_n X dX11_closes_9 rfl rfl rfl ?_
    refine w_iconst X dX11_closes_10 rfl ci_1 ?_
    obtain ⟨yr23, eyr23, hf⟩ := wok_b hf
    refine w_callV X dX11_closes_11 rfl vl_X11_208 (kX11_fails l  eyr23) S0_188 (As := [.int 1]) (st := []) rfl rfl (Nat.le_of_ble_eq_true rfl) ⟨Nat.le_of_ble_eq_true rfl, Nat.le_of_ble_eq_true rfl⟩ ⟨Nat.zero_le _, Nat.zero_le _⟩ (fun r h2 hF => ?_)
    obtain ⟨_, rfl, rfl, rfl⟩ := hF
    show wM p l e (wR 3) s m args below meth c 0 0 (wE below args s D dA b0 ad S0 F) 1 D dA b0 ad S0 14 [some (.ref 188)] [.int (wb yr23.1)] yr23.2
    exact w_zret X dX11_closes_14 hr (wb_n _) (hT _ _ (wok_s hf))
set_option maxRecDepth 4000 in
theorem kX11_closes (l : Launch) {h : wSt} {res : Bool × wSt} (hf : fX11_closes h  = some res) : wC l yX11_closes cX11_closes 1 (some .boolean) 3 S0 [.ref 188] h (wFZ (fun a b => res.1 = a ∧ res.2 = b)) := by
  refine w_meth2 0 (by decide) (Nat.le_of_ble_eq_true rfl) (ls := [some (.ref 188)]) rfl ?_
  intro p e s m args below meth c D dA b0 ad X hr
  exact pX11_closes_b0 X hr  (K := fun z => res = z) (fun x h2 hz => ⟨x, rfl, by rw [hz], by rw [hz]⟩) ⟨res, hf, rfl⟩
set_option maxRecDepth 4000 in
theorem pX11_needsNew_b29 (X : wCx p s m args meth c RX11 cX11_needsNew 1 D dA b0 ad) (hr : meth.sig.returnType = (some .boolean)) {h : wSt} {K : Bool × wSt → Prop} (hT : ∀ (x : Bool) (h2 : wSt), K (x, h2) → F (some (.int (wb x))) h2)  (hf : wok (fX11_needsNew_b29 h ) K) : wM p l e (wR 3) s m args below meth c 0 0 (wE below args s D dA b0 ad S0 F) 1 D dA b0 ad S0 29 [some (.ref 188)] [] h := by
  unfold fX11_needsNew_b29 at hf
  refine w_aload_n X dX11_needsNew_29 rfl rfl rfl ?_
  refine w_iconst X dX11_needsNew_30 rfl ci_3 ?_
  obtain ⟨yr23, eyr23, hf⟩ := wok_b hf
  refine w_callV X dX11_needsNew_31 rfl vl_X11_208 (kX11_fails l  eyr23) S0_188 (As := [.int 3]) (st := []) rfl rfl (Nat.le_of_ble_eq_true rfl) ⟨Nat.le_of_ble_eq_true rfl, Nat.le_of_ble_eq_true rfl⟩ ⟨Nat.zero_le _, Nat.zero_le _⟩ (fun r h2 hF => ?_)
  obtain ⟨_, rfl, rfl, rfl⟩ := hF
  show wM p l e (wR 3) s m args below meth c 0 0 (wE below args s D dA b0 ad S0 F) 1 D dA b0 ad S0 34 [some (.ref 188)] [.int (wb yr23.1)] yr23.2
  exact w_zret X dX11_needsNew_34 hr (wb_n _) (hT _ _ (wok_s hf))
set_option maxRecDepth 4000 in
theorem pX11_needsNew_b0 (X : wCx p s m args meth c RX11 cX11_needsNew 1 D dA b0 ad) (hr : meth.sig.returnType = (some .boolean)) {h : wSt} {K : Bool × wSt → Prop} (hT : ∀ (x : Bool) (h2 : wSt), K (x, h2) → F (some (.int (wb x))) h2) (hf : wok (fX11_needsNew h ) K) : wM p l e (wR 3) s m args below meth c 0 0 (wE below args s D dA b0 ad S0 F) 1 D dA b0 ad S0 0 [some (.ref 188)] [] h := by
  unfold fX11_needsNew at hf
  refine w_aload_n X dX11_needsNew_0 rfl rfl rfl ?_
  obtain ⟨yr21, eyr21, hf⟩ := wok_b hf
  refine w_callV X dX11_needsNew_1 rfl vl_X11_276 (kX11_isKept l  eyr21) S0_188 (As := []) (st := []) rfl rfl (Nat.le_of_ble_eq_true rfl) ⟨Nat.le_of_ble_eq_true rfl, Nat.le_of_ble_eq_true rfl⟩ ⟨Nat.zero_le _, Nat.zero_le _⟩ (fun r h2 hF => ?_)
  obtain ⟨_, rfl, rfl, rfl⟩ := hF
  show wM p l e (wR 3) s m args below meth c 0 0 (wE below args s D dA b0 ad S0 F) 1 D dA b0 ad S0 4 [some (.ref 188)] [.int (wb yr21)] h
  refine w_if_eq X dX11_needsNew_4 rfl (t := 13) rfl (fun hc => ?_) (fun hc => ?_)
  · have hf := wok_f hf (wb_0 hc)
    refine w_aload_n X dX11_needsNew_13 rfl rfl rfl ?_
    refine w_iconst X dX11_needsNew_14 rfl ci_1 ?_
    obtain ⟨yr22, eyr22, hf⟩ := wok_b hf
    refine w_callV X dX11_needsNew_15 rfl vl_X11_280 (kX11_skinNamed l  eyr22) S0_188 (As := [.int 1]) (st := []) rfl rfl (Nat.le_of_ble_eq_true rfl) ⟨Nat.le_of_ble_eq_true rfl, Nat.le_of_ble_eq_true rfl⟩ ⟨Nat.zero_le _, Nat.zero_le _⟩ (fun r h2 hF => ?_)
    obtain ⟨_, rfl, rfl, rfl⟩ := hF
    show wM p l e (wR 3) s m args below meth c 0 0 (wE below args s D dA b0 ad S0 F) 1 D dA b0 ad S0 18 [some (.ref 188)] [.int yr22] h
    refine w_if_ge X dX11_needsNew_18 rfl (t := 29) rfl (fun hc => ?_) (fun hc => ?_)
    · have hf := wok_t hf hc
      exact pX11_needsNew_b29 X hr  hT hf
    · have hf := wok_f hf hc
      refine w_aload_n X dX11_needsNew_21 rfl rfl rfl ?_
      refine w_iconst X dX11_needsNew_22 rfl ci_1 ?_
      obtain ⟨yr24, eyr24, hf⟩ := wok_b hf
      refine w_callV X dX11_needsNew_23 rfl vl_X11_283 (kX11_textNamed l  eyr24) S0_188 (As := [.int 1]) (st := []) rfl rfl (Nat.le_of_ble_eq_true rfl) ⟨Nat.le_of_ble_eq_true rfl, Nat.le_of_ble_eq_true rfl⟩ ⟨Nat.zero_le _, Nat.zero_le _⟩ (fun r h2 hF => ?_)
      obtain ⟨_, rfl, rfl, rfl⟩ := hF
      show wM p l e (wR 3) s m args below meth c 0 0 (wE below args s D dA b0 ad S0 F) 1 D dA b0 ad S0 26 [some (.ref 188)] [.int yr24] h
      refine w_if_lt X dX11_needsNew_26 rfl (t := 35) rfl (fun hc => ?_) (fun hc => ?_)
      · have hf := wok_t hf hc
        refine w_aload_n X dX11_needsNew_35 rfl rfl rfl ?_
        refine w_aload_n X dX11_needsNew_36 rfl rfl rfl ?_
        refine w_getJ X dX11_needsNew_37 rfl fl_X11_162 S0_188 rfl ?_
        refine w_putJ X dX11_needsNew_40 rfl fp_X11_286 S0_188 rfl ?_
        refine w_nmh (fun yh25 eyh25 => ?_)
        have hf := wok_l hf eyh25
        refine w_aload_n X dX11_needsNew_43 rfl rfl rfl ?_
        obtain ⟨yr26, eyr26, hf⟩ := wok_b hf
        refine w_callV X dX11_needsNew_44 rfl vl_X11_215 (kX11_nextToken l  eyr26) S0_188 (As := []) (st := []) rfl rfl (Nat.le_of_ble_eq_true rfl) ⟨Nat.le_of_ble_eq_true rfl, Nat.le_of_ble_eq_true rfl⟩ ⟨Nat.zero_le _, Nat.zero_le _⟩ (fun r h2 hF => ?_)
        obtain ⟨rfl, rfl⟩ := hF
        show wM p l e (wR 3) s m args below meth c 0 0 (wE below args s D dA b0 ad S0 F) 1 D dA b0 ad S0 47 [some (.ref 188)] [] yr26
        refine w_iconst X dX11_needsNew_47 rfl ci_1 ?_
        exact w_zret X dX11_needsNew_48 hr rfl (hT true _ (wok_s hf))
      · have hf := wok_f hf hc
        exact pX11_needsNew_b29 X hr  hT hf
  · have hf := wok_t hf (wb_n0 hc)
    refine w_aload_n X dX11_needsNew_7 rfl rfl rfl ?_
    refine w_iconst X dX11_needsNew_8 rfl ci_1 ?_
    obtain ⟨yr27, eyr27, hf⟩ := wok_b hf
    refine w_callV X dX11_needsNew_9 rfl vl_X11_208 (kX11_fails l  eyr27) S0_188 (As := [.int 1]) (st := []) rfl rfl (Nat.le_of_ble_eq_true rfl) ⟨Nat.le_of_ble_eq_true rfl, Nat.le_of_ble_eq_true rfl⟩ ⟨Nat.zero_le _, Nat.zero_le _⟩ (fun r h2 hF => ?_)
    obtain ⟨_, rfl, rfl, rfl⟩ := hF
    show wM p l e (wR 3) s m args below meth c 0 0 (wE below args s D dA b0 ad S0 F) 1 D dA b0 ad S0 12 [some (.ref 188)] [.int (wb yr27.1)] yr27.2
    exact w_zret X dX11_needsNew_12 hr (wb_n _) (hT _ _ (wok_s hf))
set_option maxRecDepth 4000 in
theorem kX11_needsNew (l : Launch) {h : wSt} {res : Bool × wSt} (hf : fX11_needsNew h  = some res) : wC l yX11_needsNew cX11_needsNew 1 (some .boolean) 3 S0 [.ref 188] h (wFZ (fun a b => res.1 = a ∧ res.2 = b)) := by
  refine w_meth2 0 (by decide) (Nat.le_of_ble_eq_true rfl) (ls := [some (.ref 188)]) rfl ?_
  intro p e s m args below meth c D dA b0 ad X hr
  exact pX11_needsNew_b0 X hr  (K := fun z => res = z) (fun x h2 hz => ⟨x, rfl, by rw [hz], by rw [hz]⟩) ⟨res, hf, rfl⟩
set_option maxRecDepth 4000 in
theorem pX11_needsSkin_b0 (X : wCx p s m args meth c RX11 cX11_needsSkin 2 D dA b0 ad) (hr : meth.sig.returnType = (some .boolean)) {h : wSt} {x0 : Int32} {K : Bool × wSt → Prop} (hT : ∀ (x : Bool) (h2 : wSt), K (x, h2) → F (some (.int (wb x))) h2) (hf : wok (fX11_needsSkin h x0) K) : wM p l e (wR 3) s m args below meth c 0 0 (wE below args s D dA b0 ad S0 F) 2 D dA b0 ad S0 0 [some (.ref 188), some (.int x0)] [] h := by
  unfold fX11_needsSkin at hf
  refine w_aload_n X dX11_needsSkin_0 rfl rfl rfl ?_
  obtain ⟨yr21, eyr21, hf⟩ := wok_b hf
  refine w_callV X dX11_needsSkin_1 rfl vl_X11_276 (kX11_isKept l  eyr21) S0_188 (As := []) (st := []) rfl rfl (Nat.le_of_ble_eq_true rfl) ⟨Nat.le_of_ble_eq_true rfl, Nat.le_of_ble_eq_true rfl⟩ ⟨Nat.zero_le _, Nat.zero_le _⟩ (fun r h2 hF => ?_)
  obtain ⟨_, rfl, rfl, rfl⟩ := hF
  show wM p l e (wR 3) s m args below meth c 0 0 (wE below args s D dA b0 ad S0 F) 2 D dA b0 ad S0 4 [some (.ref 188), some (.int x0)] [.int (wb yr21)] h
  refine w_if_eq X dX11_needsSkin_4 rfl (t := 13) rfl (fun hc => ?_) (fun hc => ?_)
  · have hf := wok_f hf (wb_0 hc)
    refine w_aload_n X dX11_needsSkin_13 rfl rfl rfl ?_
    refine w_aload_n X dX11_needsSkin_14 rfl rfl rfl ?_
    refine w_iload_n X dX11_needsSkin_15 rfl rfl rfl ?_
    obtain ⟨yr22, eyr22, hf⟩ := wok_b hf
    refine w_callV X dX11_needsSkin_16 rfl vl_X11_280 (kX11_skinNamed l  eyr22) S0_188 (As := [.int x0]) (st := [.ref 188]) rfl rfl (Nat.le_of_ble_eq_true rfl) ⟨Nat.le_of_ble_eq_true rfl, Nat.le_of_ble_eq_true rfl⟩ ⟨Nat.zero_le _, Nat.zero_le _⟩ (fun r h2 hF => ?_)
    obtain ⟨_, rfl, rfl, rfl⟩ := hF
    show wM p l e (wR 3) s m args below meth c 0 0 (wE below args s D dA b0 ad S0 F) 2 D dA b0 ad S0 19 [some (.ref 188), some (.int x0)] [.int yr22, .ref 188] h
    refine w_putI X dX11_needsSkin_19 rfl fp_X11_269 S0_188 rfl ?_
    refine w_nmh (fun yh23 eyh23 => ?_)
    have hf := wok_l hf eyh23
    refine w_aload_n X dX11_needsSkin_22 rfl rfl rfl ?_
    refine w_getI X dX11_needsSkin_23 rfl fl_X11_269 S0_188 rfl ?_
    refine w_if_ge X dX11_needsSkin_26 rfl (t := 35) rfl (fun hc => ?_) (fun hc => ?_)
    · have hf := wok_t hf hc
      refine w_aload_n X dX11_needsSkin_35 rfl rfl rfl ?_
      obtain ⟨yr24, eyr24, hf⟩ := wok_b hf
      refine w_callV X dX11_needsSkin_36 rfl vl_X11_215 (kX11_nextToken l  eyr24) S0_188 (As := []) (st := []) rfl rfl (Nat.le_of_ble_eq_true rfl) ⟨Nat.le_of_ble_eq_true rfl, Nat.le_of_ble_eq_true rfl⟩ ⟨Nat.zero_le _, Nat.zero_le _⟩ (fun r h2 hF => ?_)
      obtain ⟨rfl, rfl⟩ := hF
      show wM p l e (wR 3) s m args below meth c 0 0 (wE below args s D dA b0 ad S0 F) 2 D dA b0 ad S0 39 [some (.ref 188), some (.int x0)] [] yr24
      refine w_iconst X dX11_needsSkin_39 rfl ci_1 ?_
      exact w_zret X dX11_needsSkin_40 hr rfl (hT true _ (wok_s hf))
    · have hf := wok_f hf hc
      refine w_aload_n X dX11_needsSkin_29 rfl rfl rfl ?_
      refine w_iconst X dX11_needsSkin_30 rfl ci_2 ?_
      obtain ⟨yr25, eyr25, hf⟩ := wok_b hf
      refine w_callV X dX11_needsSkin_31 rfl vl_X11_208 (kX11_fails l  eyr25) S0_188 (As := [.int 2]) (st := []) rfl rfl (Nat.le_of_ble_eq_true rfl) ⟨Nat.le_of_ble_eq_true rfl, Nat.le_of_ble_eq_true rfl⟩ ⟨Nat.zero_le _, Nat.zero_le _⟩ (fun r h2 hF => ?_)
      obtain ⟨_, rfl, rfl, rfl⟩ := hF
      show wM p l e (wR 3) s m args below meth c 0 0 (wE below args s D dA b0 ad S0 F) 2 D dA b0 ad S0 34 [some (.ref 188), some (.int x0)] [.int (wb yr25.1)] yr25.2
      exact w_zret X dX11_needsSkin_34 hr (wb_n _) (hT _ _ (wok_s hf))
  · have hf := wok_t hf (wb_n0 hc)
    refine w_aload_n X dX11_needsSkin_7 rfl rfl rfl ?_
    refine w_iconst X dX11_needsSkin_8 rfl ci_1 ?_
    obtain ⟨yr26, eyr26, hf⟩ := wok_b hf
    refine w_callV X dX11_needsSkin_9 rfl vl_X11_208 (kX11_fails l  eyr26) S0_188 (As := [.int 1]) (st := []) rfl rfl (Nat.le_of_ble_eq_true rfl) ⟨Nat.le_of_ble_eq_true rfl, Nat.le_of_ble_eq_true rfl⟩ ⟨Nat.zero_le _, Nat.zero_le _⟩ (fun r h2 hF => ?_)
    obtain ⟨_, rfl, rfl, rfl⟩ := hF
    show wM p l e (wR 3) s m args below meth c 0 0 (wE below args s D dA b0 ad S0 F) 2 D dA b0 ad S0 12 [some (.ref 188), some (.int x0)] [.int (wb yr26.1)] yr26.2
    exact w_zret X dX11_needsSkin_12 hr (wb_n _) (hT _ _ (wok_s hf))
set_option maxRecDepth 4000 in
theorem kX11_needsSkin (l : Launch) {h : wSt} {x0 : Int32} {res : Bool × wSt} (hf : fX11_needsSkin h x0 = some res) : wC l yX11_needsSkin cX11_needsSkin 2 (some .boolean) 3 S0 [.ref 188, .int x0] h (wFZ (fun a b => res.1 = a ∧ res.2 = b)) := by
  refine w_meth2 0 (by decide) (Nat.le_of_ble_eq_true rfl) (ls := [some (.ref 188), some (.int x0)]) rfl ?_
  intro p e s m args below meth c D dA b0 ad X hr
  exact pX11_needsSkin_b0 X hr  (K := fun z => res = z) (fun x h2 hz => ⟨x, rfl, by rw [hz], by rw [hz]⟩) ⟨res, hf, rfl⟩
set_option maxRecDepth 4000 in
theorem pX11_needsText_b0 (X : wCx p s m args meth c RX11 cX11_needsText 1 D dA b0 ad) (hr : meth.sig.returnType = (some .boolean)) {h : wSt} {K : Bool × wSt → Prop} (hT : ∀ (x : Bool) (h2 : wSt), K (x, h2) → F (some (.int (wb x))) h2) (hf : wok (fX11_needsText h ) K) : wM p l e (wR 3) s m args below meth c 0 0 (wE below args s D dA b0 ad S0 F) 1 D dA b0 ad S0 0 [some (.ref 188)] [] h := by
  unfold fX11_needsText at hf
  refine w_aload_n X dX11_needsText_0 rfl rfl rfl ?_
  obtain ⟨yr21, eyr21, hf⟩ := wok_b hf
  refine w_callV X dX11_needsText_1 rfl vl_X11_276 (kX11_isKept l  eyr21) S0_188 (As := []) (st := []) rfl rfl (Nat.le_of_ble_eq_true rfl) ⟨Nat.le_of_ble_eq_true rfl, Nat.le_of_ble_eq_true rfl⟩ ⟨Nat.zero_le _, Nat.zero_le _⟩ (fun r h2 hF => ?_)
  obtain ⟨_, rfl, rfl, rfl⟩ := hF
  show wM p l e (wR 3) s m args below meth c 0 0 (wE below args s D dA b0 ad S0 F) 1 D dA b0 ad S0 4 [some (.ref 188)] [.int (wb yr21)] h
  refine w_if_eq X dX11_needsText_4 rfl (t := 13) rfl (fun hc => ?_) (fun hc => ?_)
  · have hf := wok_f hf (wb_0 hc)
    refine w_aload_n X dX11_needsText_13 rfl rfl rfl ?_
    refine w_aload_n X dX11_needsText_14 rfl rfl rfl ?_
    refine w_iconst X dX11_needsText_15 rfl ci_0 ?_
    obtain ⟨yr22, eyr22, hf⟩ := wok_b hf
    refine w_callV X dX11_needsText_16 rfl vl_X11_283 (kX11_textNamed l  eyr22) S0_188 (As := [.int 0]) (st := [.ref 188]) rfl rfl (Nat.le_of_ble_eq_true rfl) ⟨Nat.le_of_ble_eq_true rfl, Nat.le_of_ble_eq_true rfl⟩ ⟨Nat.zero_le _, Nat.zero_le _⟩ (fun r h2 hF => ?_)
    obtain ⟨_, rfl, rfl, rfl⟩ := hF
    show wM p l e (wR 3) s m args below meth c 0 0 (wE below args s D dA b0 ad S0 F) 1 D dA b0 ad S0 19 [some (.ref 188)] [.int yr22, .ref 188] h
    refine w_putI X dX11_needsText_19 rfl fp_X11_269 S0_188 rfl ?_
    refine w_nmh (fun yh23 eyh23 => ?_)
    have hf := wok_l hf eyh23
    refine w_aload_n X dX11_needsText_22 rfl rfl rfl ?_
    refine w_getI X dX11_needsText_23 rfl fl_X11_269 S0_188 rfl ?_
    refine w_if_ge X dX11_needsText_26 rfl (t := 35) rfl (fun hc => ?_) (fun hc => ?_)
    · have hf := wok_t hf hc
      refine w_aload_n X dX11_needsText_35 rfl rfl rfl ?_
      obtain ⟨yr24, eyr24, hf⟩ := wok_b hf
      refine w_callV X dX11_needsText_36 rfl vl_X11_215 (kX11_nextToken l  eyr24) S0_188 (As := []) (st := []) rfl rfl (Nat.le_of_ble_eq_true rfl) ⟨Nat.le_of_ble_eq_true rfl, Nat.le_of_ble_eq_true rfl⟩ ⟨Nat.zero_le _, Nat.zero_le _⟩ (fun r h2 hF => ?_)
      obtain ⟨rfl, rfl⟩ := hF
      show wM p l e (wR 3) s m args below meth c 0 0 (wE below args s D dA b0 ad S0 F) 1 D dA b0 ad S0 39 [some (.ref 188)] [] yr24
      refine w_iconst X dX11_needsText_39 rfl ci_1 ?_
      exact w_zret X dX11_needsText_40 hr rfl (hT true _ (wok_s hf))
    · have hf := wok_f hf hc
      refine w_aload_n X dX11_needsText_29 rfl rfl rfl ?_
      refine w_iconst X dX11_needsText_30 rfl ci_2 ?_
      obtain ⟨yr25, eyr25, hf⟩ := wok_b hf
      refine w_callV X dX11_needsText_31 rfl vl_X11_208 (kX11_fails l  eyr25) S0_188 (As := [.int 2]) (st := []) rfl rfl (Nat.le_of_ble_eq_true rfl) ⟨Nat.le_of_ble_eq_true rfl, Nat.le_of_ble_eq_true rfl⟩ ⟨Nat.zero_le _, Nat.zero_le _⟩ (fun r h2 hF => ?_)
      obtain ⟨_, rfl, rfl, rfl⟩ := hF
      show wM p l e (wR 3) s m args below meth c 0 0 (wE below args s D dA b0 ad S0 F) 1 D dA b0 ad S0 34 [some (.ref 188)] [.int (wb yr25.1)] yr25.2
      exact w_zret X dX11_needsText_34 hr (wb_n _) (hT _ _ (wok_s hf))
  · have hf := wok_t hf (wb_n0 hc)
    refine w_aload_n X dX11_needsText_7 rfl rfl rfl ?_
    refine w_iconst X dX11_needsText_8 rfl ci_1 ?_
    obtain ⟨yr26, eyr26, hf⟩ := wok_b hf
    refine w_callV X dX11_needsText_9 rfl vl_X11_208 (kX11_fails l  eyr26) S0_188 (As := [.int 1]) (st := []) rfl rfl (Nat.le_of_ble_eq_true rfl) ⟨Nat.le_of_ble_eq_true rfl, Nat.le_of_ble_eq_true rfl⟩ ⟨Nat.zero_le _, Nat.zero_le _⟩ (fun r h2 hF => ?_)
    obtain ⟨_, rfl, rfl, rfl⟩ := hF
    show wM p l e (wR 3) s m args below meth c 0 0 (wE below args s D dA b0 ad S0 F) 1 D dA b0 ad S0 12 [some (.ref 188)] [.int (wb yr26.1)] yr26.2
    exact w_zret X dX11_needsText_12 hr (wb_n _) (hT _ _ (wok_s hf))
set_option maxRecDepth 4000 in
theorem kX11_needsText (l : Launch) {h : wSt} {res : Bool × wSt} (hf : fX11_needsText h  = some res) : wC l yX11_needsText cX11_needsText 1 (some .boolean) 3 S0 [.ref 188] h (wFZ (fun a b => res.1 = a ∧ res.2 = b)) := by
  refine w_meth2 0 (by decide) (Nat.le_of_ble_eq_true rfl) (ls := [some (.ref 188)]) rfl ?_
  intro p e s m args below meth c D dA b0 ad X hr
  exact pX11_needsText_b0 X hr  (K := fun z => res = z) (fun x h2 hz => ⟨x, rfl, by rw [hz], by rw [hz]⟩) ⟨res, hf, rfl⟩
set_option maxRecDepth 4000 in
theorem pX11_readsSkin_b0 (X : wCx p s m args meth c RX11 cX11_readsSkin 2 D dA b0 ad) (hr : meth.sig.returnType = (some .boolean)) {h : wSt} {K : Bool × wSt → Prop} (hT : ∀ (x : Bool) (h2 : wSt), K (x, h2) → F (some (.int (wb x))) h2) (hf : wok (fX11_readsSkin h ) K) : wM p l e (wR 5) s m args below meth c 0 0 (wE below args s D dA b0 ad S0 F) 2 D dA b0 ad S0 0 [some (.ref 188), none] [] h := by
  unfold fX11_readsSkin at hf
  refine w_iconst X dX11_readsSkin_0 rfl ci_3 ?_
  refine w_aload_n X dX11_readsSkin_1 rfl rfl rfl ?_
  refine w_getR X dX11_readsSkin_2 rfl fl_X11_13 S0_188 rfl ?_
  refine w_iconst X dX11_readsSkin_5 rfl ci_3 ?_
  refine w_iald X dX11_readsSkin_6 rfl (j := 3) cn_3 S0_190 (show wib 3 6 by decide) ?_
  refine w_iadd X dX11_readsSkin_7 rfl ?_
  refine w_istore_n X dX11_readsSkin_8 rfl rfl rfl (Nat.le_of_ble_eq_true rfl) (ls' := [some (.ref 188), some (.int (3 + (h.1 190 3)))]) rfl ?_
  refine w_iload_n X dX11_readsSkin_9 rfl rfl rfl ?_
  refine w_bipush X dX11_readsSkin_10 rfl cb_6 ?_
  refine w_icmp_ne X dX11_readsSkin_12 rfl (t := 21) rfl (fun hc => ?_) (fun hc => ?_)
  · have hf := wok_f hf hc
    refine w_aload_n X dX11_readsSkin_21 rfl rfl rfl ?_
    obtain ⟨yr21, eyr21, hf⟩ := wok_b hf
    refine w_callV X dX11_readsSkin_22 rfl vl_X11_215 (kX11_nextToken l  eyr21) S0_188 (As := []) (st := []) rfl rfl (Nat.le_of_ble_eq_true rfl) ⟨Nat.le_of_ble_eq_true rfl, Nat.le_of_ble_eq_true rfl⟩ ⟨Nat.zero_le _, Nat.zero_le _⟩ (fun r h2 hF => ?_)
    obtain ⟨rfl, rfl⟩ := hF
    show wM p l e (wR 5) s m args below meth c 0 0 (wE below args s D dA b0 ad S0 F) 2 D dA b0 ad S0 25 [some (.ref 188), some (.int (3 + (h.1 190 3)))] [] yr21
    refine w_aload_n X dX11_readsSkin_25 rfl rfl rfl ?_
    obtain ⟨yr22, eyr22, hf⟩ := wok_b hf
    refine w_callV X dX11_readsSkin_26 rfl vl_X11_289 (kX11_needsNew l  eyr22) S0_188 (As := []) (st := []) rfl rfl (Nat.le_of_ble_eq_true rfl) ⟨Nat.le_of_ble_eq_true rfl, Nat.le_of_ble_eq_true rfl⟩ ⟨Nat.zero_le _, Nat.zero_le _⟩ (fun r h2 hF => ?_)
    obtain ⟨_, rfl, rfl, rfl⟩ := hF
    show wM p l e (wR 5) s m args below meth c 0 0 (wE below args s D dA b0 ad S0 F) 2 D dA b0 ad S0 29 [some (.ref 188), some (.int (3 + (h.1 190 3)))] [.int (wb yr22.1)] yr22.2
    refine w_if_eq X dX11_readsSkin_29 rfl (t := 45) rfl (fun hc => ?_) (fun hc => ?_)
    · have hf := wok_f hf (wb_0 hc)
      refine w_iconst X dX11_readsSkin_45 rfl ci_0 ?_
      exact w_zret X dX11_readsSkin_46 hr rfl (hT false _ (wok_s hf))
    · have hf := wok_t hf (wb_n0 hc)
      refine w_aload_n X dX11_readsSkin_32 rfl rfl rfl ?_
      refine w_ldc2 X dX11_readsSkin_33 rfl wd_1405 ?_
      refine w_iconst X dX11_readsSkin_36 rfl ci_1 ?_
      refine w_bipush X dX11_readsSkin_37 rfl cb_6 ?_
      obtain ⟨yr23, eyr23, hf⟩ := wok_b hf
      refine w_callV X dX11_readsSkin_39 rfl vl_X11_292 (kX11_needsBoth l  eyr23) S0_188 (As := [.long 6564799, .int 1, .int 6]) (st := []) rfl rfl (Nat.le_of_ble_eq_true rfl) ⟨Nat.le_of_ble_eq_true rfl, Nat.le_of_ble_eq_true rfl⟩ ⟨Nat.zero_le _, Nat.zero_le _⟩ (fun r h2 hF => ?_)
      obtain ⟨_, rfl, rfl, rfl⟩ := hF
      show wM p l e (wR 5) s m args below meth c 0 0 (wE below args s D dA b0 ad S0 F) 2 D dA b0 ad S0 42 [some (.ref 188), some (.int (3 + (h.1 190 3)))] [.int (wb yr23.1)] yr23.2
      refine w_if_ne X dX11_readsSkin_42 rfl (t := 47) rfl (fun hc => ?_) (fun hc => ?_)
      · have hf := wok_t hf (wb_n0 hc)
        refine w_aload_n X dX11_readsSkin_47 rfl rfl rfl ?_
        refine w_getR X dX11_readsSkin_48 rfl fl_X11_23 S0_188 rfl ?_
        refine w_iload_n X dX11_readsSkin_51 rfl rfl rfl ?_
        refine w_aload_n X dX11_readsSkin_52 rfl rfl rfl ?_
        refine w_getI X dX11_readsSkin_53 rfl fl_X11_269 S0_188 rfl ?_
        obtain ⟨yhg24, hf⟩ := wok_g hf
        refine w_iast X dX11_readsSkin_56 rfl (j := (3 + (h.1 190 3)).toNatClampNeg) rfl S0_193 yhg24 ?_
        refine w_nmh (fun yh25 eyh25 => ?_)
        have hf := wok_l hf eyh25
        refine w_aload_n X dX11_readsSkin_57 rfl rfl rfl ?_
        refine w_ldc2 X dX11_readsSkin_58 rfl wd_1406 ?_
        refine w_iconst X dX11_readsSkin_61 rfl ci_1 ?_
        refine w_bipush X dX11_readsSkin_62 rfl cb_30 ?_
        obtain ⟨yr26, eyr26, hf⟩ := wok_b hf
        refine w_callV X dX11_readsSkin_64 rfl vl_X11_292 (kX11_needsBoth l  eyr26) S0_188 (As := [.long 10792937, .int 1, .int 30]) (st := []) rfl rfl (Nat.le_of_ble_eq_true rfl) ⟨Nat.le_of_ble_eq_true rfl, Nat.le_of_ble_eq_true rfl⟩ ⟨Nat.zero_le _, Nat.zero_le _⟩ (fun r h2 hF => ?_)
        obtain ⟨_, rfl, rfl, rfl⟩ := hF
        show wM p l e (wR 5) s m args below meth c 0 0 (wE below args s D dA b0 ad S0 F) 2 D dA b0 ad S0 67 [some (.ref 188), some (.int (3 + (h.1 190 3)))] [.int (wb yr26.1)] yr26.2
        refine w_if_ne X dX11_readsSkin_67 rfl (t := 72) rfl (fun hc => ?_) (fun hc => ?_)
        · have hf := wok_t hf (wb_n0 hc)
          refine w_aload_n X dX11_readsSkin_72 rfl rfl rfl ?_
          refine w_getR X dX11_readsSkin_73 rfl fl_X11_26 S0_188 rfl ?_
          refine w_iload_n X dX11_readsSkin_76 rfl rfl rfl ?_
          refine w_aload_n X dX11_readsSkin_77 rfl rfl rfl ?_
          refine w_getI X dX11_readsSkin_78 rfl fl_X11_269 S0_188 rfl ?_
          refine w_iast X dX11_readsSkin_81 rfl (j := (3 + (h.1 190 3)).toNatClampNeg) rfl S0_194 yhg24 ?_
          refine w_nmh (fun yh27 eyh27 => ?_)
          have hf := wok_l hf eyh27
          refine w_aload_n X dX11_readsSkin_82 rfl rfl rfl ?_
          refine w_getR X dX11_readsSkin_83 rfl fl_X11_29 S0_188 rfl ?_
          refine w_iload_n X dX11_readsSkin_86 rfl rfl rfl ?_
          refine w_iconst X dX11_readsSkin_87 rfl ci_0 ?_
          refine w_iast X dX11_readsSkin_88 rfl (j := (3 + (h.1 190 3)).toNatClampNeg) rfl S0_195 yhg24 ?_
          refine w_nmh (fun yh28 eyh28 => ?_)
          have hf := wok_l hf eyh28
          refine w_aload_n X dX11_readsSkin_89 rfl rfl rfl ?_
          refine w_getR X dX11_readsSkin_90 rfl fl_X11_16 S0_188 rfl ?_
          refine w_iload_n X dX11_readsSkin_93 rfl rfl rfl ?_
          refine w_aload_n X dX11_readsSkin_94 rfl rfl rfl ?_
          refine w_getJ X dX11_readsSkin_95 rfl fl_X11_286 S0_188 rfl ?_
          refine w_last X dX11_readsSkin_98 rfl (j := (3 + (h.1 190 3)).toNatClampNeg) rfl S0_191 yhg24 ?_
          refine w_nmh (fun yh29 eyh29 => ?_)
          have hf := wok_l hf eyh29
          refine w_aload_n X dX11_readsSkin_99 rfl rfl rfl ?_
          refine w_getR X dX11_readsSkin_100 rfl fl_X11_13 S0_188 rfl ?_
          refine w_iconst X dX11_readsSkin_103 rfl ci_3 ?_
          refine w_dup2 X dX11_readsSkin_104 rfl rfl rfl ?_
          refine w_iald X dX11_readsSkin_105 rfl (j := 3) cn_3 S0_190 (show wib 3 6 by decide) ?_
          refine w_iconst X dX11_readsSkin_106 rfl ci_1 ?_
          refine w_iadd X dX11_readsSkin_107 rfl ?_
          refine w_iast X dX11_readsSkin_108 rfl (j := 3) cn_3 S0_190 (show wib 3 6 by decide) ?_
          refine w_nmh (fun yh30 eyh30 => ?_)
          have hf := wok_l hf eyh30
          refine w_aload_n X dX11_readsSkin_109 rfl rfl rfl ?_
          obtain ⟨yr31, eyr31, hf⟩ := wok_b hf
          refine w_callV X dX11_readsSkin_110 rfl vl_X11_296 (kX11_closes l  eyr31) S0_188 (As := []) (st := []) rfl rfl (Nat.le_of_ble_eq_true rfl) ⟨Nat.le_of_ble_eq_true rfl, Nat.le_of_ble_eq_true rfl⟩ ⟨Nat.zero_le _, Nat.zero_le _⟩ (fun r h2 hF => ?_)
          obtain ⟨_, rfl, rfl, rfl⟩ := hF
          show wM p l e (wR 5) s m args below meth c 0 0 (wE below args s D dA b0 ad S0 F) 2 D dA b0 ad S0 113 [some (.ref 188), some (.int (3 + (h.1 190 3)))] [.int (wb yr31.1)] yr31.2
          exact w_zret X dX11_readsSkin_113 hr (wb_n _) (hT _ _ (wok_s hf))
        · have hf := wok_f hf (wb_0 hc)
          refine w_iconst X dX11_readsSkin_70 rfl ci_0 ?_
          exact w_zret X dX11_readsSkin_71 hr rfl (hT false _ (wok_s hf))
      · have hf := wok_f hf (wb_0 hc)
        refine w_iconst X dX11_readsSkin_45 rfl ci_0 ?_
        exact w_zret X dX11_readsSkin_46 hr rfl (hT false _ (wok_s hf))
  · have hf := wok_t hf hc
    refine w_aload_n X dX11_readsSkin_15 rfl rfl rfl ?_
    refine w_iconst X dX11_readsSkin_16 rfl ci_5 ?_
    obtain ⟨yr32, eyr32, hf⟩ := wok_b hf
    refine w_callV X dX11_readsSkin_17 rfl vl_X11_208 (kX11_fails l  eyr32) S0_188 (As := [.int 5]) (st := []) rfl rfl (Nat.le_of_ble_eq_true rfl) ⟨Nat.le_of_ble_eq_true rfl, Nat.le_of_ble_eq_true rfl⟩ ⟨Nat.zero_le _, Nat.zero_le _⟩ (fun r h2 hF => ?_)
    obtain ⟨_, rfl, rfl, rfl⟩ := hF
    show wM p l e (wR 5) s m args below meth c 0 0 (wE below args s D dA b0 ad S0 F) 2 D dA b0 ad S0 20 [some (.ref 188), some (.int (3 + (h.1 190 3)))] [.int (wb yr32.1)] yr32.2
    exact w_zret X dX11_readsSkin_20 hr (wb_n _) (hT _ _ (wok_s hf))
set_option maxRecDepth 4000 in
theorem kX11_readsSkin (l : Launch) {h : wSt} {res : Bool × wSt} (hf : fX11_readsSkin h  = some res) : wC l yX11_readsSkin cX11_readsSkin 2 (some .boolean) 5 S0 [.ref 188] h (wFZ (fun a b => res.1 = a ∧ res.2 = b)) := by
  refine w_meth2 1 (by decide) (Nat.le_of_ble_eq_true rfl) (ls := [some (.ref 188), none]) rfl ?_
  intro p e s m args below meth c D dA b0 ad X hr
  exact pX11_readsSkin_b0 X hr  (K := fun z => res = z) (fun x h2 hz => ⟨x, rfl, by rw [hz], by rw [hz]⟩) ⟨res, hf, rfl⟩
set_option maxRecDepth 4000 in
theorem pX11_readsHole_b0 (X : wCx p s m args meth c RX11 cX11_readsHole 2 D dA b0 ad) (hr : meth.sig.returnType = (some .boolean)) {h : wSt} {K : Bool × wSt → Prop} (hT : ∀ (x : Bool) (h2 : wSt), K (x, h2) → F (some (.int (wb x))) h2) (hf : wok (fX11_readsHole h ) K) : wM p l e (wR 4) s m args below meth c 0 0 (wE below args s D dA b0 ad S0 F) 2 D dA b0 ad S0 0 [some (.ref 188), none] [] h := by
  unfold fX11_readsHole at hf
  refine w_aload_n X dX11_readsHole_0 rfl rfl rfl ?_
  obtain ⟨yr21, eyr21, hf⟩ := wok_b hf
  refine w_callV X dX11_readsHole_1 rfl vl_X11_215 (kX11_nextToken l  eyr21) S0_188 (As := []) (st := []) rfl rfl (Nat.le_of_ble_eq_true rfl) ⟨Nat.le_of_ble_eq_true rfl, Nat.le_of_ble_eq_true rfl⟩ ⟨Nat.zero_le _, Nat.zero_le _⟩ (fun r h2 hF => ?_)
  obtain ⟨rfl, rfl⟩ := hF
  show wM p l e (wR 4) s m args below meth c 0 0 (wE below args s D dA b0 ad S0 F) 2 D dA b0 ad S0 4 [some (.ref 188), none] [] yr21
  refine w_aload_n X dX11_readsHole_4 rfl rfl rfl ?_
  refine w_iconst X dX11_readsHole_5 rfl ci_1 ?_
  obtain ⟨yr22, eyr22, hf⟩ := wok_b hf
  refine w_callV X dX11_readsHole_6 rfl vl_X11_299 (kX11_needsSkin l  eyr22) S0_188 (As := [.int 1]) (st := []) rfl rfl (Nat.le_of_ble_eq_true rfl) ⟨Nat.le_of_ble_eq_true rfl, Nat.le_of_ble_eq_true rfl⟩ ⟨Nat.zero_le _, Nat.zero_le _⟩ (fun r h2 hF => ?_)
  obtain ⟨_, rfl, rfl, rfl⟩ := hF
  show wM p l e (wR 4) s m args below meth c 0 0 (wE below args s D dA b0 ad S0 F) 2 D dA b0 ad S0 9 [some (.ref 188), none] [.int (wb yr22.1)] yr22.2
  refine w_if_ne X dX11_readsHole_9 rfl (t := 14) rfl (fun hc => ?_) (fun hc => ?_)
  · have hf := wok_t hf (wb_n0 hc)
    refine w_iconst X dX11_readsHole_14 rfl ci_3 ?_
    refine w_aload_n X dX11_readsHole_15 rfl rfl rfl ?_
    refine w_getI X dX11_readsHole_16 rfl fl_X11_269 S0_188 rfl ?_
    refine w_iadd X dX11_readsHole_19 rfl ?_
    refine w_istore_n X dX11_readsHole_20 rfl rfl rfl (Nat.le_of_ble_eq_true rfl) (ls' := [some (.ref 188), some (.int (3 + (yr22.2.1 188 36)))]) rfl ?_
    refine w_aload_n X dX11_readsHole_21 rfl rfl rfl ?_
    refine w_getI X dX11_readsHole_22 rfl fl_X11_169 S0_188 rfl ?_
    refine w_iconst X dX11_readsHole_25 rfl ci_2 ?_
    refine w_icmp_eq X dX11_readsHole_26 rfl (t := 35) rfl (fun hc => ?_) (fun hc => ?_)
    · have hf := wok_t hf hc
      refine w_aload_n X dX11_readsHole_35 rfl rfl rfl ?_
      refine w_getI X dX11_readsHole_36 rfl fl_X11_166 S0_188 rfl ?_
      refine w_aload_n X dX11_readsHole_39 rfl rfl rfl ?_
      refine w_getR X dX11_readsHole_40 rfl fl_X11_23 S0_188 rfl ?_
      refine w_iload_n X dX11_readsHole_43 rfl rfl rfl ?_
      obtain ⟨yhg23, hf⟩ := wok_g hf
      refine w_iald X dX11_readsHole_44 rfl (j := (3 + (yr22.2.1 188 36)).toNatClampNeg) rfl S0_193 yhg23 ?_
      refine w_icmp_lt X dX11_readsHole_45 rfl (t := 54) rfl (fun hc => ?_) (fun hc => ?_)
      · have hf := wok_t hf hc
        refine w_aload_n X dX11_readsHole_54 rfl rfl rfl ?_
        refine w_getR X dX11_readsHole_55 rfl fl_X11_29 S0_188 rfl ?_
        refine w_iload_n X dX11_readsHole_58 rfl rfl rfl ?_
        refine w_iald X dX11_readsHole_59 rfl (j := (3 + (yr22.2.1 188 36)).toNatClampNeg) rfl S0_195 yhg23 ?_
        refine w_aload_n X dX11_readsHole_60 rfl rfl rfl ?_
        refine w_getI X dX11_readsHole_61 rfl fl_X11_166 S0_188 rfl ?_
        refine w_ishr X dX11_readsHole_64 rfl ?_
        refine w_iconst X dX11_readsHole_65 rfl ci_1 ?_
        refine w_iand X dX11_readsHole_66 rfl ?_
        refine w_iconst X dX11_readsHole_67 rfl ci_1 ?_
        refine w_icmp_ne X dX11_readsHole_68 rfl (t := 77) rfl (fun hc => ?_) (fun hc => ?_)
        · have hf := wok_f hf hc
          refine w_aload_n X dX11_readsHole_77 rfl rfl rfl ?_
          refine w_getR X dX11_readsHole_78 rfl fl_X11_29 S0_188 rfl ?_
          refine w_iload_n X dX11_readsHole_81 rfl rfl rfl ?_
          refine w_dup2 X dX11_readsHole_82 rfl rfl rfl ?_
          refine w_iald X dX11_readsHole_83 rfl (j := (3 + (yr22.2.1 188 36)).toNatClampNeg) rfl S0_195 yhg23 ?_
          refine w_iconst X dX11_readsHole_84 rfl ci_1 ?_
          refine w_aload_n X dX11_readsHole_85 rfl rfl rfl ?_
          refine w_getI X dX11_readsHole_86 rfl fl_X11_166 S0_188 rfl ?_
          refine w_ishl X dX11_readsHole_89 rfl ?_
          refine w_ior X dX11_readsHole_90 rfl ?_
          refine w_iast X dX11_readsHole_91 rfl (j := (3 + (yr22.2.1 188 36)).toNatClampNeg) rfl S0_195 yhg23 ?_
          refine w_nmh (fun yh24 eyh24 => ?_)
          have hf := wok_l hf eyh24
          refine w_aload_n X dX11_readsHole_92 rfl rfl rfl ?_
          obtain ⟨yr25, eyr25, hf⟩ := wok_b hf
          refine w_callV X dX11_readsHole_93 rfl vl_X11_215 (kX11_nextToken l  eyr25) S0_188 (As := []) (st := []) rfl rfl (Nat.le_of_ble_eq_true rfl) ⟨Nat.le_of_ble_eq_true rfl, Nat.le_of_ble_eq_true rfl⟩ ⟨Nat.zero_le _, Nat.zero_le _⟩ (fun r h2 hF => ?_)
          obtain ⟨rfl, rfl⟩ := hF
          show wM p l e (wR 4) s m args below meth c 0 0 (wE below args s D dA b0 ad S0 F) 2 D dA b0 ad S0 96 [some (.ref 188), some (.int (3 + (yr22.2.1 188 36)))] [] yr25
          refine w_aload_n X dX11_readsHole_96 rfl rfl rfl ?_
          obtain ⟨yr26, eyr26, hf⟩ := wok_b hf
          refine w_callV X dX11_readsHole_97 rfl vl_X11_296 (kX11_closes l  eyr26) S0_188 (As := []) (st := []) rfl rfl (Nat.le_of_ble_eq_true rfl) ⟨Nat.le_of_ble_eq_true rfl, Nat.le_of_ble_eq_true rfl⟩ ⟨Nat.zero_le _, Nat.zero_le _⟩ (fun r h2 hF => ?_)
          obtain ⟨_, rfl, rfl, rfl⟩ := hF
          show wM p l e (wR 4) s m args below meth c 0 0 (wE below args s D dA b0 ad S0 F) 2 D dA b0 ad S0 100 [some (.ref 188), some (.int (3 + (yr22.2.1 188 36)))] [.int (wb yr26.1)] yr26.2
          exact w_zret X dX11_readsHole_100 hr (wb_n _) (hT _ _ (wok_s hf))
        · have hf := wok_t hf hc
          refine w_aload_n X dX11_readsHole_71 rfl rfl rfl ?_
          refine w_iconst X dX11_readsHole_72 rfl ci_3 ?_
          obtain ⟨yr27, eyr27, hf⟩ := wok_b hf
          refine w_callV X dX11_readsHole_73 rfl vl_X11_208 (kX11_fails l  eyr27) S0_188 (As := [.int 3]) (st := []) rfl rfl (Nat.le_of_ble_eq_true rfl) ⟨Nat.le_of_ble_eq_true rfl, Nat.le_of_ble_eq_true rfl⟩ ⟨Nat.zero_le _, Nat.zero_le _⟩ (fun r h2 hF => ?_)
          obtain ⟨_, rfl, rfl, rfl⟩ := hF
          show wM p l e (wR 4) s m args below meth c 0 0 (wE below args s D dA b0 ad S0 F) 2 D dA b0 ad S0 76 [some (.ref 188), some (.int (3 + (yr22.2.1 188 36)))] [.int (wb yr27.1)] yr27.2
          exact w_zret X dX11_readsHole_76 hr (wb_n _) (hT _ _ (wok_s hf))
      · have hf := wok_f hf hc
        refine w_aload_n X dX11_readsHole_48 rfl rfl rfl ?_
        refine w_iconst X dX11_readsHole_49 rfl ci_4 ?_
        obtain ⟨yr28, eyr28, hf⟩ := wok_b hf
        refine w_callV X dX11_readsHole_50 rfl vl_X11_208 (kX11_fails l  eyr28) S0_188 (As := [.int 4]) (st := []) rfl rfl (Nat.le_of_ble_eq_true rfl) ⟨Nat.le_of_ble_eq_true rfl, Nat.le_of_ble_eq_true rfl⟩ ⟨Nat.zero_le _, Nat.zero_le _⟩ (fun r h2 hF => ?_)
        obtain ⟨_, rfl, rfl, rfl⟩ := hF
        show wM p l e (wR 4) s m args below meth c 0 0 (wE below args s D dA b0 ad S0 F) 2 D dA b0 ad S0 53 [some (.ref 188), some (.int (3 + (yr22.2.1 188 36)))] [.int (wb yr28.1)] yr28.2
        exact w_zret X dX11_readsHole_53 hr (wb_n _) (hT _ _ (wok_s hf))
    · have hf := wok_f hf hc
      refine w_aload_n X dX11_readsHole_29 rfl rfl rfl ?_
      refine w_iconst X dX11_readsHole_30 rfl ci_1 ?_
      obtain ⟨yr29, eyr29, hf⟩ := wok_b hf
      refine w_callV X dX11_readsHole_31 rfl vl_X11_208 (kX11_fails l  eyr29) S0_188 (As := [.int 1]) (st := []) rfl rfl (Nat.le_of_ble_eq_true rfl) ⟨Nat.le_of_ble_eq_true rfl, Nat.le_of_ble_eq_true rfl⟩ ⟨Nat.zero_le _, Nat.zero_le _⟩ (fun r h2 hF => ?_)
      obtain ⟨_, rfl, rfl, rfl⟩ := hF
      show wM p l e (wR 4) s m args below meth c 0 0 (wE below args s D dA b0 ad S0 F) 2 D dA b0 ad S0 34 [some (.ref 188), some (.int (3 + (yr22.2.1 188 36)))] [.int (wb yr29.1)] yr29.2
      exact w_zret X dX11_readsHole_34 hr (wb_n _) (hT _ _ (wok_s hf))
  · have hf := wok_f hf (wb_0 hc)
    refine w_iconst X dX11_readsHole_12 rfl ci_0 ?_
    exact w_zret X dX11_readsHole_13 hr rfl (hT false _ (wok_s hf))
set_option maxRecDepth 4000 in
theorem kX11_readsHole (l : Launch) {h : wSt} {res : Bool × wSt} (hf : fX11_readsHole h  = some res) : wC l yX11_readsHole cX11_readsHole 2 (some .boolean) 4 S0 [.ref 188] h (wFZ (fun a b => res.1 = a ∧ res.2 = b)) := by
  refine w_meth2 1 (by decide) (Nat.le_of_ble_eq_true rfl) (ls := [some (.ref 188), none]) rfl ?_
  intro p e s m args below meth c D dA b0 ad X hr
  exact pX11_readsHole_b0 X hr  (K := fun z => res = z) (fun x h2 hz => ⟨x, rfl, by rw [hz], by rw [hz]⟩) ⟨res, hf, rfl⟩
set_option maxRecDepth 4000 in
theorem pX11_readsText_b151 (X : wCx p s m args meth c RX11 cX11_readsText 2 D dA b0 ad) (hr : meth.sig.returnType = (some .boolean)) {h : wSt} {v1 : Int32} {w1 : Int32} {w2 : Int32} {K : Bool × wSt → Prop} (hT : ∀ (x : Bool) (h2 : wSt), K (x, h2) → F (some (.int (wb x))) h2)  (hf : wok (fX11_readsText_b151 h v1 w1 w2) K) : wM p l e (wR 5) s m args below meth c 0 0 (wE below args s D dA b0 ad S0 F) 2 D dA b0 ad S0 151 [some (.ref 188), some (.int v1)] [.int w2, .int w1, .ref 197] h := by
  unfold fX11_readsText_b151 at hf
  obtain ⟨yhg33, hf⟩ := wok_g hf
  refine w_iast X dX11_readsText_151 rfl (j := w1.toNatClampNeg) rfl S0_197 yhg33 ?_
  refine w_nmh (fun yh34 eyh34 => ?_)
  have hf := wok_l hf eyh34
  refine w_aload_n X dX11_readsText_152 rfl rfl rfl ?_
  refine w_getR X dX11_readsText_153 rfl fl_X11_35 S0_188 rfl ?_
  refine w_iload_n X dX11_readsText_156 rfl rfl rfl ?_
  obtain ⟨yhg35, hf⟩ := wok_g hf
  refine w_iald X dX11_readsText_157 rfl (j := v1.toNatClampNeg) rfl S0_197 yhg35 ?_
  refine w_if_ge X dX11_readsText_158 rfl (t := 167) rfl (fun hc => ?_) (fun hc => ?_)
  · have hf := wok_t hf hc
    refine w_aload_n X dX11_readsText_167 rfl rfl rfl ?_
    obtain ⟨yr36, eyr36, hf⟩ := wok_b hf
    refine w_callV X dX11_readsText_168 rfl vl_X11_215 (kX11_nextToken l  eyr36) S0_188 (As := []) (st := []) rfl rfl (Nat.le_of_ble_eq_true rfl) ⟨Nat.le_of_ble_eq_true rfl, Nat.le_of_ble_eq_true rfl⟩ ⟨Nat.zero_le _, Nat.zero_le _⟩ (fun r h2 hF => ?_)
    obtain ⟨rfl, rfl⟩ := hF
    show wM p l e (wR 5) s m args below meth c 0 0 (wE below args s D dA b0 ad S0 F) 2 D dA b0 ad S0 171 [some (.ref 188), some (.int v1)] [] yr36
    refine w_aload_n X dX11_readsText_171 rfl rfl rfl ?_
    refine w_ldc2 X dX11_readsText_172 rfl wd_1405 ?_
    refine w_iconst X dX11_readsText_175 rfl ci_1 ?_
    refine w_bipush X dX11_readsText_176 rfl cb_6 ?_
    obtain ⟨yr37, eyr37, hf⟩ := wok_b hf
    refine w_callV X dX11_readsText_178 rfl vl_X11_292 (kX11_needsBoth l  eyr37) S0_188 (As := [.long 6564799, .int 1, .int 6]) (st := []) rfl rfl (Nat.le_of_ble_eq_true rfl) ⟨Nat.le_of_ble_eq_true rfl, Nat.le_of_ble_eq_true rfl⟩ ⟨Nat.zero_le _, Nat.zero_le _⟩ (fun r h2 hF => ?_)
    obtain ⟨_, rfl, rfl, rfl⟩ := hF
    show wM p l e (wR 5) s m args below meth c 0 0 (wE below args s D dA b0 ad S0 F) 2 D dA b0 ad S0 181 [some (.ref 188), some (.int v1)] [.int (wb yr37.1)] yr37.2
    refine w_if_ne X dX11_readsText_181 rfl (t := 186) rfl (fun hc => ?_) (fun hc => ?_)
    · have hf := wok_t hf (wb_n0 hc)
      refine w_aload_n X dX11_readsText_186 rfl rfl rfl ?_
      refine w_getR X dX11_readsText_187 rfl fl_X11_38 S0_188 rfl ?_
      refine w_iload_n X dX11_readsText_190 rfl rfl rfl ?_
      refine w_aload_n X dX11_readsText_191 rfl rfl rfl ?_
      refine w_getI X dX11_readsText_192 rfl fl_X11_269 S0_188 rfl ?_
      refine w_iast X dX11_readsText_195 rfl (j := v1.toNatClampNeg) rfl S0_198 yhg35 ?_
      refine w_nmh (fun yh38 eyh38 => ?_)
      have hf := wok_l hf eyh38
      refine w_aload_n X dX11_readsText_196 rfl rfl rfl ?_
      refine w_getR X dX11_readsText_197 rfl fl_X11_20 S0_188 rfl ?_
      refine w_iload_n X dX11_readsText_200 rfl rfl rfl ?_
      refine w_aload_n X dX11_readsText_201 rfl rfl rfl ?_
      refine w_getJ X dX11_readsText_202 rfl fl_X11_286 S0_188 rfl ?_
      refine w_last X dX11_readsText_205 rfl (j := v1.toNatClampNeg) rfl S0_192 yhg35 ?_
      refine w_nmh (fun yh39 eyh39 => ?_)
      have hf := wok_l hf eyh39
      refine w_aload_n X dX11_readsText_206 rfl rfl rfl ?_
      refine w_getR X dX11_readsText_207 rfl fl_X11_13 S0_188 rfl ?_
      refine w_iconst X dX11_readsText_210 rfl ci_4 ?_
      refine w_dup2 X dX11_readsText_211 rfl rfl rfl ?_
      refine w_iald X dX11_readsText_212 rfl (j := 4) cn_4 S0_190 (show wib 4 6 by decide) ?_
      refine w_iconst X dX11_readsText_213 rfl ci_1 ?_
      refine w_iadd X dX11_readsText_214 rfl ?_
      refine w_iast X dX11_readsText_215 rfl (j := 4) cn_4 S0_190 (show wib 4 6 by decide) ?_
      refine w_nmh (fun yh40 eyh40 => ?_)
      have hf := wok_l hf eyh40
      refine w_aload_n X dX11_readsText_216 rfl rfl rfl ?_
      obtain ⟨yr41, eyr41, hf⟩ := wok_b hf
      refine w_callV X dX11_readsText_217 rfl vl_X11_296 (kX11_closes l  eyr41) S0_188 (As := []) (st := []) rfl rfl (Nat.le_of_ble_eq_true rfl) ⟨Nat.le_of_ble_eq_true rfl, Nat.le_of_ble_eq_true rfl⟩ ⟨Nat.zero_le _, Nat.zero_le _⟩ (fun r h2 hF => ?_)
      obtain ⟨_, rfl, rfl, rfl⟩ := hF
      show wM p l e (wR 5) s m args below meth c 0 0 (wE below args s D dA b0 ad S0 F) 2 D dA b0 ad S0 220 [some (.ref 188), some (.int v1)] [.int (wb yr41.1)] yr41.2
      exact w_zret X dX11_readsText_220 hr (wb_n _) (hT _ _ (wok_s hf))
    · have hf := wok_f hf (wb_0 hc)
      refine w_iconst X dX11_readsText_184 rfl ci_0 ?_
      exact w_zret X dX11_readsText_185 hr rfl (hT false _ (wok_s hf))
  · have hf := wok_f hf hc
    refine w_aload_n X dX11_readsText_161 rfl rfl rfl ?_
    refine w_iconst X dX11_readsText_162 rfl ci_1 ?_
    obtain ⟨yr42, eyr42, hf⟩ := wok_b hf
    refine w_callV X dX11_readsText_163 rfl vl_X11_208 (kX11_fails l  eyr42) S0_188 (As := [.int 1]) (st := []) rfl rfl (Nat.le_of_ble_eq_true rfl) ⟨Nat.le_of_ble_eq_true rfl, Nat.le_of_ble_eq_true rfl⟩ ⟨Nat.zero_le _, Nat.zero_le _⟩ (fun r h2 hF => ?_)
    obtain ⟨_, rfl, rfl, rfl⟩ := hF
    show wM p l e (wR 5) s m args below meth c 0 0 (wE below args s D dA b0 ad S0 F) 2 D dA b0 ad S0 166 [some (.ref 188), some (.int v1)] [.int (wb yr42.1)] yr42.2
    exact w_zret X dX11_readsText_166 hr (wb_n _) (hT _ _ (wok_s hf))
set_option maxRecDepth 4000 in
theorem pX11_readsText_b97 (X : wCx p s m args meth c RX11 cX11_readsText 2 D dA b0 ad) (hr : meth.sig.returnType = (some .boolean)) {h : wSt} {v1 : Int32} {w1 : Int32} {w2 : Int32} {K : Bool × wSt → Prop} (hT : ∀ (x : Bool) (h2 : wSt), K (x, h2) → F (some (.int (wb x))) h2)  (hf : wok (fX11_readsText_b97 h v1 w1 w2) K) : wM p l e (wR 5) s m args below meth c 0 0 (wE below args s D dA b0 ad S0 F) 2 D dA b0 ad S0 97 [some (.ref 188), some (.int v1)] [.int w2, .int w1, .ref 196] h := by
  unfold fX11_readsText_b97 at hf
  obtain ⟨yhg27, hf⟩ := wok_g hf
  refine w_iast X dX11_readsText_97 rfl (j := w1.toNatClampNeg) rfl S0_196 yhg27 ?_
  refine w_nmh (fun yh28 eyh28 => ?_)
  have hf := wok_l hf eyh28
  refine w_aload_n X dX11_readsText_98 rfl rfl rfl ?_
  refine w_getR X dX11_readsText_99 rfl fl_X11_32 S0_188 rfl ?_
  refine w_iload_n X dX11_readsText_102 rfl rfl rfl ?_
  obtain ⟨yhg29, hf⟩ := wok_g hf
  refine w_iald X dX11_readsText_103 rfl (j := v1.toNatClampNeg) rfl S0_196 yhg29 ?_
  refine w_if_ge X dX11_readsText_104 rfl (t := 113) rfl (fun hc => ?_) (fun hc => ?_)
  · have hf := wok_t hf hc
    refine w_aload_n X dX11_readsText_113 rfl rfl rfl ?_
    obtain ⟨yr30, eyr30, hf⟩ := wok_b hf
    refine w_callV X dX11_readsText_114 rfl vl_X11_215 (kX11_nextToken l  eyr30) S0_188 (As := []) (st := []) rfl rfl (Nat.le_of_ble_eq_true rfl) ⟨Nat.le_of_ble_eq_true rfl, Nat.le_of_ble_eq_true rfl⟩ ⟨Nat.zero_le _, Nat.zero_le _⟩ (fun r h2 hF => ?_)
    obtain ⟨rfl, rfl⟩ := hF
    show wM p l e (wR 5) s m args below meth c 0 0 (wE below args s D dA b0 ad S0 F) 2 D dA b0 ad S0 117 [some (.ref 188), some (.int v1)] [] yr30
    refine w_aload_n X dX11_readsText_117 rfl rfl rfl ?_
    refine w_getR X dX11_readsText_118 rfl fl_X11_35 S0_188 rfl ?_
    refine w_iload_n X dX11_readsText_121 rfl rfl rfl ?_
    refine w_aload_n X dX11_readsText_122 rfl rfl rfl ?_
    refine w_ldc2 X dX11_readsText_123 rfl wd_1415 ?_
    obtain ⟨yr31, eyr31, hf⟩ := wok_b hf
    refine w_callV X dX11_readsText_126 rfl vl_X11_200 (kX11_isWord l  eyr31) S0_188 (As := [.long 138846]) (st := [.int v1, .ref 197]) rfl rfl (Nat.le_of_ble_eq_true rfl) ⟨Nat.le_of_ble_eq_true rfl, Nat.le_of_ble_eq_true rfl⟩ ⟨Nat.zero_le _, Nat.zero_le _⟩ (fun r h2 hF => ?_)
    obtain ⟨_, rfl, rfl, rfl⟩ := hF
    show wM p l e (wR 5) s m args below meth c 0 0 (wE below args s D dA b0 ad S0 F) 2 D dA b0 ad S0 129 [some (.ref 188), some (.int v1)] [.int (wb yr31), .int v1, .ref 197] yr30
    refine w_if_eq X dX11_readsText_129 rfl (t := 136) rfl (fun hc => ?_) (fun hc => ?_)
    · have hf := wok_f hf (wb_0 hc)
      refine w_aload_n X dX11_readsText_136 rfl rfl rfl ?_
      refine w_ldc2 X dX11_readsText_137 rfl wd_1416 ?_
      obtain ⟨yr32, eyr32, hf⟩ := wok_b hf
      refine w_callV X dX11_readsText_140 rfl vl_X11_200 (kX11_isWord l  eyr32) S0_188 (As := [.long 385337]) (st := [.int v1, .ref 197]) rfl rfl (Nat.le_of_ble_eq_true rfl) ⟨Nat.le_of_ble_eq_true rfl, Nat.le_of_ble_eq_true rfl⟩ ⟨Nat.zero_le _, Nat.zero_le _⟩ (fun r h2 hF => ?_)
      obtain ⟨_, rfl, rfl, rfl⟩ := hF
      show wM p l e (wR 5) s m args below meth c 0 0 (wE below args s D dA b0 ad S0 F) 2 D dA b0 ad S0 143 [some (.ref 188), some (.int v1)] [.int (wb yr32), .int v1, .ref 197] yr30
      refine w_if_eq X dX11_readsText_143 rfl (t := 150) rfl (fun hc => ?_) (fun hc => ?_)
      · have hf := wok_f hf (wb_0 hc)
        refine w_iconst X dX11_readsText_150 rfl ci_m1 ?_
        exact pX11_readsText_b151 X hr  hT hf
      · have hf := wok_t hf (wb_n0 hc)
        refine w_iconst X dX11_readsText_146 rfl ci_0 ?_
        refine w_goto X dX11_readsText_147 (t := 151) rfl ?_
        exact pX11_readsText_b151 X hr  hT hf
    · have hf := wok_t hf (wb_n0 hc)
      refine w_iconst X dX11_readsText_132 rfl ci_1 ?_
      refine w_goto X dX11_readsText_133 (t := 151) rfl ?_
      exact pX11_readsText_b151 X hr  hT hf
  · have hf := wok_f hf hc
    refine w_aload_n X dX11_readsText_107 rfl rfl rfl ?_
    refine w_iconst X dX11_readsText_108 rfl ci_1 ?_
    obtain ⟨yr43, eyr43, hf⟩ := wok_b hf
    refine w_callV X dX11_readsText_109 rfl vl_X11_208 (kX11_fails l  eyr43) S0_188 (As := [.int 1]) (st := []) rfl rfl (Nat.le_of_ble_eq_true rfl) ⟨Nat.le_of_ble_eq_true rfl, Nat.le_of_ble_eq_true rfl⟩ ⟨Nat.zero_le _, Nat.zero_le _⟩ (fun r h2 hF => ?_)
    obtain ⟨_, rfl, rfl, rfl⟩ := hF
    show wM p l e (wR 5) s m args below meth c 0 0 (wE below args s D dA b0 ad S0 F) 2 D dA b0 ad S0 112 [some (.ref 188), some (.int v1)] [.int (wb yr43.1)] yr43.2
    exact w_zret X dX11_readsText_112 hr (wb_n _) (hT _ _ (wok_s hf))
set_option maxRecDepth 4000 in
theorem pX11_readsText_b0 (X : wCx p s m args meth c RX11 cX11_readsText 2 D dA b0 ad) (hr : meth.sig.returnType = (some .boolean)) {h : wSt} {K : Bool × wSt → Prop} (hT : ∀ (x : Bool) (h2 : wSt), K (x, h2) → F (some (.int (wb x))) h2) (hf : wok (fX11_readsText h ) K) : wM p l e (wR 5) s m args below meth c 0 0 (wE below args s D dA b0 ad S0 F) 2 D dA b0 ad S0 0 [some (.ref 188), none] [] h := by
  unfold fX11_readsText at hf
  refine w_bipush X dX11_readsText_0 rfl cb_6 ?_
  refine w_aload_n X dX11_readsText_2 rfl rfl rfl ?_
  refine w_getR X dX11_readsText_3 rfl fl_X11_13 S0_188 rfl ?_
  refine w_iconst X dX11_readsText_6 rfl ci_4 ?_
  refine w_iald X dX11_readsText_7 rfl (j := 4) cn_4 S0_190 (show wib 4 6 by decide) ?_
  refine w_iadd X dX11_readsText_8 rfl ?_
  refine w_istore_n X dX11_readsText_9 rfl rfl rfl (Nat.le_of_ble_eq_true rfl) (ls' := [some (.ref 188), some (.int (6 + (h.1 190 4)))]) rfl ?_
  refine w_iload_n X dX11_readsText_10 rfl rfl rfl ?_
  refine w_bipush X dX11_readsText_11 rfl cb_12 ?_
  refine w_icmp_ne X dX11_readsText_13 rfl (t := 22) rfl (fun hc => ?_) (fun hc => ?_)
  · have hf := wok_f hf hc
    refine w_aload_n X dX11_readsText_22 rfl rfl rfl ?_
    obtain ⟨yr21, eyr21, hf⟩ := wok_b hf
    refine w_callV X dX11_readsText_23 rfl vl_X11_215 (kX11_nextToken l  eyr21) S0_188 (As := []) (st := []) rfl rfl (Nat.le_of_ble_eq_true rfl) ⟨Nat.le_of_ble_eq_true rfl, Nat.le_of_ble_eq_true rfl⟩ ⟨Nat.zero_le _, Nat.zero_le _⟩ (fun r h2 hF => ?_)
    obtain ⟨rfl, rfl⟩ := hF
    show wM p l e (wR 5) s m args below meth c 0 0 (wE below args s D dA b0 ad S0 F) 2 D dA b0 ad S0 26 [some (.ref 188), some (.int (6 + (h.1 190 4)))] [] yr21
    refine w_aload_n X dX11_readsText_26 rfl rfl rfl ?_
    obtain ⟨yr22, eyr22, hf⟩ := wok_b hf
    refine w_callV X dX11_readsText_27 rfl vl_X11_289 (kX11_needsNew l  eyr22) S0_188 (As := []) (st := []) rfl rfl (Nat.le_of_ble_eq_true rfl) ⟨Nat.le_of_ble_eq_true rfl, Nat.le_of_ble_eq_true rfl⟩ ⟨Nat.zero_le _, Nat.zero_le _⟩ (fun r h2 hF => ?_)
    obtain ⟨_, rfl, rfl, rfl⟩ := hF
    show wM p l e (wR 5) s m args below meth c 0 0 (wE below args s D dA b0 ad S0 F) 2 D dA b0 ad S0 30 [some (.ref 188), some (.int (6 + (h.1 190 4)))] [.int (wb yr22.1)] yr22.2
    refine w_if_ne X dX11_readsText_30 rfl (t := 35) rfl (fun hc => ?_) (fun hc => ?_)
    · have hf := wok_t hf (wb_n0 hc)
      refine w_aload_n X dX11_readsText_35 rfl rfl rfl ?_
      refine w_getR X dX11_readsText_36 rfl fl_X11_32 S0_188 rfl ?_
      refine w_iload_n X dX11_readsText_39 rfl rfl rfl ?_
      refine w_aload_n X dX11_readsText_40 rfl rfl rfl ?_
      refine w_ldc2 X dX11_readsText_41 rfl wd_1417 ?_
      obtain ⟨yr23, eyr23, hf⟩ := wok_b hf
      refine w_callV X dX11_readsText_44 rfl vl_X11_200 (kX11_isWord l  eyr23) S0_188 (As := [.long 1277953191]) (st := [.int (6 + (h.1 190 4)), .ref 196]) rfl rfl (Nat.le_of_ble_eq_true rfl) ⟨Nat.le_of_ble_eq_true rfl, Nat.le_of_ble_eq_true rfl⟩ ⟨Nat.zero_le _, Nat.zero_le _⟩ (fun r h2 hF => ?_)
      obtain ⟨_, rfl, rfl, rfl⟩ := hF
      show wM p l e (wR 5) s m args below meth c 0 0 (wE below args s D dA b0 ad S0 F) 2 D dA b0 ad S0 47 [some (.ref 188), some (.int (6 + (h.1 190 4)))] [.int (wb yr23), .int (6 + (h.1 190 4)), .ref 196] yr22.2
      refine w_if_eq X dX11_readsText_47 rfl (t := 54) rfl (fun hc => ?_) (fun hc => ?_)
      · have hf := wok_f hf (wb_0 hc)
        refine w_aload_n X dX11_readsText_54 rfl rfl rfl ?_
        refine w_ldc2 X dX11_readsText_55 rfl wd_1418 ?_
        obtain ⟨yr24, eyr24, hf⟩ := wok_b hf
        refine w_callV X dX11_readsText_58 rfl vl_X11_200 (kX11_isWord l  eyr24) S0_188 (As := [.long 8878099]) (st := [.int (6 + (h.1 190 4)), .ref 196]) rfl rfl (Nat.le_of_ble_eq_true rfl) ⟨Nat.le_of_ble_eq_true rfl, Nat.le_of_ble_eq_true rfl⟩ ⟨Nat.zero_le _, Nat.zero_le _⟩ (fun r h2 hF => ?_)
        obtain ⟨_, rfl, rfl, rfl⟩ := hF
        show wM p l e (wR 5) s m args below meth c 0 0 (wE below args s D dA b0 ad S0 F) 2 D dA b0 ad S0 61 [some (.ref 188), some (.int (6 + (h.1 190 4)))] [.int (wb yr24), .int (6 + (h.1 190 4)), .ref 196] yr22.2
        refine w_if_eq X dX11_readsText_61 rfl (t := 68) rfl (fun hc => ?_) (fun hc => ?_)
        · have hf := wok_f hf (wb_0 hc)
          refine w_aload_n X dX11_readsText_68 rfl rfl rfl ?_
          refine w_ldc2 X dX11_readsText_69 rfl wd_1419 ?_
          obtain ⟨yr25, eyr25, hf⟩ := wok_b hf
          refine w_callV X dX11_readsText_72 rfl vl_X11_200 (kX11_isWord l  eyr25) S0_188 (As := [.long 261003578]) (st := [.int (6 + (h.1 190 4)), .ref 196]) rfl rfl (Nat.le_of_ble_eq_true rfl) ⟨Nat.le_of_ble_eq_true rfl, Nat.le_of_ble_eq_true rfl⟩ ⟨Nat.zero_le _, Nat.zero_le _⟩ (fun r h2 hF => ?_)
          obtain ⟨_, rfl, rfl, rfl⟩ := hF
          show wM p l e (wR 5) s m args below meth c 0 0 (wE below args s D dA b0 ad S0 F) 2 D dA b0 ad S0 75 [some (.ref 188), some (.int (6 + (h.1 190 4)))] [.int (wb yr25), .int (6 + (h.1 190 4)), .ref 196] yr22.2
          refine w_if_eq X dX11_readsText_75 rfl (t := 82) rfl (fun hc => ?_) (fun hc => ?_)
          · have hf := wok_f hf (wb_0 hc)
            refine w_aload_n X dX11_readsText_82 rfl rfl rfl ?_
            refine w_ldc2 X dX11_readsText_83 rfl wd_1420 ?_
            obtain ⟨yr26, eyr26, hf⟩ := wok_b hf
            refine w_callV X dX11_readsText_86 rfl vl_X11_200 (kX11_isWord l  eyr26) S0_188 (As := [.long 296522]) (st := [.int (6 + (h.1 190 4)), .ref 196]) rfl rfl (Nat.le_of_ble_eq_true rfl) ⟨Nat.le_of_ble_eq_true rfl, Nat.le_of_ble_eq_true rfl⟩ ⟨Nat.zero_le _, Nat.zero_le _⟩ (fun r h2 hF => ?_)
            obtain ⟨_, rfl, rfl, rfl⟩ := hF
            show wM p l e (wR 5) s m args below meth c 0 0 (wE below args s D dA b0 ad S0 F) 2 D dA b0 ad S0 89 [some (.ref 188), some (.int (6 + (h.1 190 4)))] [.int (wb yr26), .int (6 + (h.1 190 4)), .ref 196] yr22.2
            refine w_if_eq X dX11_readsText_89 rfl (t := 96) rfl (fun hc => ?_) (fun hc => ?_)
            · have hf := wok_f hf (wb_0 hc)
              refine w_iconst X dX11_readsText_96 rfl ci_m1 ?_
              exact pX11_readsText_b97 X hr  hT hf
            · have hf := wok_t hf (wb_n0 hc)
              refine w_iconst X dX11_readsText_92 rfl ci_3 ?_
              refine w_goto X dX11_readsText_93 (t := 97) rfl ?_
              exact pX11_readsText_b97 X hr  hT hf
          · have hf := wok_t hf (wb_n0 hc)
            refine w_iconst X dX11_readsText_78 rfl ci_2 ?_
            refine w_goto X dX11_readsText_79 (t := 97) rfl ?_
            exact pX11_readsText_b97 X hr  hT hf
        · have hf := wok_t hf (wb_n0 hc)
          refine w_iconst X dX11_readsText_64 rfl ci_1 ?_
          refine w_goto X dX11_readsText_65 (t := 97) rfl ?_
          exact pX11_readsText_b97 X hr  hT hf
      · have hf := wok_t hf (wb_n0 hc)
        refine w_iconst X dX11_readsText_50 rfl ci_0 ?_
        refine w_goto X dX11_readsText_51 (t := 97) rfl ?_
        exact pX11_readsText_b97 X hr  hT hf
    · have hf := wok_f hf (wb_0 hc)
      refine w_iconst X dX11_readsText_33 rfl ci_0 ?_
      exact w_zret X dX11_readsText_34 hr rfl (hT false _ (wok_s hf))
  · have hf := wok_t hf hc
    refine w_aload_n X dX11_readsText_16 rfl rfl rfl ?_
    refine w_iconst X dX11_readsText_17 rfl ci_5 ?_
    obtain ⟨yr44, eyr44, hf⟩ := wok_b hf
    refine w_callV X dX11_readsText_18 rfl vl_X11_208 (kX11_fails l  eyr44) S0_188 (As := [.int 5]) (st := []) rfl rfl (Nat.le_of_ble_eq_true rfl) ⟨Nat.le_of_ble_eq_true rfl, Nat.le_of_ble_eq_true rfl⟩ ⟨Nat.zero_le _, Nat.zero_le _⟩ (fun r h2 hF => ?_)
    obtain ⟨_, rfl, rfl, rfl⟩ := hF
    show wM p l e (wR 5) s m args below meth c 0 0 (wE below args s D dA b0 ad S0 F) 2 D dA b0 ad S0 21 [some (.ref 188), some (.int (6 + (h.1 190 4)))] [.int (wb yr44.1)] yr44.2
    exact w_zret X dX11_readsText_21 hr (wb_n _) (hT _ _ (wok_s hf))
set_option maxRecDepth 4000 in
theorem kX11_readsText (l : Launch) {h : wSt} {res : Bool × wSt} (hf : fX11_readsText h  = some res) : wC l yX11_readsText cX11_readsText 2 (some .boolean) 5 S0 [.ref 188] h (wFZ (fun a b => res.1 = a ∧ res.2 = b)) := by
  refine w_meth2 1 (by decide) (Nat.le_of_ble_eq_true rfl) (ls := [some (.ref 188), none]) rfl ?_
  intro p e s m args below meth c D dA b0 ad X hr
  exact pX11_readsText_b0 X hr  (K := fun z => res = z) (fun x h2 hz => ⟨x, rfl, by rw [hz], by rw [hz]⟩) ⟨res, hf, rfl⟩
set_option maxRecDepth 4000 in
theorem pX11_readsDamp_b36_19 (X : wCx p s m args meth c RX11 cX11_readsDamp 1 D dA b0 ad) (hr : meth.sig.returnType = (some .boolean)) {h : wSt} {K : (wSt) ⊕ ((wSt) ⊕ (Bool × wSt)) → Prop} (hN : ∀ (nh : wSt), K (.inl nh) → wM p l e (wR 4) s m args below meth c 0 0 (wE below args s D dA b0 ad S0 F) 1 D dA b0 ad S0 19 [some (.ref 188)] [] nh) (hX0 : ∀ (nh : wSt), K (.inr (.inl nh)) → wM p l e (wR 4) s m args below meth c 0 0 (wE below args s D dA b0 ad S0 F) 1 D dA b0 ad S0 117 [some (.ref 188)] [] nh) (hT : ∀ (x : Bool) (h2 : wSt), K (.inr (.inr (x, h2))) → F (some (.int (wb x))) h2) (hf : wok (fX11_readsDamp_b36_19 h ) K) : wM p l e (wR 4) s m args below meth c 0 0 (wE below args s D dA b0 ad S0 F) 1 D dA b0 ad S0 36 [some (.ref 188)] [] h := by
  unfold fX11_readsDamp_b36_19 at hf
  refine w_aload_n X dX11_readsDamp_36 rfl rfl rfl ?_
  refine w_getI X dX11_readsDamp_37 rfl fl_X11_169 S0_188 rfl ?_
  refine w_iconst X dX11_readsDamp_40 rfl ci_2 ?_
  refine w_icmp_eq X dX11_readsDamp_41 rfl (t := 50) rfl (fun hc => ?_) (fun hc => ?_)
  · have hf := wok_t hf hc
    refine w_aload_n X dX11_readsDamp_50 rfl rfl rfl ?_
    refine w_getI X dX11_readsDamp_51 rfl fl_X11_166 S0_188 rfl ?_
    refine w_bipush X dX11_readsDamp_54 rfl cb_9 ?_
    refine w_icmp_le X dX11_readsDamp_56 rfl (t := 65) rfl (fun hc => ?_) (fun hc => ?_)
    · have hf := wok_t hf hc
      refine w_aload_n X dX11_readsDamp_65 rfl rfl rfl ?_
      refine w_getR X dX11_readsDamp_66 rfl fl_X11_13 S0_188 rfl ?_
      refine w_iconst X dX11_readsDamp_69 rfl ci_5 ?_
      refine w_iald X dX11_readsDamp_70 rfl (j := 5) cn_5 S0_190 (show wib 5 6 by decide) ?_
      refine w_bipush X dX11_readsDamp_71 rfl cb_12 ?_
      refine w_icmp_ne X dX11_readsDamp_73 rfl (t := 82) rfl (fun hc => ?_) (fun hc => ?_)
      · have hf := wok_f hf hc
        refine w_aload_n X dX11_readsDamp_82 rfl rfl rfl ?_
        refine w_getR X dX11_readsDamp_83 rfl fl_X11_41 S0_188 rfl ?_
        refine w_bipush X dX11_readsDamp_86 rfl cb_12 ?_
        refine w_aload_n X dX11_readsDamp_88 rfl rfl rfl ?_
        refine w_getR X dX11_readsDamp_89 rfl fl_X11_13 S0_188 rfl ?_
        refine w_iconst X dX11_readsDamp_92 rfl ci_5 ?_
        refine w_iald X dX11_readsDamp_93 rfl (j := 5) cn_5 S0_190 (show wib 5 6 by decide) ?_
        refine w_iadd X dX11_readsDamp_94 rfl ?_
        refine w_aload_n X dX11_readsDamp_95 rfl rfl rfl ?_
        refine w_getI X dX11_readsDamp_96 rfl fl_X11_166 S0_188 rfl ?_
        obtain ⟨yhg22, hf⟩ := wok_g hf
        refine w_iast X dX11_readsDamp_99 rfl (j := (12 + (h.1 190 5)).toNatClampNeg) rfl S0_199 yhg22 ?_
        refine w_nmh (fun yh23 eyh23 => ?_)
        have hf := wok_l hf eyh23
        refine w_aload_n X dX11_readsDamp_100 rfl rfl rfl ?_
        refine w_getR X dX11_readsDamp_101 rfl fl_X11_13 S0_188 rfl ?_
        refine w_iconst X dX11_readsDamp_104 rfl ci_5 ?_
        refine w_dup2 X dX11_readsDamp_105 rfl rfl rfl ?_
        refine w_iald X dX11_readsDamp_106 rfl (j := 5) cn_5 S0_190 (show wib 5 6 by decide) ?_
        refine w_iconst X dX11_readsDamp_107 rfl ci_1 ?_
        refine w_iadd X dX11_readsDamp_108 rfl ?_
        refine w_iast X dX11_readsDamp_109 rfl (j := 5) cn_5 S0_190 (show wib 5 6 by decide) ?_
        refine w_nmh (fun yh24 eyh24 => ?_)
        have hf := wok_l hf eyh24
        refine w_aload_n X dX11_readsDamp_110 rfl rfl rfl ?_
        obtain ⟨yr25, eyr25, hf⟩ := wok_b hf
        refine w_callV X dX11_readsDamp_111 rfl vl_X11_215 (kX11_nextToken l  eyr25) S0_188 (As := []) (st := []) rfl rfl (Nat.le_of_ble_eq_true rfl) ⟨Nat.le_of_ble_eq_true rfl, Nat.le_of_ble_eq_true rfl⟩ ⟨Nat.zero_le _, Nat.zero_le _⟩ (fun r h2 hF => ?_)
        obtain ⟨rfl, rfl⟩ := hF
        show wM p l e (wR 4) s m args below meth c 0 0 (wE below args s D dA b0 ad S0 F) 1 D dA b0 ad S0 114 [some (.ref 188)] [] yr25
        refine w_goto X dX11_readsDamp_114 (t := 19) rfl ?_
        exact hN _ (wok_s hf)
      · have hf := wok_t hf hc
        refine w_aload_n X dX11_readsDamp_76 rfl rfl rfl ?_
        refine w_iconst X dX11_readsDamp_77 rfl ci_5 ?_
        obtain ⟨yr26, eyr26, hf⟩ := wok_b hf
        refine w_callV X dX11_readsDamp_78 rfl vl_X11_208 (kX11_fails l  eyr26) S0_188 (As := [.int 5]) (st := []) rfl rfl (Nat.le_of_ble_eq_true rfl) ⟨Nat.le_of_ble_eq_true rfl, Nat.le_of_ble_eq_true rfl⟩ ⟨Nat.zero_le _, Nat.zero_le _⟩ (fun r h2 hF => ?_)
        obtain ⟨_, rfl, rfl, rfl⟩ := hF
        show wM p l e (wR 4) s m args below meth c 0 0 (wE below args s D dA b0 ad S0 F) 1 D dA b0 ad S0 81 [some (.ref 188)] [.int (wb yr26.1)] yr26.2
        exact w_zret X dX11_readsDamp_81 hr (wb_n _) (hT _ _ (wok_s hf))
    · have hf := wok_f hf hc
      refine w_aload_n X dX11_readsDamp_59 rfl rfl rfl ?_
      refine w_iconst X dX11_readsDamp_60 rfl ci_4 ?_
      obtain ⟨yr27, eyr27, hf⟩ := wok_b hf
      refine w_callV X dX11_readsDamp_61 rfl vl_X11_208 (kX11_fails l  eyr27) S0_188 (As := [.int 4]) (st := []) rfl rfl (Nat.le_of_ble_eq_true rfl) ⟨Nat.le_of_ble_eq_true rfl, Nat.le_of_ble_eq_true rfl⟩ ⟨Nat.zero_le _, Nat.zero_le _⟩ (fun r h2 hF => ?_)
      obtain ⟨_, rfl, rfl, rfl⟩ := hF
      show wM p l e (wR 4) s m args below meth c 0 0 (wE below args s D dA b0 ad S0 F) 1 D dA b0 ad S0 64 [some (.ref 188)] [.int (wb yr27.1)] yr27.2
      exact w_zret X dX11_readsDamp_64 hr (wb_n _) (hT _ _ (wok_s hf))
  · have hf := wok_f hf hc
    refine w_aload_n X dX11_readsDamp_44 rfl rfl rfl ?_
    refine w_iconst X dX11_readsDamp_45 rfl ci_1 ?_
    obtain ⟨yr28, eyr28, hf⟩ := wok_b hf
    refine w_callV X dX11_readsDamp_46 rfl vl_X11_208 (kX11_fails l  eyr28) S0_188 (As := [.int 1]) (st := []) rfl rfl (Nat.le_of_ble_eq_true rfl) ⟨Nat.le_of_ble_eq_true rfl, Nat.le_of_ble_eq_true rfl⟩ ⟨Nat.zero_le _, Nat.zero_le _⟩ (fun r h2 hF => ?_)
    obtain ⟨_, rfl, rfl, rfl⟩ := hF
    show wM p l e (wR 4) s m args below meth c 0 0 (wE below args s D dA b0 ad S0 F) 1 D dA b0 ad S0 49 [some (.ref 188)] [.int (wb yr28.1)] yr28.2
    exact w_zret X dX11_readsDamp_49 hr (wb_n _) (hT _ _ (wok_s hf))
set_option maxRecDepth 4000 in
theorem pX11_readsDamp_l19b (X : wCx p s m args meth c RX11 cX11_readsDamp 1 D dA b0 ad) (hr : meth.sig.returnType = (some .boolean)) {h : wSt} {K : (wSt) ⊕ ((wSt) ⊕ (Bool × wSt)) → Prop} (hN : ∀ (nh : wSt), K (.inl nh) → wM p l e (wR 4) s m args below meth c 0 0 (wE below args s D dA b0 ad S0 F) 1 D dA b0 ad S0 19 [some (.ref 188)] [] nh) (hX0 : ∀ (nh : wSt), K (.inr (.inl nh)) → wM p l e (wR 4) s m args below meth c 0 0 (wE below args s D dA b0 ad S0 F) 1 D dA b0 ad S0 117 [some (.ref 188)] [] nh) (hT : ∀ (x : Bool) (h2 : wSt), K (.inr (.inr (x, h2))) → F (some (.int (wb x))) h2) (hf : wok (fX11_readsDamp_l19 h ) K) : wM p l e (wR 4) s m args below meth c 0 0 (wE below args s D dA b0 ad S0 F) 1 D dA b0 ad S0 19 [some (.ref 188)] [] h := by
  unfold fX11_readsDamp_l19 at hf
  refine w_aload_n X dX11_readsDamp_19 rfl rfl rfl ?_
  refine w_getR X dX11_readsDamp_20 rfl fl_X11_13 S0_188 rfl ?_
  refine w_iconst X dX11_readsDamp_23 rfl ci_5 ?_
  refine w_iald X dX11_readsDamp_24 rfl (j := 5) cn_5 S0_190 (show wib 5 6 by decide) ?_
  refine w_if_eq X dX11_readsDamp_25 rfl (t := 36) rfl (fun hc => ?_) (fun hc => ?_)
  · have hf := wok_t hf hc
    exact pX11_readsDamp_b36_19 X hr  hN hX0 hT hf
  · have hf := wok_f hf hc
    refine w_aload_n X dX11_readsDamp_28 rfl rfl rfl ?_
    refine w_getI X dX11_readsDamp_29 rfl fl_X11_169 S0_188 rfl ?_
    refine w_iconst X dX11_readsDamp_32 rfl ci_2 ?_
    refine w_icmp_ne X dX11_readsDamp_33 rfl (t := 117) rfl (fun hc => ?_) (fun hc => ?_)
    · have hf := wok_f hf hc
      exact hX0 _ (wok_s hf)
    · have hf := wok_t hf hc
      exact pX11_readsDamp_b36_19 X hr  hN hX0 hT hf
set_option maxRecDepth 4000 in
theorem pX11_readsDamp_l19 (X : wCx p s m args meth c RX11 cX11_readsDamp 1 D dA b0 ad) (hr : meth.sig.returnType = (some .boolean))  {KE : (wSt) ⊕ (Bool × wSt) → Prop} (hX0 : ∀ (nh : wSt), KE ((.inl nh)) → wM p l e (wR 4) s m args below meth c 0 0 (wE below args s D dA b0 ad S0 F) 1 D dA b0 ad S0 117 [some (.ref 188)] [] nh) (hT : ∀ (x : Bool) (h2 : wSt), KE ((.inr (x, h2))) → F (some (.int (wb x))) h2) : ∀ (n : Nat) (h : wSt), wok (wit (fun v : (wSt) => fX11_readsDamp_l19 v ) n h) KE → wM p l e (wR 4) s m args below meth c 0 0 (wE below args s D dA b0 ad S0 F) 1 D dA b0 ad S0 19 [some (.ref 188)] [] h := by
  have key := wit_M (b := (fun v : (wSt) => fX11_readsDamp_l19 v )) (KE := KE) (G := fun v => wM p l e (wR 4) s m args below meth c 0 0 (wE below args s D dA b0 ad S0 F) 1 D dA b0 ad S0 19 [some (.ref 188)] [] v) (fun v K hN hE hf => pX11_readsDamp_l19b X hr  (fun  nh hz => hN nh hz) (fun z0 hz => hX0 z0 (hE _ hz)) (fun z0 z1 hz => hT z0 z1 (hE _ hz)) hf)
  exact fun n h hf => key n h hf
set_option maxRecDepth 4000 in
theorem pX11_readsDamp_b0 (X : wCx p s m args meth c RX11 cX11_readsDamp 1 D dA b0 ad) (hr : meth.sig.returnType = (some .boolean)) {h : wSt} {K : Bool × wSt → Prop} (hT : ∀ (x : Bool) (h2 : wSt), K (x, h2) → F (some (.int (wb x))) h2) (hf : wok (fX11_readsDamp h ) K) : wM p l e (wR 4) s m args below meth c 0 0 (wE below args s D dA b0 ad S0 F) 1 D dA b0 ad S0 0 [some (.ref 188)] [] h := by
  unfold fX11_readsDamp at hf
  refine w_aload_n X dX11_readsDamp_0 rfl rfl rfl ?_
  refine w_getR X dX11_readsDamp_1 rfl fl_X11_13 S0_188 rfl ?_
  refine w_iconst X dX11_readsDamp_4 rfl ci_5 ?_
  refine w_iald X dX11_readsDamp_5 rfl (j := 5) cn_5 S0_190 (show wib 5 6 by decide) ?_
  refine w_if_le X dX11_readsDamp_6 rfl (t := 15) rfl (fun hc => ?_) (fun hc => ?_)
  · have hf := wok_t hf hc
    refine w_aload_n X dX11_readsDamp_15 rfl rfl rfl ?_
    obtain ⟨yr21, eyr21, hf⟩ := wok_b hf
    refine w_callV X dX11_readsDamp_16 rfl vl_X11_215 (kX11_nextToken l  eyr21) S0_188 (As := []) (st := []) rfl rfl (Nat.le_of_ble_eq_true rfl) ⟨Nat.le_of_ble_eq_true rfl, Nat.le_of_ble_eq_true rfl⟩ ⟨Nat.zero_le _, Nat.zero_le _⟩ (fun r h2 hF => ?_)
    obtain ⟨rfl, rfl⟩ := hF
    show wM p l e (wR 4) s m args below meth c 0 0 (wE below args s D dA b0 ad S0 F) 1 D dA b0 ad S0 19 [some (.ref 188)] [] yr21
    obtain ⟨ye29, hye29, hf⟩ := wok_b hf
    refine pX11_readsDamp_l19 X hr  (KE := fun z => ye29 = z) ?_ ?_ 3000 _ ⟨ye29, hye29, rfl⟩
    · intro yz30 hz
      subst hz
      refine w_aload_n X dX11_readsDamp_117 rfl rfl rfl ?_
      obtain ⟨yr31, eyr31, hf⟩ := wok_b hf
      refine w_callV X dX11_readsDamp_118 rfl vl_X11_296 (kX11_closes l  eyr31) S0_188 (As := []) (st := []) rfl rfl (Nat.le_of_ble_eq_true rfl) ⟨Nat.le_of_ble_eq_true rfl, Nat.le_of_ble_eq_true rfl⟩ ⟨Nat.zero_le _, Nat.zero_le _⟩ (fun r h2 hF => ?_)
      obtain ⟨_, rfl, rfl, rfl⟩ := hF
      show wM p l e (wR 4) s m args below meth c 0 0 (wE below args s D dA b0 ad S0 F) 1 D dA b0 ad S0 121 [some (.ref 188)] [.int (wb yr31.1)] yr31.2
      exact w_zret X dX11_readsDamp_121 hr (wb_n _) (hT _ _ (wok_s hf))
    · intro z zh hz
      subst hz
      exact hT _ _ (wok_s hf)
  · have hf := wok_f hf hc
    refine w_aload_n X dX11_readsDamp_9 rfl rfl rfl ?_
    refine w_iconst X dX11_readsDamp_10 rfl ci_3 ?_
    obtain ⟨yr32, eyr32, hf⟩ := wok_b hf
    refine w_callV X dX11_readsDamp_11 rfl vl_X11_208 (kX11_fails l  eyr32) S0_188 (As := [.int 3]) (st := []) rfl rfl (Nat.le_of_ble_eq_true rfl) ⟨Nat.le_of_ble_eq_true rfl, Nat.le_of_ble_eq_true rfl⟩ ⟨Nat.zero_le _, Nat.zero_le _⟩ (fun r h2 hF => ?_)
    obtain ⟨_, rfl, rfl, rfl⟩ := hF
    show wM p l e (wR 4) s m args below meth c 0 0 (wE below args s D dA b0 ad S0 F) 1 D dA b0 ad S0 14 [some (.ref 188)] [.int (wb yr32.1)] yr32.2
    exact w_zret X dX11_readsDamp_14 hr (wb_n _) (hT _ _ (wok_s hf))
set_option maxRecDepth 4000 in
theorem kX11_readsDamp (l : Launch) {h : wSt} {res : Bool × wSt} (hf : fX11_readsDamp h  = some res) : wC l yX11_readsDamp cX11_readsDamp 1 (some .boolean) 4 S0 [.ref 188] h (wFZ (fun a b => res.1 = a ∧ res.2 = b)) := by
  refine w_meth2 0 (by decide) (Nat.le_of_ble_eq_true rfl) (ls := [some (.ref 188)]) rfl ?_
  intro p e s m args below meth c D dA b0 ad X hr
  exact pX11_readsDamp_b0 X hr  (K := fun z => res = z) (fun x h2 hz => ⟨x, rfl, by rw [hz], by rw [hz]⟩) ⟨res, hf, rfl⟩
set_option maxRecDepth 4000 in
theorem pX11_readsShows_b0 (X : wCx p s m args meth c RX11 cX11_readsShows 1 D dA b0 ad) (hr : meth.sig.returnType = (some .boolean)) {h : wSt} {K : Bool × wSt → Prop} (hT : ∀ (x : Bool) (h2 : wSt), K (x, h2) → F (some (.int (wb x))) h2) (hf : wok (fX11_readsShows h ) K) : wM p l e (wR 4) s m args below meth c 0 0 (wE below args s D dA b0 ad S0 F) 1 D dA b0 ad S0 0 [some (.ref 188)] [] h := by
  unfold fX11_readsShows at hf
  refine w_aload_n X dX11_readsShows_0 rfl rfl rfl ?_
  refine w_getR X dX11_readsShows_1 rfl fl_X11_47 S0_188 rfl ?_
  refine w_iconst X dX11_readsShows_4 rfl ci_1 ?_
  refine w_iald X dX11_readsShows_5 rfl (j := 1) cn_1 S0_201 (show wib 1 2 by decide) ?_
  refine w_aload_n X dX11_readsShows_6 rfl rfl rfl ?_
  refine w_getR X dX11_readsShows_7 rfl fl_X11_44 S0_188 rfl ?_
  refine w_iconst X dX11_readsShows_10 rfl ci_1 ?_
  refine w_iald X dX11_readsShows_11 rfl (j := 1) cn_1 S0_200 (show wib 1 2 by decide) ?_
  refine w_icmp_le X dX11_readsShows_12 rfl (t := 21) rfl (fun hc => ?_) (fun hc => ?_)
  · have hf := wok_t hf hc
    refine w_aload_n X dX11_readsShows_21 rfl rfl rfl ?_
    obtain ⟨yr21, eyr21, hf⟩ := wok_b hf
    refine w_callV X dX11_readsShows_22 rfl vl_X11_215 (kX11_nextToken l  eyr21) S0_188 (As := []) (st := []) rfl rfl (Nat.le_of_ble_eq_true rfl) ⟨Nat.le_of_ble_eq_true rfl, Nat.le_of_ble_eq_true rfl⟩ ⟨Nat.zero_le _, Nat.zero_le _⟩ (fun r h2 hF => ?_)
    obtain ⟨rfl, rfl⟩ := hF
    show wM p l e (wR 4) s m args below meth c 0 0 (wE below args s D dA b0 ad S0 F) 1 D dA b0 ad S0 25 [some (.ref 188)] [] yr21
    refine w_aload_n X dX11_readsShows_25 rfl rfl rfl ?_
    refine w_getR X dX11_readsShows_26 rfl fl_X11_44 S0_188 rfl ?_
    refine w_iconst X dX11_readsShows_29 rfl ci_1 ?_
    refine w_aload_n X dX11_readsShows_30 rfl rfl rfl ?_
    refine w_getI X dX11_readsShows_31 rfl fl_X11_183 S0_188 rfl ?_
    refine w_iast X dX11_readsShows_34 rfl (j := 1) cn_1 S0_200 (show wib 1 2 by decide) ?_
    refine w_nmh (fun yh22 eyh22 => ?_)
    have hf := wok_l hf eyh22
    refine w_aload_n X dX11_readsShows_35 rfl rfl rfl ?_
    obtain ⟨yr23, eyr23, hf⟩ := wok_b hf
    refine w_callV X dX11_readsShows_36 rfl vl_X11_302 (kX11_reads l  eyr23) S0_188 (As := []) (st := []) rfl rfl (Nat.le_of_ble_eq_true rfl) ⟨Nat.le_of_ble_eq_true rfl, Nat.le_of_ble_eq_true rfl⟩ ⟨Nat.zero_le _, Nat.zero_le _⟩ (fun r h2 hF => ?_)
    obtain ⟨_, rfl, rfl, rfl⟩ := hF
    show wM p l e (wR 4) s m args below meth c 0 0 (wE below args s D dA b0 ad S0 F) 1 D dA b0 ad S0 39 [some (.ref 188)] [.int (wb yr23.1)] yr23.2
    refine w_if_ne X dX11_readsShows_39 rfl (t := 44) rfl (fun hc => ?_) (fun hc => ?_)
    · have hf := wok_t hf (wb_n0 hc)
      refine w_aload_n X dX11_readsShows_44 rfl rfl rfl ?_
      refine w_getR X dX11_readsShows_45 rfl fl_X11_47 S0_188 rfl ?_
      refine w_iconst X dX11_readsShows_48 rfl ci_1 ?_
      refine w_aload_n X dX11_readsShows_49 rfl rfl rfl ?_
      refine w_getI X dX11_readsShows_50 rfl fl_X11_183 S0_188 rfl ?_
      refine w_iast X dX11_readsShows_53 rfl (j := 1) cn_1 S0_201 (show wib 1 2 by decide) ?_
      refine w_nmh (fun yh24 eyh24 => ?_)
      have hf := wok_l hf eyh24
      refine w_iconst X dX11_readsShows_54 rfl ci_1 ?_
      exact w_zret X dX11_readsShows_55 hr rfl (hT true _ (wok_s hf))
    · have hf := wok_f hf (wb_0 hc)
      refine w_iconst X dX11_readsShows_42 rfl ci_0 ?_
      exact w_zret X dX11_readsShows_43 hr rfl (hT false _ (wok_s hf))
  · have hf := wok_f hf hc
    refine w_aload_n X dX11_readsShows_15 rfl rfl rfl ?_
    refine w_iconst X dX11_readsShows_16 rfl ci_3 ?_
    obtain ⟨yr25, eyr25, hf⟩ := wok_b hf
    refine w_callV X dX11_readsShows_17 rfl vl_X11_208 (kX11_fails l  eyr25) S0_188 (As := [.int 3]) (st := []) rfl rfl (Nat.le_of_ble_eq_true rfl) ⟨Nat.le_of_ble_eq_true rfl, Nat.le_of_ble_eq_true rfl⟩ ⟨Nat.zero_le _, Nat.zero_le _⟩ (fun r h2 hF => ?_)
    obtain ⟨_, rfl, rfl, rfl⟩ := hF
    show wM p l e (wR 4) s m args below meth c 0 0 (wE below args s D dA b0 ad S0 F) 1 D dA b0 ad S0 20 [some (.ref 188)] [.int (wb yr25.1)] yr25.2
    exact w_zret X dX11_readsShows_20 hr (wb_n _) (hT _ _ (wok_s hf))
set_option maxRecDepth 4000 in
theorem kX11_readsShows (l : Launch) {h : wSt} {res : Bool × wSt} (hf : fX11_readsShows h  = some res) : wC l yX11_readsShows cX11_readsShows 1 (some .boolean) 4 S0 [.ref 188] h (wFZ (fun a b => res.1 = a ∧ res.2 = b)) := by
  refine w_meth2 0 (by decide) (Nat.le_of_ble_eq_true rfl) (ls := [some (.ref 188)]) rfl ?_
  intro p e s m args below meth c D dA b0 ad X hr
  exact pX11_readsShows_b0 X hr  (K := fun z => res = z) (fun x h2 hz => ⟨x, rfl, by rw [hz], by rw [hz]⟩) ⟨res, hf, rfl⟩
set_option maxRecDepth 4000 in
theorem pX11_begins_b0 (X : wCx p s m args meth c RX11 cX11_begins 1 D dA b0 ad) (hr : meth.sig.returnType = none) {h : wSt} {K : wSt → Prop} (hT : ∀ (h2 : wSt), K h2 → F none h2) (hf : wok (fX11_begins h ) K) : wM p l e (wR 3) s m args below meth c 0 0 (wE below args s D dA b0 ad S0 F) 1 D dA b0 ad S0 0 [some (.ref 188)] [] h := by
  unfold fX11_begins at hf
  refine w_aload_n X dX11_begins_0 rfl rfl rfl ?_
  refine w_aload_n X dX11_begins_1 rfl rfl rfl ?_
  refine w_getI X dX11_begins_2 rfl fl_X11_150 S0_188 rfl ?_
  refine w_putI X dX11_begins_5 rfl fp_X11_153 S0_188 rfl ?_
  refine w_nmh (fun yh21 eyh21 => ?_)
  have hf := wok_l hf eyh21
  refine w_aload_n X dX11_begins_8 rfl rfl rfl ?_
  refine w_iconst X dX11_begins_9 rfl ci_0 ?_
  refine w_putI X dX11_begins_10 rfl fp_X11_150 S0_188 rfl ?_
  refine w_nmh (fun yh22 eyh22 => ?_)
  have hf := wok_l hf eyh22
  refine w_aload_n X dX11_begins_13 rfl rfl rfl ?_
  refine w_iconst X dX11_begins_14 rfl ci_0 ?_
  refine w_putI X dX11_begins_15 rfl fp_X11_156 S0_188 rfl ?_
  refine w_nmh (fun yh23 eyh23 => ?_)
  have hf := wok_l hf eyh23
  refine w_aload_n X dX11_begins_18 rfl rfl rfl ?_
  obtain ⟨yr24, eyr24, hf⟩ := wok_b hf
  refine w_callV X dX11_begins_19 rfl vl_X11_215 (kX11_nextToken l  eyr24) S0_188 (As := []) (st := []) rfl rfl (Nat.le_of_ble_eq_true rfl) ⟨Nat.le_of_ble_eq_true rfl, Nat.le_of_ble_eq_true rfl⟩ ⟨Nat.zero_le _, Nat.zero_le _⟩ (fun r h2 hF => ?_)
  obtain ⟨rfl, rfl⟩ := hF
  show wM p l e (wR 3) s m args below meth c 0 0 (wE below args s D dA b0 ad S0 F) 1 D dA b0 ad S0 22 [some (.ref 188)] [] yr24
  exact w_vret X dX11_begins_22 hr (hT _ (wok_s hf))
set_option maxRecDepth 4000 in
theorem kX11_begins (l : Launch) {h : wSt} {res : wSt} (hf : fX11_begins h  = some res) : wC l yX11_begins cX11_begins 1 none 3 S0 [.ref 188] h (wFV (fun b => res = b)) := by
  refine w_meth2 0 (by decide) (Nat.le_of_ble_eq_true rfl) (ls := [some (.ref 188)]) rfl ?_
  intro p e s m args below meth c D dA b0 ad X hr
  exact pX11_begins_b0 X hr  (K := fun z => res = z) (fun h2 hz => ⟨rfl, hz⟩) ⟨res, hf, rfl⟩
set_option maxRecDepth 4000 in
theorem pX11_readsAll_l2b (X : wCx p s m args meth c RX11 cX11_readsAll 2 D dA b0 ad) (hr : meth.sig.returnType = (some .boolean)) {h : wSt} {v1 : Int32} {K : (Int32 × wSt) ⊕ ((wSt)) → Prop} (hN : ∀ (n1 : Int32) (nh : wSt), K (.inl (n1, nh)) → wM p l e (wR 6) s m args below meth c 0 0 (wE below args s D dA b0 ad S0 F) 2 D dA b0 ad S0 2 [some (.ref 188), some (.int n1)] [] nh) (hX0 : ∀ (nh : wSt), K (.inr nh) → wM p l e (wR 6) s m args below meth c 0 0 (wE below args s D dA b0 ad S0 F) 2 D dA b0 ad S0 22 [some (.ref 188), none] [] nh) (hf : wok (fX11_readsAll_l2 h v1) K) : wM p l e (wR 6) s m args below meth c 0 0 (wE below args s D dA b0 ad S0 F) 2 D dA b0 ad S0 2 [some (.ref 188), some (.int v1)] [] h := by
  unfold fX11_readsAll_l2 at hf
  refine w_iload_n X dX11_readsAll_2 rfl rfl rfl ?_
  refine w_iconst X dX11_readsAll_3 rfl ci_3 ?_
  refine w_icmp_ge X dX11_readsAll_4 rfl (t := 22) rfl (fun hc => ?_) (fun hc => ?_)
  · have hf := wok_t hf hc
    refine w_fg (ls2 := [some (.ref 188), none]) ⟨rfl, trivial⟩ ?_
    exact hX0 _ (wok_s hf)
  · have hf := wok_f hf hc
    refine w_aload_n X dX11_readsAll_7 rfl rfl rfl ?_
    refine w_getR X dX11_readsAll_8 rfl fl_X11_13 S0_188 rfl ?_
    refine w_iconst X dX11_readsAll_11 rfl ci_3 ?_
    refine w_iload_n X dX11_readsAll_12 rfl rfl rfl ?_
    refine w_iadd X dX11_readsAll_13 rfl ?_
    refine w_iconst X dX11_readsAll_14 rfl ci_0 ?_
    obtain ⟨yhg21, hf⟩ := wok_g hf
    refine w_iast X dX11_readsAll_15 rfl (j := (3 + v1).toNatClampNeg) rfl S0_190 yhg21 ?_
    refine w_nmh (fun yh22 eyh22 => ?_)
    have hf := wok_l hf eyh22
    refine w_iinc X dX11_readsAll_16 rfl (v := (v1 + 1)) rfl rfl (Nat.le_of_ble_eq_true rfl) (cinc_1 _) (ls' := [some (.ref 188), some (.int (v1 + 1))]) rfl ?_
    refine w_goto X dX11_readsAll_19 (t := 2) rfl ?_
    exact hN _ _ (wok_s hf)
set_option maxRecDepth 4000 in
theorem pX11_readsAll_l2 (X : wCx p s m args meth c RX11 cX11_readsAll 2 D dA b0 ad) (hr : meth.sig.returnType = (some .boolean))  {KE : (wSt) → Prop} (hX0 : ∀ (nh : wSt), KE (nh) → wM p l e (wR 6) s m args below meth c 0 0 (wE below args s D dA b0 ad S0 F) 2 D dA b0 ad S0 22 [some (.ref 188), none] [] nh) : ∀ (n : Nat) (v1 : Int32) (h : wSt), wok (wit (fun v : (Int32 × wSt) => fX11_readsAll_l2 v.2 v.1) n (v1, h)) KE → wM p l e (wR 6) s m args below meth c 0 0 (wE below args s D dA b0 ad S0 F) 2 D dA b0 ad S0 2 [some (.ref 188), some (.int v1)] [] h := by
  have key := wit_M (b := (fun v : (Int32 × wSt) => fX11_readsAll_l2 v.2 v.1)) (KE := KE) (G := fun v => wM p l e (wR 6) s m args below meth c 0 0 (wE below args s D dA b0 ad S0 F) 2 D dA b0 ad S0 2 [some (.ref 188), some (.int v.1)] [] v.2) (fun v K hN hE hf => pX11_readsAll_l2b X hr  (fun n1 nh hz => hN (n1, nh) hz) (fun z0 hz => hX0 z0 (hE _ hz)) hf)
  exact fun n v1 h hf => key n (v1, h) hf
set_option maxRecDepth 4000 in
theorem pX11_readsAll_b148_51 (X : wCx p s m args meth c RX11 cX11_readsAll 2 D dA b0 ad) (hr : meth.sig.returnType = (some .boolean)) {h : wSt} {w0 : Int32} {K : (wSt) ⊕ ((wSt) ⊕ (Bool × wSt)) → Prop} (hN : ∀ (nh : wSt), K (.inl nh) → wM p l e (wR 6) s m args below meth c 0 0 (wE below args s D dA b0 ad S0 F) 2 D dA b0 ad S0 51 [some (.ref 188), none] [] nh) (hX0 : ∀ (nh : wSt), K (.inr (.inl nh)) → wM p l e (wR 6) s m args below meth c 0 0 (wE below args s D dA b0 ad S0 F) 2 D dA b0 ad S0 158 [none, none] [] nh) (hT : ∀ (x : Bool) (h2 : wSt), K (.inr (.inr (x, h2))) → F (some (.int (wb x))) h2) (hf : wok (fX11_readsAll_b148_51 h w0) K) : wM p l e (wR 6) s m args below meth c 0 0 (wE below args s D dA b0 ad S0 F) 2 D dA b0 ad S0 148 [some (.ref 188), none] [.int w0] h := by
  unfold fX11_readsAll_b148_51 at hf
  refine w_istore_n X dX11_readsAll_148 rfl rfl rfl (Nat.le_of_ble_eq_true rfl) (ls' := [some (.ref 188), some (.int w0)]) rfl ?_
  refine w_iload_n X dX11_readsAll_149 rfl rfl rfl ?_
  refine w_if_ne X dX11_readsAll_150 rfl (t := 155) rfl (fun hc => ?_) (fun hc => ?_)
  · have hf := wok_f hf hc
    refine w_goto X dX11_readsAll_155 (t := 51) rfl ?_
    refine w_fg (ls2 := [some (.ref 188), none]) ⟨rfl, trivial⟩ ?_
    exact hN _ (wok_s hf)
  · have hf := wok_t hf hc
    refine w_iconst X dX11_readsAll_153 rfl ci_0 ?_
    exact w_zret X dX11_readsAll_154 hr rfl (hT false _ (wok_s hf))
set_option maxRecDepth 4000 in
theorem pX11_readsAll_l51b (X : wCx p s m args meth c RX11 cX11_readsAll 2 D dA b0 ad) (hr : meth.sig.returnType = (some .boolean)) {h : wSt} {K : (wSt) ⊕ ((wSt) ⊕ (Bool × wSt)) → Prop} (hN : ∀ (nh : wSt), K (.inl nh) → wM p l e (wR 6) s m args below meth c 0 0 (wE below args s D dA b0 ad S0 F) 2 D dA b0 ad S0 51 [some (.ref 188), none] [] nh) (hX0 : ∀ (nh : wSt), K (.inr (.inl nh)) → wM p l e (wR 6) s m args below meth c 0 0 (wE below args s D dA b0 ad S0 F) 2 D dA b0 ad S0 158 [none, none] [] nh) (hT : ∀ (x : Bool) (h2 : wSt), K (.inr (.inr (x, h2))) → F (some (.int (wb x))) h2) (hf : wok (fX11_readsAll_l51 h ) K) : wM p l e (wR 6) s m args below meth c 0 0 (wE below args s D dA b0 ad S0 F) 2 D dA b0 ad S0 51 [some (.ref 188), none] [] h := by
  unfold fX11_readsAll_l51 at hf
  refine w_aload_n X dX11_readsAll_51 rfl rfl rfl ?_
  refine w_getI X dX11_readsAll_52 rfl fl_X11_169 S0_188 rfl ?_
  refine w_if_eq X dX11_readsAll_55 rfl (t := 158) rfl (fun hc => ?_) (fun hc => ?_)
  · have hf := wok_t hf hc
    refine w_fg (ls2 := [none, none]) trivial ?_
    exact hX0 _ (wok_s hf)
  · have hf := wok_f hf hc
    refine w_aload_n X dX11_readsAll_58 rfl rfl rfl ?_
    refine w_ldc2 X dX11_readsAll_59 rfl wd_1384 ?_
    obtain ⟨yr29, eyr29, hf⟩ := wok_b hf
    refine w_callV X dX11_readsAll_62 rfl vl_X11_200 (kX11_isWord l  eyr29) S0_188 (As := [.long 382253]) (st := []) rfl rfl (Nat.le_of_ble_eq_true rfl) ⟨Nat.le_of_ble_eq_true rfl, Nat.le_of_ble_eq_true rfl⟩ ⟨Nat.zero_le _, Nat.zero_le _⟩ (fun r h2 hF => ?_)
    obtain ⟨_, rfl, rfl, rfl⟩ := hF
    show wM p l e (wR 6) s m args below meth c 0 0 (wE below args s D dA b0 ad S0 F) 2 D dA b0 ad S0 65 [some (.ref 188), none] [.int (wb yr29)] h
    refine w_if_eq X dX11_readsAll_65 rfl (t := 75) rfl (fun hc => ?_) (fun hc => ?_)
    · have hf := wok_f hf (wb_0 hc)
      refine w_aload_n X dX11_readsAll_75 rfl rfl rfl ?_
      refine w_ldc2 X dX11_readsAll_76 rfl wd_1407 ?_
      obtain ⟨yr30, eyr30, hf⟩ := wok_b hf
      refine w_callV X dX11_readsAll_79 rfl vl_X11_200 (kX11_isWord l  eyr30) S0_188 (As := [.long 168728]) (st := []) rfl rfl (Nat.le_of_ble_eq_true rfl) ⟨Nat.le_of_ble_eq_true rfl, Nat.le_of_ble_eq_true rfl⟩ ⟨Nat.zero_le _, Nat.zero_le _⟩ (fun r h2 hF => ?_)
      obtain ⟨_, rfl, rfl, rfl⟩ := hF
      show wM p l e (wR 6) s m args below meth c 0 0 (wE below args s D dA b0 ad S0 F) 2 D dA b0 ad S0 82 [some (.ref 188), none] [.int (wb yr30)] h
      refine w_if_eq X dX11_readsAll_82 rfl (t := 92) rfl (fun hc => ?_) (fun hc => ?_)
      · have hf := wok_f hf (wb_0 hc)
        refine w_aload_n X dX11_readsAll_92 rfl rfl rfl ?_
        refine w_ldc2 X dX11_readsAll_93 rfl wd_1408 ?_
        obtain ⟨yr31, eyr31, hf⟩ := wok_b hf
        refine w_callV X dX11_readsAll_96 rfl vl_X11_200 (kX11_isWord l  eyr31) S0_188 (As := [.long 397973]) (st := []) rfl rfl (Nat.le_of_ble_eq_true rfl) ⟨Nat.le_of_ble_eq_true rfl, Nat.le_of_ble_eq_true rfl⟩ ⟨Nat.zero_le _, Nat.zero_le _⟩ (fun r h2 hF => ?_)
        obtain ⟨_, rfl, rfl, rfl⟩ := hF
        show wM p l e (wR 6) s m args below meth c 0 0 (wE below args s D dA b0 ad S0 F) 2 D dA b0 ad S0 99 [some (.ref 188), none] [.int (wb yr31)] h
        refine w_if_eq X dX11_readsAll_99 rfl (t := 109) rfl (fun hc => ?_) (fun hc => ?_)
        · have hf := wok_f hf (wb_0 hc)
          refine w_aload_n X dX11_readsAll_109 rfl rfl rfl ?_
          refine w_ldc2 X dX11_readsAll_110 rfl wd_1409 ?_
          obtain ⟨yr32, eyr32, hf⟩ := wok_b hf
          refine w_callV X dX11_readsAll_113 rfl vl_X11_200 (kX11_isWord l  eyr32) S0_188 (As := [.long 79828]) (st := []) rfl rfl (Nat.le_of_ble_eq_true rfl) ⟨Nat.le_of_ble_eq_true rfl, Nat.le_of_ble_eq_true rfl⟩ ⟨Nat.zero_le _, Nat.zero_le _⟩ (fun r h2 hF => ?_)
          obtain ⟨_, rfl, rfl, rfl⟩ := hF
          show wM p l e (wR 6) s m args below meth c 0 0 (wE below args s D dA b0 ad S0 F) 2 D dA b0 ad S0 116 [some (.ref 188), none] [.int (wb yr32)] h
          refine w_if_eq X dX11_readsAll_116 rfl (t := 126) rfl (fun hc => ?_) (fun hc => ?_)
          · have hf := wok_f hf (wb_0 hc)
            refine w_aload_n X dX11_readsAll_126 rfl rfl rfl ?_
            refine w_ldc2 X dX11_readsAll_127 rfl wd_1410 ?_
            obtain ⟨yr33, eyr33, hf⟩ := wok_b hf
            refine w_callV X dX11_readsAll_130 rfl vl_X11_200 (kX11_isWord l  eyr33) S0_188 (As := [.long 10266418]) (st := []) rfl rfl (Nat.le_of_ble_eq_true rfl) ⟨Nat.le_of_ble_eq_true rfl, Nat.le_of_ble_eq_true rfl⟩ ⟨Nat.zero_le _, Nat.zero_le _⟩ (fun r h2 hF => ?_)
            obtain ⟨_, rfl, rfl, rfl⟩ := hF
            show wM p l e (wR 6) s m args below meth c 0 0 (wE below args s D dA b0 ad S0 F) 2 D dA b0 ad S0 133 [some (.ref 188), none] [.int (wb yr33)] h
            refine w_if_eq X dX11_readsAll_133 rfl (t := 143) rfl (fun hc => ?_) (fun hc => ?_)
            · have hf := wok_f hf (wb_0 hc)
              refine w_aload_n X dX11_readsAll_143 rfl rfl rfl ?_
              refine w_iconst X dX11_readsAll_144 rfl ci_1 ?_
              obtain ⟨yr34, eyr34, hf⟩ := wok_b hf
              refine w_callV X dX11_readsAll_145 rfl vl_X11_208 (kX11_fails l  eyr34) S0_188 (As := [.int 1]) (st := []) rfl rfl (Nat.le_of_ble_eq_true rfl) ⟨Nat.le_of_ble_eq_true rfl, Nat.le_of_ble_eq_true rfl⟩ ⟨Nat.zero_le _, Nat.zero_le _⟩ (fun r h2 hF => ?_)
              obtain ⟨_, rfl, rfl, rfl⟩ := hF
              show wM p l e (wR 6) s m args below meth c 0 0 (wE below args s D dA b0 ad S0 F) 2 D dA b0 ad S0 148 [some (.ref 188), none] [.int (wb yr34.1)] yr34.2
              exact pX11_readsAll_b148_51 X hr  hN hX0 hT hf
            · have hf := wok_t hf (wb_n0 hc)
              refine w_aload_n X dX11_readsAll_136 rfl rfl rfl ?_
              obtain ⟨yr35, eyr35, hf⟩ := wok_b hf
              refine w_callV X dX11_readsAll_137 rfl vl_X11_320 (kX11_readsShows l  eyr35) S0_188 (As := []) (st := []) rfl rfl (Nat.le_of_ble_eq_true rfl) ⟨Nat.le_of_ble_eq_true rfl, Nat.le_of_ble_eq_true rfl⟩ ⟨Nat.zero_le _, Nat.zero_le _⟩ (fun r h2 hF => ?_)
              obtain ⟨_, rfl, rfl, rfl⟩ := hF
              show wM p l e (wR 6) s m args below meth c 0 0 (wE below args s D dA b0 ad S0 F) 2 D dA b0 ad S0 140 [some (.ref 188), none] [.int (wb yr35.1)] yr35.2
              refine w_goto X dX11_readsAll_140 (t := 148) rfl ?_
              exact pX11_readsAll_b148_51 X hr  hN hX0 hT hf
          · have hf := wok_t hf (wb_n0 hc)
            refine w_aload_n X dX11_readsAll_119 rfl rfl rfl ?_
            obtain ⟨yr36, eyr36, hf⟩ := wok_b hf
            refine w_callV X dX11_readsAll_120 rfl vl_X11_317 (kX11_readsDamp l  eyr36) S0_188 (As := []) (st := []) rfl rfl (Nat.le_of_ble_eq_true rfl) ⟨Nat.le_of_ble_eq_true rfl, Nat.le_of_ble_eq_true rfl⟩ ⟨Nat.zero_le _, Nat.zero_le _⟩ (fun r h2 hF => ?_)
            obtain ⟨_, rfl, rfl, rfl⟩ := hF
            show wM p l e (wR 6) s m args below meth c 0 0 (wE below args s D dA b0 ad S0 F) 2 D dA b0 ad S0 123 [some (.ref 188), none] [.int (wb yr36.1)] yr36.2
            refine w_goto X dX11_readsAll_123 (t := 148) rfl ?_
            exact pX11_readsAll_b148_51 X hr  hN hX0 hT hf
        · have hf := wok_t hf (wb_n0 hc)
          refine w_aload_n X dX11_readsAll_102 rfl rfl rfl ?_
          obtain ⟨yr37, eyr37, hf⟩ := wok_b hf
          refine w_callV X dX11_readsAll_103 rfl vl_X11_314 (kX11_readsText l  eyr37) S0_188 (As := []) (st := []) rfl rfl (Nat.le_of_ble_eq_true rfl) ⟨Nat.le_of_ble_eq_true rfl, Nat.le_of_ble_eq_true rfl⟩ ⟨Nat.zero_le _, Nat.zero_le _⟩ (fun r h2 hF => ?_)
          obtain ⟨_, rfl, rfl, rfl⟩ := hF
          show wM p l e (wR 6) s m args below meth c 0 0 (wE below args s D dA b0 ad S0 F) 2 D dA b0 ad S0 106 [some (.ref 188), none] [.int (wb yr37.1)] yr37.2
          refine w_goto X dX11_readsAll_106 (t := 148) rfl ?_
          exact pX11_readsAll_b148_51 X hr  hN hX0 hT hf
      · have hf := wok_t hf (wb_n0 hc)
        refine w_aload_n X dX11_readsAll_85 rfl rfl rfl ?_
        obtain ⟨yr38, eyr38, hf⟩ := wok_b hf
        refine w_callV X dX11_readsAll_86 rfl vl_X11_311 (kX11_readsHole l  eyr38) S0_188 (As := []) (st := []) rfl rfl (Nat.le_of_ble_eq_true rfl) ⟨Nat.le_of_ble_eq_true rfl, Nat.le_of_ble_eq_true rfl⟩ ⟨Nat.zero_le _, Nat.zero_le _⟩ (fun r h2 hF => ?_)
        obtain ⟨_, rfl, rfl, rfl⟩ := hF
        show wM p l e (wR 6) s m args below meth c 0 0 (wE below args s D dA b0 ad S0 F) 2 D dA b0 ad S0 89 [some (.ref 188), none] [.int (wb yr38.1)] yr38.2
        refine w_goto X dX11_readsAll_89 (t := 148) rfl ?_
        exact pX11_readsAll_b148_51 X hr  hN hX0 hT hf
    · have hf := wok_t hf (wb_n0 hc)
      refine w_aload_n X dX11_readsAll_68 rfl rfl rfl ?_
      obtain ⟨yr39, eyr39, hf⟩ := wok_b hf
      refine w_callV X dX11_readsAll_69 rfl vl_X11_308 (kX11_readsSkin l  eyr39) S0_188 (As := []) (st := []) rfl rfl (Nat.le_of_ble_eq_true rfl) ⟨Nat.le_of_ble_eq_true rfl, Nat.le_of_ble_eq_true rfl⟩ ⟨Nat.zero_le _, Nat.zero_le _⟩ (fun r h2 hF => ?_)
      obtain ⟨_, rfl, rfl, rfl⟩ := hF
      show wM p l e (wR 6) s m args below meth c 0 0 (wE below args s D dA b0 ad S0 F) 2 D dA b0 ad S0 72 [some (.ref 188), none] [.int (wb yr39.1)] yr39.2
      refine w_goto X dX11_readsAll_72 (t := 148) rfl ?_
      exact pX11_readsAll_b148_51 X hr  hN hX0 hT hf
set_option maxRecDepth 4000 in
theorem pX11_readsAll_l51 (X : wCx p s m args meth c RX11 cX11_readsAll 2 D dA b0 ad) (hr : meth.sig.returnType = (some .boolean))  {KE : (wSt) ⊕ (Bool × wSt) → Prop} (hX0 : ∀ (nh : wSt), KE ((.inl nh)) → wM p l e (wR 6) s m args below meth c 0 0 (wE below args s D dA b0 ad S0 F) 2 D dA b0 ad S0 158 [none, none] [] nh) (hT : ∀ (x : Bool) (h2 : wSt), KE ((.inr (x, h2))) → F (some (.int (wb x))) h2) : ∀ (n : Nat) (h : wSt), wok (wit (fun v : (wSt) => fX11_readsAll_l51 v ) n h) KE → wM p l e (wR 6) s m args below meth c 0 0 (wE below args s D dA b0 ad S0 F) 2 D dA b0 ad S0 51 [some (.ref 188), none] [] h := by
  have key := wit_M (b := (fun v : (wSt) => fX11_readsAll_l51 v )) (KE := KE) (G := fun v => wM p l e (wR 6) s m args below meth c 0 0 (wE below args s D dA b0 ad S0 F) 2 D dA b0 ad S0 51 [some (.ref 188), none] [] v) (fun v K hN hE hf => pX11_readsAll_l51b X hr  (fun  nh hz => hN nh hz) (fun z0 hz => hX0 z0 (hE _ hz)) (fun z0 z1 hz => hT z0 z1 (hE _ hz)) hf)
  exact fun n h hf => key n h hf
set_option maxRecDepth 4000 in
theorem pX11_readsAll_b0 (X : wCx p s m args meth c RX11 cX11_readsAll 2 D dA b0 ad) (hr : meth.sig.returnType = (some .boolean)) {h : wSt} {K : Bool × wSt → Prop} (hT : ∀ (x : Bool) (h2 : wSt), K (x, h2) → F (some (.int (wb x))) h2) (hf : wok (fX11_readsAll h ) K) : wM p l e (wR 6) s m args below meth c 0 0 (wE below args s D dA b0 ad S0 F) 2 D dA b0 ad S0 0 [some (.ref 188), none] [] h := by
  unfold fX11_readsAll at hf
  refine w_iconst X dX11_readsAll_0 rfl ci_0 ?_
  refine w_istore_n X dX11_readsAll_1 rfl rfl rfl (Nat.le_of_ble_eq_true rfl) (ls' := [some (.ref 188), some (.int 0)]) rfl ?_
  obtain ⟨ye23, hye23, hf⟩ := wok_b hf
  refine pX11_readsAll_l2 X hr  (KE := fun z => ye23 = z) ?_ 3000 _ _ ⟨ye23, hye23, rfl⟩
  · intro yz24 hz
    subst hz
    refine w_aload_n X dX11_readsAll_22 rfl rfl rfl ?_
    refine w_getR X dX11_readsAll_23 rfl fl_X11_44 S0_188 rfl ?_
    refine w_iconst X dX11_readsAll_26 rfl ci_1 ?_
    refine w_sipush X dX11_readsAll_27 rfl cs_1000 ?_
    refine w_iast X dX11_readsAll_30 rfl (j := 1) cn_1 S0_200 (show wib 1 2 by decide) ?_
    refine w_nmh (fun yh25 eyh25 => ?_)
    have hf := wok_l hf eyh25
    refine w_aload_n X dX11_readsAll_31 rfl rfl rfl ?_
    refine w_getR X dX11_readsAll_32 rfl fl_X11_47 S0_188 rfl ?_
    refine w_iconst X dX11_readsAll_35 rfl ci_1 ?_
    refine w_sipush X dX11_readsAll_36 rfl cs_1000 ?_
    refine w_iast X dX11_readsAll_39 rfl (j := 1) cn_1 S0_201 (show wib 1 2 by decide) ?_
    refine w_nmh (fun yh26 eyh26 => ?_)
    have hf := wok_l hf eyh26
    refine w_aload_n X dX11_readsAll_40 rfl rfl rfl ?_
    refine w_sipush X dX11_readsAll_41 rfl cs_1000 ?_
    refine w_putI X dX11_readsAll_44 rfl fp_X11_183 S0_188 rfl ?_
    refine w_nmh (fun yh27 eyh27 => ?_)
    have hf := wok_l hf eyh27
    refine w_aload_n X dX11_readsAll_47 rfl rfl rfl ?_
    obtain ⟨yr28, eyr28, hf⟩ := wok_b hf
    refine w_callV X dX11_readsAll_48 rfl vl_X11_305 (kX11_begins l  eyr28) S0_188 (As := []) (st := []) rfl rfl (Nat.le_of_ble_eq_true rfl) ⟨Nat.le_of_ble_eq_true rfl, Nat.le_of_ble_eq_true rfl⟩ ⟨Nat.zero_le _, Nat.zero_le _⟩ (fun r h2 hF => ?_)
    obtain ⟨rfl, rfl⟩ := hF
    show wM p l e (wR 6) s m args below meth c 0 0 (wE below args s D dA b0 ad S0 F) 2 D dA b0 ad S0 51 [some (.ref 188), none] [] yr28
    obtain ⟨ye40, hye40, hf⟩ := wok_b hf
    refine pX11_readsAll_l51 X hr  (KE := fun z => ye40 = z) ?_ ?_ 3000 _ ⟨ye40, hye40, rfl⟩
    · intro yz41 hz
      subst hz
      refine w_iconst X dX11_readsAll_158 rfl ci_1 ?_
      exact w_zret X dX11_readsAll_159 hr rfl (hT true _ (wok_s hf))
    · intro z zh hz
      subst hz
      exact hT _ _ (wok_s hf)
set_option maxRecDepth 4000 in
theorem kX11_readsAll (l : Launch) {h : wSt} {res : Bool × wSt} (hf : fX11_readsAll h  = some res) : wC l yX11_readsAll cX11_readsAll 2 (some .boolean) 6 S0 [.ref 188] h (wFZ (fun a b => res.1 = a ∧ res.2 = b)) := by
  refine w_meth2 1 (by decide) (Nat.le_of_ble_eq_true rfl) (ls := [some (.ref 188), none]) rfl ?_
  intro p e s m args below meth c D dA b0 ad X hr
  exact pX11_readsAll_b0 X hr  (K := fun z => res = z) (fun x h2 hz => ⟨x, rfl, by rw [hz], by rw [hz]⟩) ⟨res, hf, rfl⟩
set_option maxRecDepth 4000 in
theorem pX11_shifts_l2b (X : wCx p s m args meth c RX11 cX11_shifts 3 D dA b0 ad) (hr : meth.sig.returnType = none) {h : wSt} {a0 : Nat} {g0 : Nat} {v1 : Int32} {v2 : Int32} (ha0 : S0[a0]? = some (0, g0, [])) {K : (Int32 × wSt) ⊕ ((wSt)) → Prop} (hN : ∀ (n2 : Int32) (nh : wSt), K (.inl (n2, nh)) → wM p l e (wR 1) s m args below meth c 0 0 (wE below args s D dA b0 ad S0 F) 3 D dA b0 ad S0 2 [some (.ref a0), some (.int v1), some (.int n2)] [] nh) (hX0 : ∀ (nh : wSt), K (.inr nh) → wM p l e (wR 1) s m args below meth c 0 0 (wE below args s D dA b0 ad S0 F) 3 D dA b0 ad S0 21 [none, none, none] [] nh) (hf : wok (fX11_shifts_l2 h a0 g0 v1 v2) K) : wM p l e (wR 1) s m args below meth c 0 0 (wE below args s D dA b0 ad S0 F) 3 D dA b0 ad S0 2 [some (.ref a0), some (.int v1), some (.int v2)] [] h := by
  unfold fX11_shifts_l2 at hf
  refine w_iload_n X dX11_shifts_2 rfl rfl rfl ?_
  refine w_iload_n X dX11_shifts_3 rfl rfl rfl ?_
  refine w_icmp_ge X dX11_shifts_4 rfl (t := 21) rfl (fun hc => ?_) (fun hc => ?_)
  · have hf := wok_t hf hc
    refine w_fg (ls2 := [none, none, none]) trivial ?_
    exact hX0 _ (wok_s hf)
  · have hf := wok_f hf hc
    refine w_aload_n X dX11_shifts_7 rfl rfl rfl ?_
    refine w_iload_n X dX11_shifts_8 rfl rfl rfl ?_
    refine w_aload_n X dX11_shifts_9 rfl rfl rfl ?_
    refine w_iload_n X dX11_shifts_10 rfl rfl rfl ?_
    refine w_iload_n X dX11_shifts_11 rfl rfl rfl ?_
    refine w_iadd X dX11_shifts_12 rfl ?_
    obtain ⟨yhg21, hf⟩ := wok_g hf
    refine w_iald X dX11_shifts_13 rfl (j := (v1 + v2).toNatClampNeg) rfl ha0 yhg21 ?_
    obtain ⟨yhg22, hf⟩ := wok_g hf
    refine w_iast X dX11_shifts_14 rfl (j := v2.toNatClampNeg) rfl ha0 yhg22 ?_
    refine w_nmh (fun yh23 eyh23 => ?_)
    have hf := wok_l hf eyh23
    refine w_iinc X dX11_shifts_15 rfl (v := (v2 + 1)) rfl rfl (Nat.le_of_ble_eq_true rfl) (cinc_1 _) (ls' := [some (.ref a0), some (.int v1), some (.int (v2 + 1))]) rfl ?_
    refine w_goto X dX11_shifts_18 (t := 2) rfl ?_
    exact hN _ _ (wok_s hf)
set_option maxRecDepth 4000 in
theorem pX11_shifts_l2 (X : wCx p s m args meth c RX11 cX11_shifts 3 D dA b0 ad) (hr : meth.sig.returnType = none)  {a0 : Nat} {g0 : Nat} {v1 : Int32} (ha0 : S0[a0]? = some (0, g0, [])) {KE : (wSt) → Prop} (hX0 : ∀ (nh : wSt), KE (nh) → wM p l e (wR 1) s m args below meth c 0 0 (wE below args s D dA b0 ad S0 F) 3 D dA b0 ad S0 21 [none, none, none] [] nh) : ∀ (n : Nat) (v2 : Int32) (h : wSt), wok (wit (fun v : (Int32 × wSt) => fX11_shifts_l2 v.2 a0 g0 v1 v.1) n (v2, h)) KE → wM p l e (wR 1) s m args below meth c 0 0 (wE below args s D dA b0 ad S0 F) 3 D dA b0 ad S0 2 [some (.ref a0), some (.int v1), some (.int v2)] [] h := by
  have key := wit_M (b := (fun v : (Int32 × wSt) => fX11_shifts_l2 v.2 a0 g0 v1 v.1)) (KE := KE) (G := fun v => wM p l e (wR 1) s m args below meth c 0 0 (wE below args s D dA b0 ad S0 F) 3 D dA b0 ad S0 2 [some (.ref a0), some (.int v1), some (.int v.1)] [] v.2) (fun v K hN hE hf => pX11_shifts_l2b X hr ha0 (fun n2 nh hz => hN (n2, nh) hz) (fun z0 hz => hX0 z0 (hE _ hz)) hf)
  exact fun n v2 h hf => key n (v2, h) hf
set_option maxRecDepth 4000 in
theorem pX11_shifts_b0 (X : wCx p s m args meth c RX11 cX11_shifts 3 D dA b0 ad) (hr : meth.sig.returnType = none) {h : wSt} {a0 : Nat} {g0 : Nat} {x1 : Int32} (ha0 : S0[a0]? = some (0, g0, [])) {K : wSt → Prop} (hT : ∀ (h2 : wSt), K h2 → F none h2) (hf : wok (fX11_shifts h a0 g0 x1) K) : wM p l e (wR 1) s m args below meth c 0 0 (wE below args s D dA b0 ad S0 F) 3 D dA b0 ad S0 0 [some (.ref a0), some (.int x1), none] [] h := by
  unfold fX11_shifts at hf
  refine w_iconst X dX11_shifts_0 rfl ci_0 ?_
  refine w_istore_n X dX11_shifts_1 rfl rfl rfl (Nat.le_of_ble_eq_true rfl) (ls' := [some (.ref a0), some (.int x1), some (.int 0)]) rfl ?_
  obtain ⟨ye24, hye24, hf⟩ := wok_b hf
  refine pX11_shifts_l2 X hr ha0 (KE := fun z => ye24 = z) ?_ 3000 _ _ ⟨ye24, hye24, rfl⟩
  · intro yz25 hz
    subst hz
    exact w_vret X dX11_shifts_21 hr (hT _ (wok_s hf))
set_option maxRecDepth 4000 in
theorem kX11_shifts (l : Launch) {h : wSt} {a0 : Nat} {g0 : Nat} {x1 : Int32} (ha0 : S0[a0]? = some (0, g0, [])) {res : wSt} (hf : fX11_shifts h a0 g0 x1 = some res) : wC l yX11_shifts cX11_shifts 3 none 1 S0 [.ref a0, .int x1] h (wFV (fun b => res = b)) := by
  refine w_meth2 1 (by decide) (Nat.le_of_ble_eq_true rfl) (ls := [some (.ref a0), some (.int x1), none]) rfl ?_
  intro p e s m args below meth c D dA b0 ad X hr
  exact pX11_shifts_b0 X hr ha0 (K := fun z => res = z) (fun h2 hz => ⟨rfl, hz⟩) ⟨res, hf, rfl⟩
set_option maxRecDepth 4000 in
theorem pX11_shiftsNames_l2b (X : wCx p s m args meth c RX11 cX11_shiftsNames 3 D dA b0 ad) (hr : meth.sig.returnType = none) {h : wSt} {a0 : Nat} {g0 : Nat} {v1 : Int32} {v2 : Int32} (ha0 : S0[a0]? = some (3, g0, [])) {K : (Int32 × wSt) ⊕ ((wSt)) → Prop} (hN : ∀ (n2 : Int32) (nh : wSt), K (.inl (n2, nh)) → wM p l e (wR 1) s m args below meth c 0 0 (wE below args s D dA b0 ad S0 F) 3 D dA b0 ad S0 2 [some (.ref a0), some (.int v1), some (.int n2)] [] nh) (hX0 : ∀ (nh : wSt), K (.inr nh) → wM p l e (wR 1) s m args below meth c 0 0 (wE below args s D dA b0 ad S0 F) 3 D dA b0 ad S0 21 [none, none, none] [] nh) (hf : wok (fX11_shiftsNames_l2 h a0 g0 v1 v2) K) : wM p l e (wR 1) s m args below meth c 0 0 (wE below args s D dA b0 ad S0 F) 3 D dA b0 ad S0 2 [some (.ref a0), some (.int v1), some (.int v2)] [] h := by
  unfold fX11_shiftsNames_l2 at hf
  refine w_iload_n X dX11_shiftsNames_2 rfl rfl rfl ?_
  refine w_iload_n X dX11_shiftsNames_3 rfl rfl rfl ?_
  refine w_icmp_ge X dX11_shiftsNames_4 rfl (t := 21) rfl (fun hc => ?_) (fun hc => ?_)
  · have hf := wok_t hf hc
    refine w_fg (ls2 := [none, none, none]) trivial ?_
    exact hX0 _ (wok_s hf)
  · have hf := wok_f hf hc
    refine w_aload_n X dX11_shiftsNames_7 rfl rfl rfl ?_
    refine w_iload_n X dX11_shiftsNames_8 rfl rfl rfl ?_
    refine w_aload_n X dX11_shiftsNames_9 rfl rfl rfl ?_
    refine w_iload_n X dX11_shiftsNames_10 rfl rfl rfl ?_
    refine w_iload_n X dX11_shiftsNames_11 rfl rfl rfl ?_
    refine w_iadd X dX11_shiftsNames_12 rfl ?_
    obtain ⟨yhg21, hf⟩ := wok_g hf
    refine w_lald X dX11_shiftsNames_13 rfl (j := (v1 + v2).toNatClampNeg) rfl ha0 yhg21 ?_
    obtain ⟨yhg22, hf⟩ := wok_g hf
    refine w_last X dX11_shiftsNames_14 rfl (j := v2.toNatClampNeg) rfl ha0 yhg22 ?_
    refine w_nmh (fun yh23 eyh23 => ?_)
    have hf := wok_l hf eyh23
    refine w_iinc X dX11_shiftsNames_15 rfl (v := (v2 + 1)) rfl rfl (Nat.le_of_ble_eq_true rfl) (cinc_1 _) (ls' := [some (.ref a0), some (.int v1), some (.int (v2 + 1))]) rfl ?_
    refine w_goto X dX11_shiftsNames_18 (t := 2) rfl ?_
    exact hN _ _ (wok_s hf)
set_option maxRecDepth 4000 in
theorem pX11_shiftsNames_l2 (X : wCx p s m args meth c RX11 cX11_shiftsNames 3 D dA b0 ad) (hr : meth.sig.returnType = none)  {a0 : Nat} {g0 : Nat} {v1 : Int32} (ha0 : S0[a0]? = some (3, g0, [])) {KE : (wSt) → Prop} (hX0 : ∀ (nh : wSt), KE (nh) → wM p l e (wR 1) s m args below meth c 0 0 (wE below args s D dA b0 ad S0 F) 3 D dA b0 ad S0 21 [none, none, none] [] nh) : ∀ (n : Nat) (v2 : Int32) (h : wSt), wok (wit (fun v : (Int32 × wSt) => fX11_shiftsNames_l2 v.2 a0 g0 v1 v.1) n (v2, h)) KE → wM p l e (wR 1) s m args below meth c 0 0 (wE below args s D dA b0 ad S0 F) 3 D dA b0 ad S0 2 [some (.ref a0), some (.int v1), some (.int v2)] [] h := by
  have key := wit_M (b := (fun v : (Int32 × wSt) => fX11_shiftsNames_l2 v.2 a0 g0 v1 v.1)) (KE := KE) (G := fun v => wM p l e (wR 1) s m args below meth c 0 0 (wE below args s D dA b0 ad S0 F) 3 D dA b0 ad S0 2 [some (.ref a0), some (.int v1), some (.int v.1)] [] v.2) (fun v K hN hE hf => pX11_shiftsNames_l2b X hr ha0 (fun n2 nh hz => hN (n2, nh) hz) (fun z0 hz => hX0 z0 (hE _ hz)) hf)
  exact fun n v2 h hf => key n (v2, h) hf
set_option maxRecDepth 4000 in
theorem pX11_shiftsNames_b0 (X : wCx p s m args meth c RX11 cX11_shiftsNames 3 D dA b0 ad) (hr : meth.sig.returnType = none) {h : wSt} {a0 : Nat} {g0 : Nat} {x1 : Int32} (ha0 : S0[a0]? = some (3, g0, [])) {K : wSt → Prop} (hT : ∀ (h2 : wSt), K h2 → F none h2) (hf : wok (fX11_shiftsNames h a0 g0 x1) K) : wM p l e (wR 1) s m args below meth c 0 0 (wE below args s D dA b0 ad S0 F) 3 D dA b0 ad S0 0 [some (.ref a0), some (.int x1), none] [] h := by
  unfold fX11_shiftsNames at hf
  refine w_iconst X dX11_shiftsNames_0 rfl ci_0 ?_
  refine w_istore_n X dX11_shiftsNames_1 rfl rfl rfl (Nat.le_of_ble_eq_true rfl) (ls' := [some (.ref a0), some (.int x1), some (.int 0)]) rfl ?_
  obtain ⟨ye24, hye24, hf⟩ := wok_b hf
  refine pX11_shiftsNames_l2 X hr ha0 (KE := fun z => ye24 = z) ?_ 3000 _ _ ⟨ye24, hye24, rfl⟩
  · intro yz25 hz
    subst hz
    exact w_vret X dX11_shiftsNames_21 hr (hT _ (wok_s hf))
set_option maxRecDepth 4000 in
theorem kX11_shiftsNames (l : Launch) {h : wSt} {a0 : Nat} {g0 : Nat} {x1 : Int32} (ha0 : S0[a0]? = some (3, g0, [])) {res : wSt} (hf : fX11_shiftsNames h a0 g0 x1 = some res) : wC l yX11_shiftsNames cX11_shiftsNames 3 none 1 S0 [.ref a0, .int x1] h (wFV (fun b => res = b)) := by
  refine w_meth2 1 (by decide) (Nat.le_of_ble_eq_true rfl) (ls := [some (.ref a0), some (.int x1), none]) rfl ?_
  intro p e s m args below meth c D dA b0 ad X hr
  exact pX11_shiftsNames_b0 X hr ha0 (K := fun z => res = z) (fun h2 hz => ⟨rfl, hz⟩) ⟨res, hf, rfl⟩
set_option maxRecDepth 4000 in
theorem pX11_lays_b0 (X : wCx p s m args meth c RX11 cX11_lays 1 D dA b0 ad) (hr : meth.sig.returnType = none) {h : wSt} {K : wSt → Prop} (hT : ∀ (h2 : wSt), K h2 → F none h2) (hf : wok (fX11_lays h ) K) : wM p l e (wR 2) s m args below meth c 0 0 (wE below args s D dA b0 ad S0 F) 1 D dA b0 ad S0 0 [some (.ref 188)] [] h := by
  unfold fX11_lays at hf
  refine w_aload_n X dX11_lays_0 rfl rfl rfl ?_
  refine w_getR X dX11_lays_1 rfl fl_X11_13 S0_188 rfl ?_
  refine w_iconst X dX11_lays_4 rfl ci_3 ?_
  obtain ⟨yr21, eyr21, hf⟩ := wok_b hf
  refine w_callS X dX11_lays_5 rfl sl_X11_323 (kX11_shifts l S0_190 eyr21) (As := [.ref 190, .int 3]) (st := []) rfl rfl (Nat.le_of_ble_eq_true rfl) ⟨Nat.le_of_ble_eq_true rfl, Nat.le_of_ble_eq_true rfl⟩ ⟨Nat.zero_le _, Nat.zero_le _⟩ (fun r h2 hF => ?_)
  obtain ⟨rfl, rfl⟩ := hF
  show wM p l e (wR 2) s m args below meth c 0 0 (wE below args s D dA b0 ad S0 F) 1 D dA b0 ad S0 8 [some (.ref 188)] [] yr21
  refine w_aload_n X dX11_lays_8 rfl rfl rfl ?_
  refine w_getR X dX11_lays_9 rfl fl_X11_16 S0_188 rfl ?_
  refine w_iconst X dX11_lays_12 rfl ci_3 ?_
  obtain ⟨yr22, eyr22, hf⟩ := wok_b hf
  refine w_callS X dX11_lays_13 rfl sl_X11_327 (kX11_shiftsNames l S0_191 eyr22) (As := [.ref 191, .int 3]) (st := []) rfl rfl (Nat.le_of_ble_eq_true rfl) ⟨Nat.le_of_ble_eq_true rfl, Nat.le_of_ble_eq_true rfl⟩ ⟨Nat.zero_le _, Nat.zero_le _⟩ (fun r h2 hF => ?_)
  obtain ⟨rfl, rfl⟩ := hF
  show wM p l e (wR 2) s m args below meth c 0 0 (wE below args s D dA b0 ad S0 F) 1 D dA b0 ad S0 16 [some (.ref 188)] [] yr22
  refine w_aload_n X dX11_lays_16 rfl rfl rfl ?_
  refine w_getR X dX11_lays_17 rfl fl_X11_20 S0_188 rfl ?_
  refine w_bipush X dX11_lays_20 rfl cb_6 ?_
  obtain ⟨yr23, eyr23, hf⟩ := wok_b hf
  refine w_callS X dX11_lays_22 rfl sl_X11_327 (kX11_shiftsNames l S0_192 eyr23) (As := [.ref 192, .int 6]) (st := []) rfl rfl (Nat.le_of_ble_eq_true rfl) ⟨Nat.le_of_ble_eq_true rfl, Nat.le_of_ble_eq_true rfl⟩ ⟨Nat.zero_le _, Nat.zero_le _⟩ (fun r h2 hF => ?_)
  obtain ⟨rfl, rfl⟩ := hF
  show wM p l e (wR 2) s m args below meth c 0 0 (wE below args s D dA b0 ad S0 F) 1 D dA b0 ad S0 25 [some (.ref 188)] [] yr23
  refine w_aload_n X dX11_lays_25 rfl rfl rfl ?_
  refine w_getR X dX11_lays_26 rfl fl_X11_23 S0_188 rfl ?_
  refine w_iconst X dX11_lays_29 rfl ci_3 ?_
  obtain ⟨yr24, eyr24, hf⟩ := wok_b hf
  refine w_callS X dX11_lays_30 rfl sl_X11_323 (kX11_shifts l S0_193 eyr24) (As := [.ref 193, .int 3]) (st := []) rfl rfl (Nat.le_of_ble_eq_true rfl) ⟨Nat.le_of_ble_eq_true rfl, Nat.le_of_ble_eq_true rfl⟩ ⟨Nat.zero_le _, Nat.zero_le _⟩ (fun r h2 hF => ?_)
  obtain ⟨rfl, rfl⟩ := hF
  show wM p l e (wR 2) s m args below meth c 0 0 (wE below args s D dA b0 ad S0 F) 1 D dA b0 ad S0 33 [some (.ref 188)] [] yr24
  refine w_aload_n X dX11_lays_33 rfl rfl rfl ?_
  refine w_getR X dX11_lays_34 rfl fl_X11_26 S0_188 rfl ?_
  refine w_iconst X dX11_lays_37 rfl ci_3 ?_
  obtain ⟨yr25, eyr25, hf⟩ := wok_b hf
  refine w_callS X dX11_lays_38 rfl sl_X11_323 (kX11_shifts l S0_194 eyr25) (As := [.ref 194, .int 3]) (st := []) rfl rfl (Nat.le_of_ble_eq_true rfl) ⟨Nat.le_of_ble_eq_true rfl, Nat.le_of_ble_eq_true rfl⟩ ⟨Nat.zero_le _, Nat.zero_le _⟩ (fun r h2 hF => ?_)
  obtain ⟨rfl, rfl⟩ := hF
  show wM p l e (wR 2) s m args below meth c 0 0 (wE below args s D dA b0 ad S0 F) 1 D dA b0 ad S0 41 [some (.ref 188)] [] yr25
  refine w_aload_n X dX11_lays_41 rfl rfl rfl ?_
  refine w_getR X dX11_lays_42 rfl fl_X11_29 S0_188 rfl ?_
  refine w_iconst X dX11_lays_45 rfl ci_3 ?_
  obtain ⟨yr26, eyr26, hf⟩ := wok_b hf
  refine w_callS X dX11_lays_46 rfl sl_X11_323 (kX11_shifts l S0_195 eyr26) (As := [.ref 195, .int 3]) (st := []) rfl rfl (Nat.le_of_ble_eq_true rfl) ⟨Nat.le_of_ble_eq_true rfl, Nat.le_of_ble_eq_true rfl⟩ ⟨Nat.zero_le _, Nat.zero_le _⟩ (fun r h2 hF => ?_)
  obtain ⟨rfl, rfl⟩ := hF
  show wM p l e (wR 2) s m args below meth c 0 0 (wE below args s D dA b0 ad S0 F) 1 D dA b0 ad S0 49 [some (.ref 188)] [] yr26
  refine w_aload_n X dX11_lays_49 rfl rfl rfl ?_
  refine w_getR X dX11_lays_50 rfl fl_X11_32 S0_188 rfl ?_
  refine w_bipush X dX11_lays_53 rfl cb_6 ?_
  obtain ⟨yr27, eyr27, hf⟩ := wok_b hf
  refine w_callS X dX11_lays_55 rfl sl_X11_323 (kX11_shifts l S0_196 eyr27) (As := [.ref 196, .int 6]) (st := []) rfl rfl (Nat.le_of_ble_eq_true rfl) ⟨Nat.le_of_ble_eq_true rfl, Nat.le_of_ble_eq_true rfl⟩ ⟨Nat.zero_le _, Nat.zero_le _⟩ (fun r h2 hF => ?_)
  obtain ⟨rfl, rfl⟩ := hF
  show wM p l e (wR 2) s m args below meth c 0 0 (wE below args s D dA b0 ad S0 F) 1 D dA b0 ad S0 58 [some (.ref 188)] [] yr27
  refine w_aload_n X dX11_lays_58 rfl rfl rfl ?_
  refine w_getR X dX11_lays_59 rfl fl_X11_35 S0_188 rfl ?_
  refine w_bipush X dX11_lays_62 rfl cb_6 ?_
  obtain ⟨yr28, eyr28, hf⟩ := wok_b hf
  refine w_callS X dX11_lays_64 rfl sl_X11_323 (kX11_shifts l S0_197 eyr28) (As := [.ref 197, .int 6]) (st := []) rfl rfl (Nat.le_of_ble_eq_true rfl) ⟨Nat.le_of_ble_eq_true rfl, Nat.le_of_ble_eq_true rfl⟩ ⟨Nat.zero_le _, Nat.zero_le _⟩ (fun r h2 hF => ?_)
  obtain ⟨rfl, rfl⟩ := hF
  show wM p l e (wR 2) s m args below meth c 0 0 (wE below args s D dA b0 ad S0 F) 1 D dA b0 ad S0 67 [some (.ref 188)] [] yr28
  refine w_aload_n X dX11_lays_67 rfl rfl rfl ?_
  refine w_getR X dX11_lays_68 rfl fl_X11_38 S0_188 rfl ?_
  refine w_bipush X dX11_lays_71 rfl cb_6 ?_
  obtain ⟨yr29, eyr29, hf⟩ := wok_b hf
  refine w_callS X dX11_lays_73 rfl sl_X11_323 (kX11_shifts l S0_198 eyr29) (As := [.ref 198, .int 6]) (st := []) rfl rfl (Nat.le_of_ble_eq_true rfl) ⟨Nat.le_of_ble_eq_true rfl, Nat.le_of_ble_eq_true rfl⟩ ⟨Nat.zero_le _, Nat.zero_le _⟩ (fun r h2 hF => ?_)
  obtain ⟨rfl, rfl⟩ := hF
  show wM p l e (wR 2) s m args below meth c 0 0 (wE below args s D dA b0 ad S0 F) 1 D dA b0 ad S0 76 [some (.ref 188)] [] yr29
  refine w_aload_n X dX11_lays_76 rfl rfl rfl ?_
  refine w_getR X dX11_lays_77 rfl fl_X11_41 S0_188 rfl ?_
  refine w_bipush X dX11_lays_80 rfl cb_12 ?_
  obtain ⟨yr30, eyr30, hf⟩ := wok_b hf
  refine w_callS X dX11_lays_82 rfl sl_X11_323 (kX11_shifts l S0_199 eyr30) (As := [.ref 199, .int 12]) (st := []) rfl rfl (Nat.le_of_ble_eq_true rfl) ⟨Nat.le_of_ble_eq_true rfl, Nat.le_of_ble_eq_true rfl⟩ ⟨Nat.zero_le _, Nat.zero_le _⟩ (fun r h2 hF => ?_)
  obtain ⟨rfl, rfl⟩ := hF
  show wM p l e (wR 2) s m args below meth c 0 0 (wE below args s D dA b0 ad S0 F) 1 D dA b0 ad S0 85 [some (.ref 188)] [] yr30
  refine w_aload_n X dX11_lays_85 rfl rfl rfl ?_
  refine w_getR X dX11_lays_86 rfl fl_X11_50 S0_188 rfl ?_
  refine w_sipush X dX11_lays_89 rfl cs_1000 ?_
  obtain ⟨yr31, eyr31, hf⟩ := wok_b hf
  refine w_callS X dX11_lays_92 rfl sl_X11_323 (kX11_shifts l S0_202 eyr31) (As := [.ref 202, .int 1000]) (st := []) rfl rfl (Nat.le_of_ble_eq_true rfl) ⟨Nat.le_of_ble_eq_true rfl, Nat.le_of_ble_eq_true rfl⟩ ⟨Nat.zero_le _, Nat.zero_le _⟩ (fun r h2 hF => ?_)
  obtain ⟨rfl, rfl⟩ := hF
  show wM p l e (wR 2) s m args below meth c 0 0 (wE below args s D dA b0 ad S0 F) 1 D dA b0 ad S0 95 [some (.ref 188)] [] yr31
  refine w_aload_n X dX11_lays_95 rfl rfl rfl ?_
  refine w_getR X dX11_lays_96 rfl fl_X11_44 S0_188 rfl ?_
  refine w_iconst X dX11_lays_99 rfl ci_0 ?_
  refine w_aload_n X dX11_lays_100 rfl rfl rfl ?_
  refine w_getR X dX11_lays_101 rfl fl_X11_44 S0_188 rfl ?_
  refine w_iconst X dX11_lays_104 rfl ci_1 ?_
  refine w_iald X dX11_lays_105 rfl (j := 1) cn_1 S0_200 (show wib 1 2 by decide) ?_
  refine w_sipush X dX11_lays_106 rfl cs_1000 ?_
  refine w_isub X dX11_lays_109 rfl ?_
  refine w_iast X dX11_lays_110 rfl (j := 0) cn_0 S0_200 (show wib 0 2 by decide) ?_
  refine w_nmh (fun yh32 eyh32 => ?_)
  have hf := wok_l hf eyh32
  refine w_aload_n X dX11_lays_111 rfl rfl rfl ?_
  refine w_getR X dX11_lays_112 rfl fl_X11_47 S0_188 rfl ?_
  refine w_iconst X dX11_lays_115 rfl ci_0 ?_
  refine w_aload_n X dX11_lays_116 rfl rfl rfl ?_
  refine w_getR X dX11_lays_117 rfl fl_X11_47 S0_188 rfl ?_
  refine w_iconst X dX11_lays_120 rfl ci_1 ?_
  refine w_iald X dX11_lays_121 rfl (j := 1) cn_1 S0_201 (show wib 1 2 by decide) ?_
  refine w_sipush X dX11_lays_122 rfl cs_1000 ?_
  refine w_isub X dX11_lays_125 rfl ?_
  refine w_iast X dX11_lays_126 rfl (j := 0) cn_0 S0_201 (show wib 0 2 by decide) ?_
  refine w_nmh (fun yh33 eyh33 => ?_)
  have hf := wok_l hf eyh33
  exact w_vret X dX11_lays_127 hr (hT _ (wok_s hf))
set_option maxRecDepth 4000 in
theorem kX11_lays (l : Launch) {h : wSt} {res : wSt} (hf : fX11_lays h  = some res) : wC l yX11_lays cX11_lays 1 none 2 S0 [.ref 188] h (wFV (fun b => res = b)) := by
  refine w_meth2 0 (by decide) (Nat.le_of_ble_eq_true rfl) (ls := [some (.ref 188)]) rfl ?_
  intro p e s m args below meth c D dA b0 ad X hr
  exact pX11_lays_b0 X hr  (K := fun z => res = z) (fun h2 hz => ⟨rfl, hz⟩) ⟨res, hf, rfl⟩
end WX

/-- the script, as the law finds it -/
def wSc (s : State) (ad : Nat → Nat) (b0 L : Nat) (xs : Nat → Int32) : Prop := va_X (ad 99999) L xs s s.heap ∧ ad 99999 < s.heap.size ∧ ¬ wA b0 (ad 99999)
section WSC
variable {p : Program} {l : Launch} {e : Env} {R : Room} {s : State} {m : MethodId} {args : Array Value} {below : List Frame} {meth : Method} {c : Code} {ck cn : Nat} {Q : State → Prop} {own : String} {cc : ByteArray} {nL : Nat} {D : va_G} {dA : Nat → ClassId} {b0 : Nat} {ad : Nat → Nat} {S : List wSh} {pc q : Nat} {ls : List (Option Value)} {st : List Value} {h : wSt}
theorem w_sld (X : wCx p s m args meth c own cc nL D dA b0 ad) {L j : Nat} {xs : Nat → Int32} {i : Int32} (hd : decode cc pc = .ok (.iaload, 1)) (hp : pc + 1 = q) (hsc : wSc s ad b0 L xs) (hj : i.toNatClampNeg = j) (hin : vp_in i L) (k : wM p l e R s m args below meth c ck cn Q nL D dA b0 ad S q ls (.int (xs j) :: st) h) : wM p l e R s m args below meth c ck cn Q nL D dA b0 ad S pc ls (.int i :: .ref 99999 :: st) h := by
  subst hp
  subst hj
  exact fun H locs arr hP hD hS hL => va_sld X.1 X.2.1 hsc.1 hsc.2.1 hsc.2.2 hS hin hd (k H locs arr hP hD hS hL)
theorem w_slen0 (X : wCx p s m args meth c own cc nL D dA b0 ad) {L : Nat} {xs : Nat → Int32} (hd : decode cc pc = .ok (.arraylength, 1)) (hp : pc + 1 = q) (hsc : wSc s ad b0 L xs) (k : wM p l e R s m args below meth c ck cn Q nL D dA b0 ad S q ls (.int (Int32.ofNat L) :: st) h) : wM p l e R s m args below meth c ck cn Q nL D dA b0 ad S pc ls (.ref 99999 :: st) h := by
  subst hp
  exact fun H locs arr hP hD hS hL => va_slen X.1 X.2.1 hsc.1 hsc.2.1 hsc.2.2 hS hd (k H locs arr hP hD hS hL)
theorem w_wid {k2 n2 : Nat} (h1 : ck ≤ k2) (h2 : cn ≤ n2) (k : wM p l e R s m args below meth c k2 n2 Q nL D dA b0 ad S pc ls st h) : wM p l e R s m args below meth c ck cn Q nL D dA b0 ad S pc ls st h := fun H locs arr hP hD hS hL => W.widen h1 h2 (k H locs arr hP hD hS hL)
end WSC
def fL_law_b1477_23 (h : wSt) (xs : Nat → Int32) (L : Nat) (v4 : Int32) : Option ((Int32 × wSt) ⊕ ((wSt))) :=
some (.inl ((v4 + 7), h))
def fL_law_b1163_23 (h : wSt) (xs : Nat → Int32) (L : Nat) (v4 : Int32) (w0 : Int32) (w2 : Int32) (w3 : Int32) (w4 : Int32) (w5 : Int32) : Option ((Int32 × wSt) ⊕ ((wSt))) :=
(fX11_see h w2 w3 w4 w5).bind (fun yr155 =>
if w0 = (wb yr155.1) then
fL_law_b1477_23 yr155.2 xs L v4
else
none)
def fL_law_b1127_23 (h : wSt) (xs : Nat → Int32) (L : Nat) (v4 : Int32) (w1 : Int32) (w2 : Int32) (w3 : Int32) (w4 : Int32) : Option ((Int32 × wSt) ⊕ ((wSt))) :=
(fX10_see h w1 w2 w3 w4).bind (fun yr150 =>
if wib (v4 + 1) L then
if wib (v4 + 2) L then
if wib (v4 + 3) L then
if wib (v4 + 4) L then
if (xs (v4 + 4).toNatClampNeg) = 0 then
fL_law_b1163_23 yr150.2 xs L v4 (wb yr150.1) (xs (v4 + 1).toNatClampNeg) (xs (v4 + 2).toNatClampNeg) (xs (v4 + 3).toNatClampNeg) (0 : Int32)
else
fL_law_b1163_23 yr150.2 xs L v4 (wb yr150.1) (xs (v4 + 1).toNatClampNeg) (xs (v4 + 2).toNatClampNeg) (xs (v4 + 3).toNatClampNeg) (1 : Int32)
else none
else none
else none
else none)
def fL_law_b1444_23 (h : wSt) (xs : Nat → Int32) (L : Nat) (v4 : Int32) (w0 : Int32) (w2 : Int32) (w3 : Int32) : Option ((Int32 × wSt) ⊕ ((wSt))) :=
(fX11_mark h w2 w3).bind (fun yr186 =>
if w0 = (wb yr186.1) then
fL_law_b1477_23 yr186.2 xs L v4
else
none)
def fL_law_b1420_23 (h : wSt) (xs : Nat → Int32) (L : Nat) (v4 : Int32) (w1 : Int32) (w2 : Int32) : Option ((Int32 × wSt) ⊕ ((wSt))) :=
(fX10_mark h w1 w2).bind (fun yr183 =>
if wib (v4 + 1) L then
if wib (v4 + 2) L then
if (xs (v4 + 2).toNatClampNeg) = 0 then
fL_law_b1444_23 yr183.2 xs L v4 (wb yr183.1) (xs (v4 + 1).toNatClampNeg) (0 : Int32)
else
fL_law_b1444_23 yr183.2 xs L v4 (wb yr183.1) (xs (v4 + 1).toNatClampNeg) (1 : Int32)
else none
else none)
def fL_law_l23 (h : wSt) (xs : Nat → Int32) (L : Nat) (v4 : Int32) : Option ((Int32 × wSt) ⊕ wSt) :=
if ((Int32.ofNat L) - 7) < v4 then
some (.inr h)
else
if wib v4 L then
if ((xs v4.toNatClampNeg) &&& 63) = 0 then
if wib (v4 + 1) L then
if wib (v4 + 2) L then
if wib (v4 + 3) L then
if wib (v4 + 4) L then
if wib (v4 + 5) L then
if wib (v4 + 6) L then
(fX10_feed h ((((xs (v4 + 1).toNatClampNeg).toInt64) <<< ((32 : Int32).toInt64 &&& 63)) ||| (((xs (v4 + 2).toNatClampNeg).toInt64) &&& 4294967295)) ((((xs (v4 + 3).toNatClampNeg).toInt64) <<< ((32 : Int32).toInt64 &&& 63)) ||| (((xs (v4 + 4).toNatClampNeg).toInt64) &&& 4294967295)) ((((xs (v4 + 5).toNatClampNeg).toInt64) <<< ((32 : Int32).toInt64 &&& 63)) ||| (((xs (v4 + 6).toNatClampNeg).toInt64) &&& 4294967295))).bind (fun yr29 =>
(fX11_feed yr29.2 ((((xs (v4 + 1).toNatClampNeg).toInt64) <<< ((32 : Int32).toInt64 &&& 63)) ||| (((xs (v4 + 2).toNatClampNeg).toInt64) &&& 4294967295)) ((((xs (v4 + 3).toNatClampNeg).toInt64) <<< ((32 : Int32).toInt64 &&& 63)) ||| (((xs (v4 + 4).toNatClampNeg).toInt64) &&& 4294967295)) ((((xs (v4 + 5).toNatClampNeg).toInt64) <<< ((32 : Int32).toInt64 &&& 63)) ||| (((xs (v4 + 6).toNatClampNeg).toInt64) &&& 4294967295))).bind (fun yr30 =>
if yr29.1 = yr30.1 then
fL_law_b1477_23 yr30.2 xs L v4
else
none))
else none
else none
else none
else none
else none
else none
else if ((xs v4.toNatClampNeg) &&& 63) = 1 then
(fX10_library h ).bind (fun yr32 =>
(fX11_library yr32.2 ).bind (fun yr33 =>
if yr32.1 = yr33.1 then
fL_law_b1477_23 yr33.2 xs L v4
else
none))
else if ((xs v4.toNatClampNeg) &&& 63) = 2 then
(fX10_year h ).bind (fun yr35 =>
(fX11_year yr35.2 ).bind (fun yr36 =>
if yr35.1 = yr36.1 then
fL_law_b1477_23 yr36.2 xs L v4
else
none))
else if ((xs v4.toNatClampNeg) &&& 63) = 3 then
if wib (v4 + 1) L then
if wib (v4 + 2) L then
(fX10_skin h (xs (v4 + 1).toNatClampNeg) (xs (v4 + 2).toNatClampNeg)).bind (fun yr40 =>
(fX11_skin yr40.2 (xs (v4 + 1).toNatClampNeg) (xs (v4 + 2).toNatClampNeg)).bind (fun yr41 =>
if yr40.1 = yr41.1 then
fL_law_b1477_23 yr41.2 xs L v4
else
none))
else none
else none
else if ((xs v4.toNatClampNeg) &&& 63) = 4 then
if wib (v4 + 1) L then
if wib (v4 + 2) L then
(fX10_text h (xs (v4 + 1).toNatClampNeg) (xs (v4 + 2).toNatClampNeg)).bind (fun yr45 =>
(fX11_text yr45.2 (xs (v4 + 1).toNatClampNeg) (xs (v4 + 2).toNatClampNeg)).bind (fun yr46 =>
if yr45.1 = yr46.1 then
fL_law_b1477_23 yr46.2 xs L v4
else
none))
else none
else none
else if ((xs v4.toNatClampNeg) &&& 63) = 5 then
if wib (v4 + 1) L then
if wib (v4 + 2) L then
(fX10_layers h (xs (v4 + 1).toNatClampNeg) (xs (v4 + 2).toNatClampNeg)).bind (fun yr50 =>
(fX11_layers h (xs (v4 + 1).toNatClampNeg) (xs (v4 + 2).toNatClampNeg)).bind (fun yr51 =>
if yr50 = yr51.1 then
fL_law_b1477_23 yr51.2 xs L v4
else
none))
else none
else none
else if ((xs v4.toNatClampNeg) &&& 63) = 6 then
if wib (v4 + 1) L then
if wib (v4 + 2) L then
if wib (v4 + 3) L then
(fX10_layer h (xs (v4 + 1).toNatClampNeg) (xs (v4 + 2).toNatClampNeg) (xs (v4 + 3).toNatClampNeg)).bind (fun yr56 =>
(fX11_layer h (xs (v4 + 1).toNatClampNeg) (xs (v4 + 2).toNatClampNeg) (xs (v4 + 3).toNatClampNeg)).bind (fun yr57 =>
if yr56 = yr57.1 then
fL_law_b1477_23 yr57.2 xs L v4
else
none))
else none
else none
else none
else if ((xs v4.toNatClampNeg) &&& 63) = 7 then
if wib (v4 + 1) L then
if wib (v4 + 2) L then
(fX10_read h (xs (v4 + 1).toNatClampNeg) (xs (v4 + 2).toNatClampNeg)).bind (fun yr61 =>
(fX11_read yr61.2 (xs (v4 + 1).toNatClampNeg) (xs (v4 + 2).toNatClampNeg)).bind (fun yr62 =>
if yr61.1 = yr62.1 then
fL_law_b1477_23 yr62.2 xs L v4
else
none))
else none
else none
else if ((xs v4.toNatClampNeg) &&& 63) = 8 then
if wib (v4 + 1) L then
if wib (v4 + 2) L then
if wib (v4 + 3) L then
(fX10_write h (xs (v4 + 1).toNatClampNeg) (xs (v4 + 2).toNatClampNeg) (xs (v4 + 3).toNatClampNeg)).bind (fun yr67 =>
(fX11_write yr67.2 (xs (v4 + 1).toNatClampNeg) (xs (v4 + 2).toNatClampNeg) (xs (v4 + 3).toNatClampNeg)).bind (fun yr68 =>
if (wb yr67.1) = (wb yr68.1) then
fL_law_b1477_23 yr68.2 xs L v4
else
none))
else none
else none
else none
else if ((xs v4.toNatClampNeg) &&& 63) = 9 then
if wib (v4 + 1) L then
(fX10_scrape h (xs (v4 + 1).toNatClampNeg)).bind (fun yr71 =>
(fX11_scrape yr71.2 (xs (v4 + 1).toNatClampNeg)).bind (fun yr72 =>
if yr71.1 = yr72.1 then
fL_law_b1477_23 yr72.2 xs L v4
else
none))
else none
else if ((xs v4.toNatClampNeg) &&& 63) = 10 then
if wib (v4 + 1) L then
(fX10_third h (xs (v4 + 1).toNatClampNeg)).bind (fun yr75 =>
(fX11_third yr75.2 (xs (v4 + 1).toNatClampNeg)).bind (fun yr76 =>
if yr75.1 = yr76.1 then
fL_law_b1477_23 yr76.2 xs L v4
else
none))
else none
else if ((xs v4.toNatClampNeg) &&& 63) = 11 then
(fX10_week h ).bind (fun yr78 =>
(fX11_week yr78.2 ).bind (fun yr79 =>
if yr78.1 = yr79.1 then
fL_law_b1477_23 yr79.2 xs L v4
else
none))
else if ((xs v4.toNatClampNeg) &&& 63) = 12 then
(fX10_undo h ).bind (fun yr81 =>
(fX11_undo yr81.2 ).bind (fun yr82 =>
if (wb yr81.1) = (wb yr82.1) then
fL_law_b1477_23 yr82.2 xs L v4
else
none))
else if ((xs v4.toNatClampNeg) &&& 63) = 13 then
if wib (v4 + 1) L then
(fX10_judged h (xs (v4 + 1).toNatClampNeg)).bind (fun yr85 =>
(fX11_judged yr85.2 (xs (v4 + 1).toNatClampNeg)).bind (fun yr86 =>
if yr85.1 = yr86.1 then
fL_law_b1477_23 yr86.2 xs L v4
else
none))
else none
else if ((xs v4.toNatClampNeg) &&& 63) = 14 then
if wib (v4 + 1) L then
if wib (v4 + 2) L then
if wib (v4 + 3) L then
(fX10_later h (xs (v4 + 1).toNatClampNeg) (xs (v4 + 2).toNatClampNeg) (xs (v4 + 3).toNatClampNeg)).bind (fun yr91 =>
(fX11_later yr91.2 (xs (v4 + 1).toNatClampNeg) (xs (v4 + 2).toNatClampNeg) (xs (v4 + 3).toNatClampNeg)).bind (fun yr92 =>
if yr91.1 = yr92.1 then
fL_law_b1477_23 yr92.2 xs L v4
else
none))
else none
else none
else none
else if ((xs v4.toNatClampNeg) &&& 63) = 15 then
if wib (v4 + 1) L then
(fX10_when h (xs (v4 + 1).toNatClampNeg)).bind (fun yr95 =>
(fX11_when yr95.2 (xs (v4 + 1).toNatClampNeg)).bind (fun yr96 =>
if yr95.1 = yr96.1 then
fL_law_b1477_23 yr96.2 xs L v4
else
none))
else none
else if ((xs v4.toNatClampNeg) &&& 63) = 16 then
if wib (v4 + 1) L then
(fX10_need h (xs (v4 + 1).toNatClampNeg)).bind (fun yr99 =>
(fX11_need yr99.2 (xs (v4 + 1).toNatClampNeg)).bind (fun yr100 =>
if yr99.1 = yr100.1 then
fL_law_b1477_23 yr100.2 xs L v4
else
none))
else none
else if ((xs v4.toNatClampNeg) &&& 63) = 17 then
(fX10_lost h ).bind (fun yr102 =>
(fX11_lost yr102.2 ).bind (fun yr103 =>
if yr102.1 = yr103.1 then
fL_law_b1477_23 yr103.2 xs L v4
else
none))
else if ((xs v4.toNatClampNeg) &&& 63) = 18 then
if wib (v4 + 1) L then
if wib (v4 + 2) L then
(fX10_place h (xs (v4 + 1).toNatClampNeg) (xs (v4 + 2).toNatClampNeg)).bind (fun yr107 =>
(fX11_place h (xs (v4 + 1).toNatClampNeg) (xs (v4 + 2).toNatClampNeg)).bind (fun yr108 =>
if yr107 = yr108.1 then
fL_law_b1477_23 yr108.2 xs L v4
else
none))
else none
else none
else if ((xs v4.toNatClampNeg) &&& 63) = 19 then
if wib (v4 + 1) L then
if wib (v4 + 2) L then
(fX10_cost h (xs (v4 + 1).toNatClampNeg) (xs (v4 + 2).toNatClampNeg)).bind (fun yr112 =>
(fX11_cost yr112.2 (xs (v4 + 1).toNatClampNeg) (xs (v4 + 2).toNatClampNeg)).bind (fun yr113 =>
if yr112.1 = yr113.1 then
fL_law_b1477_23 yr113.2 xs L v4
else
none))
else none
else none
else if ((xs v4.toNatClampNeg) &&& 63) = 20 then
if wib (v4 + 1) L then
(fX10_lay h (xs (v4 + 1).toNatClampNeg)).bind (fun yr116 =>
(fX11_lay yr116.2 (xs (v4 + 1).toNatClampNeg)).bind (fun yr117 =>
if yr116.1 = yr117.1 then
fL_law_b1477_23 yr117.2 xs L v4
else
none))
else none
else if ((xs v4.toNatClampNeg) &&& 63) = 21 then
if wib (v4 + 1) L then
if wib (v4 + 2) L then
(fX10_bears h (xs (v4 + 1).toNatClampNeg) (xs (v4 + 2).toNatClampNeg)).bind (fun yr121 =>
(fX11_bears yr121.2 (xs (v4 + 1).toNatClampNeg) (xs (v4 + 2).toNatClampNeg)).bind (fun yr122 =>
if yr121.1 = yr122.1 then
fL_law_b1477_23 yr122.2 xs L v4
else
none))
else none
else none
else if ((xs v4.toNatClampNeg) &&& 63) = 22 then
if wib (v4 + 1) L then
(fX10_over h (xs (v4 + 1).toNatClampNeg)).bind (fun yr125 =>
(fX11_over h (xs (v4 + 1).toNatClampNeg)).bind (fun yr126 =>
if yr125 = yr126.1 then
fL_law_b1477_23 yr126.2 xs L v4
else
none))
else none
else if ((xs v4.toNatClampNeg) &&& 63) = 23 then
if wib (v4 + 1) L then
(fX10_deepest h (xs (v4 + 1).toNatClampNeg)).bind (fun yr129 =>
(fX11_deepest h (xs (v4 + 1).toNatClampNeg)).bind (fun yr130 =>
if yr129 = yr130.1 then
fL_law_b1477_23 yr130.2 xs L v4
else
none))
else none
else if ((xs v4.toNatClampNeg) &&& 63) = 24 then
if wib (v4 + 1) L then
(fX10_bare h (xs (v4 + 1).toNatClampNeg)).bind (fun yr133 =>
(fX11_bare h (xs (v4 + 1).toNatClampNeg)).bind (fun yr134 =>
if yr133 = yr134.1 then
fL_law_b1477_23 yr134.2 xs L v4
else
none))
else none
else if ((xs v4.toNatClampNeg) &&& 63) = 25 then
(fX10_same h ).bind (fun yr136 =>
(fX11_same h ).bind (fun yr137 =>
if yr136 = yr137.1 then
fL_law_b1477_23 yr137.2 xs L v4
else
none))
else if ((xs v4.toNatClampNeg) &&& 63) = 26 then
(fX10_giveup h ).bind (fun yr139 =>
(fX11_giveup yr139.2 ).bind (fun yr140 =>
if yr139.1 = yr140.1 then
fL_law_b1477_23 yr140.2 xs L v4
else
none))
else if ((xs v4.toNatClampNeg) &&& 63) = 27 then
if wib (v4 + 1) L then
(fX10_psalter h (xs (v4 + 1).toNatClampNeg)).bind (fun yr143 =>
(fX11_psalter yr143.2 (xs (v4 + 1).toNatClampNeg)).bind (fun yr144 =>
if yr143.1 = yr144.1 then
fL_law_b1477_23 yr144.2 xs L v4
else
none))
else none
else if ((xs v4.toNatClampNeg) &&& 63) = 28 then
if wib (v4 + 1) L then
if wib (v4 + 2) L then
if wib (v4 + 3) L then
if wib (v4 + 4) L then
if (xs (v4 + 4).toNatClampNeg) = 0 then
fL_law_b1127_23 h xs L v4 (xs (v4 + 1).toNatClampNeg) (xs (v4 + 2).toNatClampNeg) (xs (v4 + 3).toNatClampNeg) (0 : Int32)
else
fL_law_b1127_23 h xs L v4 (xs (v4 + 1).toNatClampNeg) (xs (v4 + 2).toNatClampNeg) (xs (v4 + 3).toNatClampNeg) (1 : Int32)
else none
else none
else none
else none
else if ((xs v4.toNatClampNeg) &&& 63) = 29 then
(fX10_who h ).bind (fun yr157 =>
(fX11_who yr157.2 ).bind (fun yr158 =>
if yr157.1 = yr158.1 then
fL_law_b1477_23 yr158.2 xs L v4
else
none))
else if ((xs v4.toNatClampNeg) &&& 63) = 30 then
if wib (v4 + 1) L then
(fX10_ask h (xs (v4 + 1).toNatClampNeg)).bind (fun yr161 =>
(fX11_ask yr161.2 (xs (v4 + 1).toNatClampNeg)).bind (fun yr162 =>
if yr161.1 = yr162.1 then
fL_law_b1477_23 yr162.2 xs L v4
else
none))
else none
else if ((xs v4.toNatClampNeg) &&& 63) = 31 then
if wib (v4 + 1) L then
if wib (v4 + 2) L then
if wib (v4 + 3) L then
(fX10_chance h (xs (v4 + 1).toNatClampNeg) (xs (v4 + 2).toNatClampNeg) (xs (v4 + 3).toNatClampNeg)).bind (fun yr167 =>
(fX11_chance yr167.2 (xs (v4 + 1).toNatClampNeg) (xs (v4 + 2).toNatClampNeg) (xs (v4 + 3).toNatClampNeg)).bind (fun yr168 =>
if yr167.1 = yr168.1 then
fL_law_b1477_23 yr168.2 xs L v4
else
none))
else none
else none
else none
else if ((xs v4.toNatClampNeg) &&& 63) = 32 then
if wib (v4 + 1) L then
if wib (v4 + 2) L then
if wib (v4 + 3) L then
if wib (v4 + 4) L then
none
else none
else none
else none
else none
else if ((xs v4.toNatClampNeg) &&& 63) = 33 then
if wib (v4 + 1) L then
if wib (v4 + 2) L then
if wib (v4 + 3) L then
(fX10_years h (xs (v4 + 1).toNatClampNeg) (xs (v4 + 2).toNatClampNeg) (xs (v4 + 3).toNatClampNeg)).bind (fun yr178 =>
(fX11_years yr178.2 (xs (v4 + 1).toNatClampNeg) (xs (v4 + 2).toNatClampNeg) (xs (v4 + 3).toNatClampNeg)).bind (fun yr179 =>
if yr178.1 = yr179.1 then
fL_law_b1477_23 yr179.2 xs L v4
else
none))
else none
else none
else none
else if ((xs v4.toNatClampNeg) &&& 63) = 34 then
if wib (v4 + 1) L then
if wib (v4 + 2) L then
if (xs (v4 + 2).toNatClampNeg) = 0 then
fL_law_b1420_23 h xs L v4 (xs (v4 + 1).toNatClampNeg) (0 : Int32)
else
fL_law_b1420_23 h xs L v4 (xs (v4 + 1).toNatClampNeg) (1 : Int32)
else none
else none
else if ((xs v4.toNatClampNeg) &&& 63) = 35 then
if wib (v4 + 1) L then
(fX10_count h (xs (v4 + 1).toNatClampNeg)).bind (fun yr189 =>
(fX11_count yr189.2 (xs (v4 + 1).toNatClampNeg)).bind (fun yr190 =>
if yr189.1 = yr190.1 then
fL_law_b1477_23 yr190.2 xs L v4
else
none))
else none
else 
fL_law_b1477_23 h xs L v4
else none
section WLW
variable {p : Program} {l : Launch} {e : Env} {R : Room} {s : State} {m : MethodId} {args : Array Value} {below : List Frame} {meth : Method} {c : Code} {ck cn : Nat} {Q : State → Prop} {D : va_G} {dA : Nat → ClassId} {b0 : Nat} {ad : Nat → Nat}
set_option maxRecDepth 10000 in
set_option maxHeartbeats 4000000 in
theorem pL_law_b1477_23 (X : wCx p s m args meth c RL cL_law 7 D dA b0 ad) (hr : meth.sig.returnType = (some .boolean)) {h : wSt} {xs : Nat → Int32} {L : Nat} {v4 : Int32} (hsc : wSc s ad b0 L xs) (hR : 200 ≤ R.frames ∧ 13000 ≤ R.locals ∧ ck + 10 ≤ R.cells ∧ cn + 100 ≤ R.slots) {K : (Int32 × wSt) ⊕ ((wSt)) → Prop} (hN : ∀ (n4 : Int32) (nh : wSt), K (.inl (n4, nh)) → wM p l e R s m args below meth c (ck + 1) (cn + 8) Q 7 D dA b0 ad S0 23 [some (.ref 99999), some (.ref 0), some (.ref 188), some (.ref 233), some (.int n4), none, none] [] nh) (hX0 : ∀ (nh : wSt), K (.inr nh) → wM p l e R s m args below meth c ck cn Q 7 D dA b0 ad S0 1483 [none, none, none, none, none, none, none] [] nh) (hf : wok (fL_law_b1477_23 h xs L v4) K) : wM p l e R s m args below meth c ck cn Q 7 D dA b0 ad S0 1477 [some (.ref 99999), some (.ref 0), some (.ref 188), some (.ref 233), some (.int v4), none, none] [] h := by
  unfold fL_law_b1477_23 at hf
  refine w_iinc X dL_law_1477 rfl (v := (v4 + 7)) rfl rfl (Nat.le_of_ble_eq_true rfl) (cinc_7 _) (ls' := [some (.ref 99999), some (.ref 0), some (.ref 188), some (.ref 233), some (.int (v4 + 7)), none, none]) rfl ?_
  refine w_goto X dL_law_1480 (t := 23) rfl ?_
  exact w_wid (Nat.le_add_right _ _) (Nat.le_add_right _ _) (hN _ _ (wok_s hf))
set_option maxRecDepth 10000 in
set_option maxHeartbeats 4000000 in
theorem pL_law_b1163_23 (X : wCx p s m args meth c RL cL_law 7 D dA b0 ad) (hr : meth.sig.returnType = (some .boolean)) {h : wSt} {xs : Nat → Int32} {L : Nat} {v4 : Int32} {w0 : Int32} {w2 : Int32} {w3 : Int32} {w4 : Int32} {w5 : Int32} (hsc : wSc s ad b0 L xs) (hR : 200 ≤ R.frames ∧ 13000 ≤ R.locals ∧ ck + 10 ≤ R.cells ∧ cn + 100 ≤ R.slots) {K : (Int32 × wSt) ⊕ ((wSt)) → Prop} (hN : ∀ (n4 : Int32) (nh : wSt), K (.inl (n4, nh)) → wM p l e R s m args below meth c (ck + 1) (cn + 8) Q 7 D dA b0 ad S0 23 [some (.ref 99999), some (.ref 0), some (.ref 188), some (.ref 233), some (.int n4), none, none] [] nh) (hX0 : ∀ (nh : wSt), K (.inr nh) → wM p l e R s m args below meth c ck cn Q 7 D dA b0 ad S0 1483 [none, none, none, none, none, none, none] [] nh) (hf : wok (fL_law_b1163_23 h xs L v4 w0 w2 w3 w4 w5) K) : wM p l e R s m args below meth c ck cn Q 7 D dA b0 ad S0 1163 [some (.ref 99999), some (.ref 0), some (.ref 188), some (.ref 233), some (.int v4), none, none] [.int w5, .int w4, .int w3, .int w2, .ref 188, .int w0] h := by
  unfold fL_law_b1163_23 at hf
  obtain ⟨yr155, eyr155, hf⟩ := wok_b hf
  refine w_callV X dL_law_1163 rfl vl_L_144 (kX11_see l  eyr155) S0_188 (As := [.int w2, .int w3, .int w4, .int w5]) (st := [.int w0]) rfl rfl (Nat.le_of_ble_eq_true rfl) ⟨by omega, by omega⟩ ⟨by omega, by omega⟩ (fun r h2 hF => ?_)
  obtain ⟨_, rfl, rfl, rfl⟩ := hF
  show wM p l e R s m args below meth c ck cn Q 7 D dA b0 ad S0 1166 [some (.ref 99999), some (.ref 0), some (.ref 188), some (.ref 233), some (.int v4), none, none] [.int (wb yr155.1), .int w0] yr155.2
  refine w_icmp_eq X dL_law_1166 rfl (t := 1477) rfl (fun hc => ?_) (fun hc => ?_)
  · have hf := wok_t hf hc
    exact pL_law_b1477_23 X hr hsc hR hN hX0 hf
  · have hf := wok_f hf hc
    refine w_iconst X dL_law_1169 rfl ci_0 ?_
    exact wok_n hf
set_option maxRecDepth 10000 in
set_option maxHeartbeats 4000000 in
theorem pL_law_b1127_23 (X : wCx p s m args meth c RL cL_law 7 D dA b0 ad) (hr : meth.sig.returnType = (some .boolean)) {h : wSt} {xs : Nat → Int32} {L : Nat} {v4 : Int32} {w1 : Int32} {w2 : Int32} {w3 : Int32} {w4 : Int32} (hsc : wSc s ad b0 L xs) (hR : 200 ≤ R.frames ∧ 13000 ≤ R.locals ∧ ck + 10 ≤ R.cells ∧ cn + 100 ≤ R.slots) {K : (Int32 × wSt) ⊕ ((wSt)) → Prop} (hN : ∀ (n4 : Int32) (nh : wSt), K (.inl (n4, nh)) → wM p l e R s m args below meth c (ck + 1) (cn + 8) Q 7 D dA b0 ad S0 23 [some (.ref 99999), some (.ref 0), some (.ref 188), some (.ref 233), some (.int n4), none, none] [] nh) (hX0 : ∀ (nh : wSt), K (.inr nh) → wM p l e R s m args below meth c ck cn Q 7 D dA b0 ad S0 1483 [none, none, none, none, none, none, none] [] nh) (hf : wok (fL_law_b1127_23 h xs L v4 w1 w2 w3 w4) K) : wM p l e R s m args below meth c ck cn Q 7 D dA b0 ad S0 1127 [some (.ref 99999), some (.ref 0), some (.ref 188), some (.ref 233), some (.int v4), none, none] [.int w4, .int w3, .int w2, .int w1, .ref 0] h := by
  unfold fL_law_b1127_23 at hf
  obtain ⟨yr150, eyr150, hf⟩ := wok_b hf
  refine w_callV X dL_law_1127 rfl vl_L_140 (kX10_see l  eyr150) S0_0 (As := [.int w1, .int w2, .int w3, .int w4]) (st := []) rfl rfl (Nat.le_of_ble_eq_true rfl) ⟨by omega, by omega⟩ ⟨by omega, by omega⟩ (fun r h2 hF => ?_)
  obtain ⟨_, rfl, rfl, rfl⟩ := hF
  show wM p l e R s m args below meth c ck cn Q 7 D dA b0 ad S0 1130 [some (.ref 99999), some (.ref 0), some (.ref 188), some (.ref 233), some (.int v4), none, none] [.int (wb yr150.1)] yr150.2
  refine w_aload_n X dL_law_1130 rfl rfl rfl ?_
  refine w_aload_n X dL_law_1131 rfl rfl rfl ?_
  refine w_iload X dL_law_1132 rfl rfl ?_
  refine w_iconst X dL_law_1134 rfl ci_1 ?_
  refine w_iadd X dL_law_1135 rfl ?_
  obtain ⟨yhg151, hf⟩ := wok_g hf
  refine w_sld X dL_law_1136 rfl hsc (j := (v4 + 1).toNatClampNeg) rfl yhg151 ?_
  refine w_aload_n X dL_law_1137 rfl rfl rfl ?_
  refine w_iload X dL_law_1138 rfl rfl ?_
  refine w_iconst X dL_law_1140 rfl ci_2 ?_
  refine w_iadd X dL_law_1141 rfl ?_
  obtain ⟨yhg152, hf⟩ := wok_g hf
  refine w_sld X dL_law_1142 rfl hsc (j := (v4 + 2).toNatClampNeg) rfl yhg152 ?_
  refine w_aload_n X dL_law_1143 rfl rfl rfl ?_
  refine w_iload X dL_law_1144 rfl rfl ?_
  refine w_iconst X dL_law_1146 rfl ci_3 ?_
  refine w_iadd X dL_law_1147 rfl ?_
  obtain ⟨yhg153, hf⟩ := wok_g hf
  refine w_sld X dL_law_1148 rfl hsc (j := (v4 + 3).toNatClampNeg) rfl yhg153 ?_
  refine w_aload_n X dL_law_1149 rfl rfl rfl ?_
  refine w_iload X dL_law_1150 rfl rfl ?_
  refine w_iconst X dL_law_1152 rfl ci_4 ?_
  refine w_iadd X dL_law_1153 rfl ?_
  obtain ⟨yhg154, hf⟩ := wok_g hf
  refine w_sld X dL_law_1154 rfl hsc (j := (v4 + 4).toNatClampNeg) rfl yhg154 ?_
  refine w_if_eq X dL_law_1155 rfl (t := 1162) rfl (fun hc => ?_) (fun hc => ?_)
  · have hf := wok_t hf hc
    refine w_iconst X dL_law_1162 rfl ci_0 ?_
    exact pL_law_b1163_23 X hr hsc hR hN hX0 hf
  · have hf := wok_f hf hc
    refine w_iconst X dL_law_1158 rfl ci_1 ?_
    refine w_goto X dL_law_1159 (t := 1163) rfl ?_
    exact pL_law_b1163_23 X hr hsc hR hN hX0 hf
set_option maxRecDepth 10000 in
set_option maxHeartbeats 4000000 in
theorem pL_law_b1444_23 (X : wCx p s m args meth c RL cL_law 7 D dA b0 ad) (hr : meth.sig.returnType = (some .boolean)) {h : wSt} {xs : Nat → Int32} {L : Nat} {v4 : Int32} {w0 : Int32} {w2 : Int32} {w3 : Int32} (hsc : wSc s ad b0 L xs) (hR : 200 ≤ R.frames ∧ 13000 ≤ R.locals ∧ ck + 10 ≤ R.cells ∧ cn + 100 ≤ R.slots) {K : (Int32 × wSt) ⊕ ((wSt)) → Prop} (hN : ∀ (n4 : Int32) (nh : wSt), K (.inl (n4, nh)) → wM p l e R s m args below meth c (ck + 1) (cn + 8) Q 7 D dA b0 ad S0 23 [some (.ref 99999), some (.ref 0), some (.ref 188), some (.ref 233), some (.int n4), none, none] [] nh) (hX0 : ∀ (nh : wSt), K (.inr nh) → wM p l e R s m args below meth c ck cn Q 7 D dA b0 ad S0 1483 [none, none, none, none, none, none, none] [] nh) (hf : wok (fL_law_b1444_23 h xs L v4 w0 w2 w3) K) : wM p l e R s m args below meth c ck cn Q 7 D dA b0 ad S0 1444 [some (.ref 99999), some (.ref 0), some (.ref 188), some (.ref 233), some (.int v4), none, none] [.int w3, .int w2, .ref 188, .int w0] h := by
  unfold fL_law_b1444_23 at hf
  obtain ⟨yr186, eyr186, hf⟩ := wok_b hf
  refine w_callV X dL_law_1444 rfl vl_L_174 (kX11_mark l  eyr186) S0_188 (As := [.int w2, .int w3]) (st := [.int w0]) rfl rfl (Nat.le_of_ble_eq_true rfl) ⟨by omega, by omega⟩ ⟨by omega, by omega⟩ (fun r h2 hF => ?_)
  obtain ⟨_, rfl, rfl, rfl⟩ := hF
  show wM p l e R s m args below meth c ck cn Q 7 D dA b0 ad S0 1447 [some (.ref 99999), some (.ref 0), some (.ref 188), some (.ref 233), some (.int v4), none, none] [.int (wb yr186.1), .int w0] yr186.2
  refine w_icmp_eq X dL_law_1447 rfl (t := 1477) rfl (fun hc => ?_) (fun hc => ?_)
  · have hf := wok_t hf hc
    exact pL_law_b1477_23 X hr hsc hR hN hX0 hf
  · have hf := wok_f hf hc
    refine w_iconst X dL_law_1450 rfl ci_0 ?_
    exact wok_n hf
set_option maxRecDepth 10000 in
set_option maxHeartbeats 4000000 in
theorem pL_law_b1420_23 (X : wCx p s m args meth c RL cL_law 7 D dA b0 ad) (hr : meth.sig.returnType = (some .boolean)) {h : wSt} {xs : Nat → Int32} {L : Nat} {v4 : Int32} {w1 : Int32} {w2 : Int32} (hsc : wSc s ad b0 L xs) (hR : 200 ≤ R.frames ∧ 13000 ≤ R.locals ∧ ck + 10 ≤ R.cells ∧ cn + 100 ≤ R.slots) {K : (Int32 × wSt) ⊕ ((wSt)) → Prop} (hN : ∀ (n4 : Int32) (nh : wSt), K (.inl (n4, nh)) → wM p l e R s m args below meth c (ck + 1) (cn + 8) Q 7 D dA b0 ad S0 23 [some (.ref 99999), some (.ref 0), some (.ref 188), some (.ref 233), some (.int n4), none, none] [] nh) (hX0 : ∀ (nh : wSt), K (.inr nh) → wM p l e R s m args below meth c ck cn Q 7 D dA b0 ad S0 1483 [none, none, none, none, none, none, none] [] nh) (hf : wok (fL_law_b1420_23 h xs L v4 w1 w2) K) : wM p l e R s m args below meth c ck cn Q 7 D dA b0 ad S0 1420 [some (.ref 99999), some (.ref 0), some (.ref 188), some (.ref 233), some (.int v4), none, none] [.int w2, .int w1, .ref 0] h := by
  unfold fL_law_b1420_23 at hf
  obtain ⟨yr183, eyr183, hf⟩ := wok_b hf
  refine w_callV X dL_law_1420 rfl vl_L_170 (kX10_mark l  eyr183) S0_0 (As := [.int w1, .int w2]) (st := []) rfl rfl (Nat.le_of_ble_eq_true rfl) ⟨by omega, by omega⟩ ⟨by omega, by omega⟩ (fun r h2 hF => ?_)
  obtain ⟨_, rfl, rfl, rfl⟩ := hF
  show wM p l e R s m args below meth c ck cn Q 7 D dA b0 ad S0 1423 [some (.ref 99999), some (.ref 0), some (.ref 188), some (.ref 233), some (.int v4), none, none] [.int (wb yr183.1)] yr183.2
  refine w_aload_n X dL_law_1423 rfl rfl rfl ?_
  refine w_aload_n X dL_law_1424 rfl rfl rfl ?_
  refine w_iload X dL_law_1425 rfl rfl ?_
  refine w_iconst X dL_law_1427 rfl ci_1 ?_
  refine w_iadd X dL_law_1428 rfl ?_
  obtain ⟨yhg184, hf⟩ := wok_g hf
  refine w_sld X dL_law_1429 rfl hsc (j := (v4 + 1).toNatClampNeg) rfl yhg184 ?_
  refine w_aload_n X dL_law_1430 rfl rfl rfl ?_
  refine w_iload X dL_law_1431 rfl rfl ?_
  refine w_iconst X dL_law_1433 rfl ci_2 ?_
  refine w_iadd X dL_law_1434 rfl ?_
  obtain ⟨yhg185, hf⟩ := wok_g hf
  refine w_sld X dL_law_1435 rfl hsc (j := (v4 + 2).toNatClampNeg) rfl yhg185 ?_
  refine w_if_eq X dL_law_1436 rfl (t := 1443) rfl (fun hc => ?_) (fun hc => ?_)
  · have hf := wok_t hf hc
    refine w_iconst X dL_law_1443 rfl ci_0 ?_
    exact pL_law_b1444_23 X hr hsc hR hN hX0 hf
  · have hf := wok_f hf hc
    refine w_iconst X dL_law_1439 rfl ci_1 ?_
    refine w_goto X dL_law_1440 (t := 1444) rfl ?_
    exact pL_law_b1444_23 X hr hsc hR hN hX0 hf
set_option maxRecDepth 10000 in
set_option maxHeartbeats 4000000 in
theorem pL_law_l23b (X : wCx p s m args meth c RL cL_law 7 D dA b0 ad) (hr : meth.sig.returnType = (some .boolean)) {h : wSt} {xs : Nat → Int32} {L : Nat} {v4 : Int32} (hsc : wSc s ad b0 L xs) (hR : 200 ≤ R.frames ∧ 13000 ≤ R.locals ∧ ck + 10 ≤ R.cells ∧ cn + 100 ≤ R.slots) {K : (Int32 × wSt) ⊕ ((wSt)) → Prop} (hN : ∀ (n4 : Int32) (nh : wSt), K (.inl (n4, nh)) → wM p l e R s m args below meth c (ck + 1) (cn + 8) Q 7 D dA b0 ad S0 23 [some (.ref 99999), some (.ref 0), some (.ref 188), some (.ref 233), some (.int n4), none, none] [] nh) (hX0 : ∀ (nh : wSt), K (.inr nh) → wM p l e R s m args below meth c ck cn Q 7 D dA b0 ad S0 1483 [none, none, none, none, none, none, none] [] nh) (hf : wok (fL_law_l23 h xs L v4) K) : wM p l e R s m args below meth c ck cn Q 7 D dA b0 ad S0 23 [some (.ref 99999), some (.ref 0), some (.ref 188), some (.ref 233), some (.int v4), none, none] [] h := by
  unfold fL_law_l23 at hf
  refine w_iload X dL_law_23 rfl rfl ?_
  refine w_aload_n X dL_law_25 rfl rfl rfl ?_
  refine w_slen0 X dL_law_26 rfl hsc ?_
  refine w_bipush X dL_law_27 rfl cb_7 ?_
  refine w_isub X dL_law_29 rfl ?_
  refine w_icmp_gt X dL_law_30 rfl (t := 1483) rfl (fun hc => ?_) (fun hc => ?_)
  · have hf := wok_t hf hc
    refine w_fg (ls2 := [none, none, none, none, none, none, none]) trivial ?_
    exact hX0 _ (wok_s hf)
  · have hf := wok_f hf hc
    refine w_aload_n X dL_law_33 rfl rfl rfl ?_
    refine w_iload X dL_law_34 rfl rfl ?_
    obtain ⟨yhg21, hf⟩ := wok_g hf
    refine w_sld X dL_law_36 rfl hsc (j := v4.toNatClampNeg) rfl yhg21 ?_
    refine w_bipush X dL_law_37 rfl cb_63 ?_
    refine w_iand X dL_law_39 rfl ?_
    by_cases yhs22 : ((xs v4.toNatClampNeg) &&& 63) = 0
    · have hf := wok_t hf yhs22
      refine w_swIn X dL_law_40 (t := 200) (off := 160) rfl (by rw [yhs22]; decide) (by rw [yhs22]; decide) (by rw [yhs22]; rfl) ?_
      refine w_aload_n X dL_law_200 rfl rfl rfl ?_
      refine w_aload_n X dL_law_201 rfl rfl rfl ?_
      refine w_iload X dL_law_202 rfl rfl ?_
      refine w_iconst X dL_law_204 rfl ci_1 ?_
      refine w_iadd X dL_law_205 rfl ?_
      obtain ⟨yhg23, hf⟩ := wok_g hf
      refine w_sld X dL_law_206 rfl hsc (j := (v4 + 1).toNatClampNeg) rfl yhg23 ?_
      refine w_i2l X dL_law_207 rfl ?_
      refine w_bipush X dL_law_208 rfl cb_32 ?_
      refine w_lshl X dL_law_210 rfl ?_
      refine w_aload_n X dL_law_211 rfl rfl rfl ?_
      refine w_iload X dL_law_212 rfl rfl ?_
      refine w_iconst X dL_law_214 rfl ci_2 ?_
      refine w_iadd X dL_law_215 rfl ?_
      obtain ⟨yhg24, hf⟩ := wok_g hf
      refine w_sld X dL_law_216 rfl hsc (j := (v4 + 2).toNatClampNeg) rfl yhg24 ?_
      refine w_i2l X dL_law_217 rfl ?_
      refine w_ldc2 X dL_law_218 rfl wd_1798 ?_
      refine w_land X dL_law_221 rfl ?_
      refine w_lor X dL_law_222 rfl ?_
      refine w_aload_n X dL_law_223 rfl rfl rfl ?_
      refine w_iload X dL_law_224 rfl rfl ?_
      refine w_iconst X dL_law_226 rfl ci_3 ?_
      refine w_iadd X dL_law_227 rfl ?_
      obtain ⟨yhg25, hf⟩ := wok_g hf
      refine w_sld X dL_law_228 rfl hsc (j := (v4 + 3).toNatClampNeg) rfl yhg25 ?_
      refine w_i2l X dL_law_229 rfl ?_
      refine w_bipush X dL_law_230 rfl cb_32 ?_
      refine w_lshl X dL_law_232 rfl ?_
      refine w_aload_n X dL_law_233 rfl rfl rfl ?_
      refine w_iload X dL_law_234 rfl rfl ?_
      refine w_iconst X dL_law_236 rfl ci_4 ?_
      refine w_iadd X dL_law_237 rfl ?_
      obtain ⟨yhg26, hf⟩ := wok_g hf
      refine w_sld X dL_law_238 rfl hsc (j := (v4 + 4).toNatClampNeg) rfl yhg26 ?_
      refine w_i2l X dL_law_239 rfl ?_
      refine w_ldc2 X dL_law_240 rfl wd_1798 ?_
      refine w_land X dL_law_243 rfl ?_
      refine w_lor X dL_law_244 rfl ?_
      refine w_aload_n X dL_law_245 rfl rfl rfl ?_
      refine w_iload X dL_law_246 rfl rfl ?_
      refine w_iconst X dL_law_248 rfl ci_5 ?_
      refine w_iadd X dL_law_249 rfl ?_
      obtain ⟨yhg27, hf⟩ := wok_g hf
      refine w_sld X dL_law_250 rfl hsc (j := (v4 + 5).toNatClampNeg) rfl yhg27 ?_
      refine w_i2l X dL_law_251 rfl ?_
      refine w_bipush X dL_law_252 rfl cb_32 ?_
      refine w_lshl X dL_law_254 rfl ?_
      refine w_aload_n X dL_law_255 rfl rfl rfl ?_
      refine w_iload X dL_law_256 rfl rfl ?_
      refine w_bipush X dL_law_258 rfl cb_6 ?_
      refine w_iadd X dL_law_260 rfl ?_
      obtain ⟨yhg28, hf⟩ := wok_g hf
      refine w_sld X dL_law_261 rfl hsc (j := (v4 + 6).toNatClampNeg) rfl yhg28 ?_
      refine w_i2l X dL_law_262 rfl ?_
      refine w_ldc2 X dL_law_263 rfl wd_1798 ?_
      refine w_land X dL_law_266 rfl ?_
      refine w_lor X dL_law_267 rfl ?_
      obtain ⟨yr29, eyr29, hf⟩ := wok_b hf
      refine w_callV X dL_law_268 rfl vl_L_21 (kX10_feed l  eyr29) S0_0 (As := [.long ((((xs (v4 + 1).toNatClampNeg).toInt64) <<< ((32 : Int32).toInt64 &&& 63)) ||| (((xs (v4 + 2).toNatClampNeg).toInt64) &&& 4294967295)), .long ((((xs (v4 + 3).toNatClampNeg).toInt64) <<< ((32 : Int32).toInt64 &&& 63)) ||| (((xs (v4 + 4).toNatClampNeg).toInt64) &&& 4294967295)), .long ((((xs (v4 + 5).toNatClampNeg).toInt64) <<< ((32 : Int32).toInt64 &&& 63)) ||| (((xs (v4 + 6).toNatClampNeg).toInt64) &&& 4294967295))]) (st := []) rfl rfl (Nat.le_of_ble_eq_true rfl) ⟨by omega, by omega⟩ ⟨by omega, by omega⟩ (fun r h2 hF => ?_)
      obtain ⟨_, rfl, rfl, rfl⟩ := hF
      show wM p l e R s m args below meth c ck cn Q 7 D dA b0 ad S0 271 [some (.ref 99999), some (.ref 0), some (.ref 188), some (.ref 233), some (.int v4), none, none] [.int yr29.1] yr29.2
      refine w_aload_n X dL_law_271 rfl rfl rfl ?_
      refine w_aload_n X dL_law_272 rfl rfl rfl ?_
      refine w_iload X dL_law_273 rfl rfl ?_
      refine w_iconst X dL_law_275 rfl ci_1 ?_
      refine w_iadd X dL_law_276 rfl ?_
      refine w_sld X dL_law_277 rfl hsc (j := (v4 + 1).toNatClampNeg) rfl yhg23 ?_
      refine w_i2l X dL_law_278 rfl ?_
      refine w_bipush X dL_law_279 rfl cb_32 ?_
      refine w_lshl X dL_law_281 rfl ?_
      refine w_aload_n X dL_law_282 rfl rfl rfl ?_
      refine w_iload X dL_law_283 rfl rfl ?_
      refine w_iconst X dL_law_285 rfl ci_2 ?_
      refine w_iadd X dL_law_286 rfl ?_
      refine w_sld X dL_law_287 rfl hsc (j := (v4 + 2).toNatClampNeg) rfl yhg24 ?_
      refine w_i2l X dL_law_288 rfl ?_
      refine w_ldc2 X dL_law_289 rfl wd_1798 ?_
      refine w_land X dL_law_292 rfl ?_
      refine w_lor X dL_law_293 rfl ?_
      refine w_aload_n X dL_law_294 rfl rfl rfl ?_
      refine w_iload X dL_law_295 rfl rfl ?_
      refine w_iconst X dL_law_297 rfl ci_3 ?_
      refine w_iadd X dL_law_298 rfl ?_
      refine w_sld X dL_law_299 rfl hsc (j := (v4 + 3).toNatClampNeg) rfl yhg25 ?_
      refine w_i2l X dL_law_300 rfl ?_
      refine w_bipush X dL_law_301 rfl cb_32 ?_
      refine w_lshl X dL_law_303 rfl ?_
      refine w_aload_n X dL_law_304 rfl rfl rfl ?_
      refine w_iload X dL_law_305 rfl rfl ?_
      refine w_iconst X dL_law_307 rfl ci_4 ?_
      refine w_iadd X dL_law_308 rfl ?_
      refine w_sld X dL_law_309 rfl hsc (j := (v4 + 4).toNatClampNeg) rfl yhg26 ?_
      refine w_i2l X dL_law_310 rfl ?_
      refine w_ldc2 X dL_law_311 rfl wd_1798 ?_
      refine w_land X dL_law_314 rfl ?_
      refine w_lor X dL_law_315 rfl ?_
      refine w_aload_n X dL_law_316 rfl rfl rfl ?_
      refine w_iload X dL_law_317 rfl rfl ?_
      refine w_iconst X dL_law_319 rfl ci_5 ?_
      refine w_iadd X dL_law_320 rfl ?_
      refine w_sld X dL_law_321 rfl hsc (j := (v4 + 5).toNatClampNeg) rfl yhg27 ?_
      refine w_i2l X dL_law_322 rfl ?_
      refine w_bipush X dL_law_323 rfl cb_32 ?_
      refine w_lshl X dL_law_325 rfl ?_
      refine w_aload_n X dL_law_326 rfl rfl rfl ?_
      refine w_iload X dL_law_327 rfl rfl ?_
      refine w_bipush X dL_law_329 rfl cb_6 ?_
      refine w_iadd X dL_law_331 rfl ?_
      refine w_sld X dL_law_332 rfl hsc (j := (v4 + 6).toNatClampNeg) rfl yhg28 ?_
      refine w_i2l X dL_law_333 rfl ?_
      refine w_ldc2 X dL_law_334 rfl wd_1798 ?_
      refine w_land X dL_law_337 rfl ?_
      refine w_lor X dL_law_338 rfl ?_
      obtain ⟨yr30, eyr30, hf⟩ := wok_b hf
      refine w_callV X dL_law_339 rfl vl_L_25 (kX11_feed l  eyr30) S0_188 (As := [.long ((((xs (v4 + 1).toNatClampNeg).toInt64) <<< ((32 : Int32).toInt64 &&& 63)) ||| (((xs (v4 + 2).toNatClampNeg).toInt64) &&& 4294967295)), .long ((((xs (v4 + 3).toNatClampNeg).toInt64) <<< ((32 : Int32).toInt64 &&& 63)) ||| (((xs (v4 + 4).toNatClampNeg).toInt64) &&& 4294967295)), .long ((((xs (v4 + 5).toNatClampNeg).toInt64) <<< ((32 : Int32).toInt64 &&& 63)) ||| (((xs (v4 + 6).toNatClampNeg).toInt64) &&& 4294967295))]) (st := [.int yr29.1]) rfl rfl (Nat.le_of_ble_eq_true rfl) ⟨by omega, by omega⟩ ⟨by omega, by omega⟩ (fun r h2 hF => ?_)
      obtain ⟨_, rfl, rfl, rfl⟩ := hF
      show wM p l e R s m args below meth c ck cn Q 7 D dA b0 ad S0 342 [some (.ref 99999), some (.ref 0), some (.ref 188), some (.ref 233), some (.int v4), none, none] [.int yr30.1, .int yr29.1] yr30.2
      refine w_icmp_eq X dL_law_342 rfl (t := 1477) rfl (fun hc => ?_) (fun hc => ?_)
      · have hf := wok_t hf hc
        exact pL_law_b1477_23 X hr hsc hR hN hX0 hf
      · have hf := wok_f hf hc
        refine w_iconst X dL_law_345 rfl ci_0 ?_
        exact wok_n hf
    have hf := wok_f hf yhs22
    by_cases yhs31 : ((xs v4.toNatClampNeg) &&& 63) = 1
    · have hf := wok_t hf yhs31
      refine w_swIn X dL_law_40 (t := 347) (off := 307) rfl (by rw [yhs31]; decide) (by rw [yhs31]; decide) (by rw [yhs31]; rfl) ?_
      refine w_aload_n X dL_law_347 rfl rfl rfl ?_
      obtain ⟨yr32, eyr32, hf⟩ := wok_b hf
      refine w_callV X dL_law_348 rfl vl_L_26 (kX10_library l  eyr32) S0_0 (As := []) (st := []) rfl rfl (Nat.le_of_ble_eq_true rfl) ⟨by omega, by omega⟩ ⟨by omega, by omega⟩ (fun r h2 hF => ?_)
      obtain ⟨_, rfl, rfl, rfl⟩ := hF
      show wM p l e R s m args below meth c ck cn Q 7 D dA b0 ad S0 351 [some (.ref 99999), some (.ref 0), some (.ref 188), some (.ref 233), some (.int v4), none, none] [.int yr32.1] yr32.2
      refine w_aload_n X dL_law_351 rfl rfl rfl ?_
      obtain ⟨yr33, eyr33, hf⟩ := wok_b hf
      refine w_callV X dL_law_352 rfl vl_L_30 (kX11_library l  eyr33) S0_188 (As := []) (st := [.int yr32.1]) rfl rfl (Nat.le_of_ble_eq_true rfl) ⟨by omega, by omega⟩ ⟨by omega, by omega⟩ (fun r h2 hF => ?_)
      obtain ⟨_, rfl, rfl, rfl⟩ := hF
      show wM p l e R s m args below meth c ck cn Q 7 D dA b0 ad S0 355 [some (.ref 99999), some (.ref 0), some (.ref 188), some (.ref 233), some (.int v4), none, none] [.int yr33.1, .int yr32.1] yr33.2
      refine w_icmp_eq X dL_law_355 rfl (t := 1477) rfl (fun hc => ?_) (fun hc => ?_)
      · have hf := wok_t hf hc
        exact pL_law_b1477_23 X hr hsc hR hN hX0 hf
      · have hf := wok_f hf hc
        refine w_iconst X dL_law_358 rfl ci_0 ?_
        exact wok_n hf
    have hf := wok_f hf yhs31
    by_cases yhs34 : ((xs v4.toNatClampNeg) &&& 63) = 2
    · have hf := wok_t hf yhs34
      refine w_swIn X dL_law_40 (t := 360) (off := 320) rfl (by rw [yhs34]; decide) (by rw [yhs34]; decide) (by rw [yhs34]; rfl) ?_
      refine w_aload_n X dL_law_360 rfl rfl rfl ?_
      obtain ⟨yr35, eyr35, hf⟩ := wok_b hf
      refine w_callV X dL_law_361 rfl vl_L_31 (kX10_year l  eyr35) S0_0 (As := []) (st := []) rfl rfl (Nat.le_of_ble_eq_true rfl) ⟨by omega, by omega⟩ ⟨by omega, by omega⟩ (fun r h2 hF => ?_)
      obtain ⟨_, rfl, rfl, rfl⟩ := hF
      show wM p l e R s m args below meth c ck cn Q 7 D dA b0 ad S0 364 [some (.ref 99999), some (.ref 0), some (.ref 188), some (.ref 233), some (.int v4), none, none] [.int yr35.1] yr35.2
      refine w_aload_n X dL_law_364 rfl rfl rfl ?_
      obtain ⟨yr36, eyr36, hf⟩ := wok_b hf
      refine w_callV X dL_law_365 rfl vl_L_34 (kX11_year l  eyr36) S0_188 (As := []) (st := [.int yr35.1]) rfl rfl (Nat.le_of_ble_eq_true rfl) ⟨by omega, by omega⟩ ⟨by omega, by omega⟩ (fun r h2 hF => ?_)
      obtain ⟨_, rfl, rfl, rfl⟩ := hF
      show wM p l e R s m args below meth c ck cn Q 7 D dA b0 ad S0 368 [some (.ref 99999), some (.ref 0), some (.ref 188), some (.ref 233), some (.int v4), none, none] [.int yr36.1, .int yr35.1] yr36.2
      refine w_icmp_eq X dL_law_368 rfl (t := 1477) rfl (fun hc => ?_) (fun hc => ?_)
      · have hf := wok_t hf hc
        exact pL_law_b1477_23 X hr hsc hR hN hX0 hf
      · have hf := wok_f hf hc
        refine w_iconst X dL_law_371 rfl ci_0 ?_
        exact wok_n hf
    have hf := wok_f hf yhs34
    by_cases yhs37 : ((xs v4.toNatClampNeg) &&& 63) = 3
    · have hf := wok_t hf yhs37
      refine w_swIn X dL_law_40 (t := 373) (off := 333) rfl (by rw [yhs37]; decide) (by rw [yhs37]; decide) (by rw [yhs37]; rfl) ?_
      refine w_aload_n X dL_law_373 rfl rfl rfl ?_
      refine w_aload_n X dL_law_374 rfl rfl rfl ?_
      refine w_iload X dL_law_375 rfl rfl ?_
      refine w_iconst X dL_law_377 rfl ci_1 ?_
      refine w_iadd X dL_law_378 rfl ?_
      obtain ⟨yhg38, hf⟩ := wok_g hf
      refine w_sld X dL_law_379 rfl hsc (j := (v4 + 1).toNatClampNeg) rfl yhg38 ?_
      refine w_aload_n X dL_law_380 rfl rfl rfl ?_
      refine w_iload X dL_law_381 rfl rfl ?_
      refine w_iconst X dL_law_383 rfl ci_2 ?_
      refine w_iadd X dL_law_384 rfl ?_
      obtain ⟨yhg39, hf⟩ := wok_g hf
      refine w_sld X dL_law_385 rfl hsc (j := (v4 + 2).toNatClampNeg) rfl yhg39 ?_
      obtain ⟨yr40, eyr40, hf⟩ := wok_b hf
      refine w_callV X dL_law_386 rfl vl_L_35 (kX10_skin l  eyr40) S0_0 (As := [.int (xs (v4 + 1).toNatClampNeg), .int (xs (v4 + 2).toNatClampNeg)]) (st := []) rfl rfl (Nat.le_of_ble_eq_true rfl) ⟨by omega, by omega⟩ ⟨by omega, by omega⟩ (fun r h2 hF => ?_)
      obtain ⟨_, rfl, rfl, rfl⟩ := hF
      show wM p l e R s m args below meth c ck cn Q 7 D dA b0 ad S0 389 [some (.ref 99999), some (.ref 0), some (.ref 188), some (.ref 233), some (.int v4), none, none] [.int yr40.1] yr40.2
      refine w_aload_n X dL_law_389 rfl rfl rfl ?_
      refine w_aload_n X dL_law_390 rfl rfl rfl ?_
      refine w_iload X dL_law_391 rfl rfl ?_
      refine w_iconst X dL_law_393 rfl ci_1 ?_
      refine w_iadd X dL_law_394 rfl ?_
      refine w_sld X dL_law_395 rfl hsc (j := (v4 + 1).toNatClampNeg) rfl yhg38 ?_
      refine w_aload_n X dL_law_396 rfl rfl rfl ?_
      refine w_iload X dL_law_397 rfl rfl ?_
      refine w_iconst X dL_law_399 rfl ci_2 ?_
      refine w_iadd X dL_law_400 rfl ?_
      refine w_sld X dL_law_401 rfl hsc (j := (v4 + 2).toNatClampNeg) rfl yhg39 ?_
      obtain ⟨yr41, eyr41, hf⟩ := wok_b hf
      refine w_callV X dL_law_402 rfl vl_L_39 (kX11_skin l  eyr41) S0_188 (As := [.int (xs (v4 + 1).toNatClampNeg), .int (xs (v4 + 2).toNatClampNeg)]) (st := [.int yr40.1]) rfl rfl (Nat.le_of_ble_eq_true rfl) ⟨by omega, by omega⟩ ⟨by omega, by omega⟩ (fun r h2 hF => ?_)
      obtain ⟨_, rfl, rfl, rfl⟩ := hF
      show wM p l e R s m args below meth c ck cn Q 7 D dA b0 ad S0 405 [some (.ref 99999), some (.ref 0), some (.ref 188), some (.ref 233), some (.int v4), none, none] [.int yr41.1, .int yr40.1] yr41.2
      refine w_icmp_eq X dL_law_405 rfl (t := 1477) rfl (fun hc => ?_) (fun hc => ?_)
      · have hf := wok_t hf hc
        exact pL_law_b1477_23 X hr hsc hR hN hX0 hf
      · have hf := wok_f hf hc
        refine w_iconst X dL_law_408 rfl ci_0 ?_
        exact wok_n hf
    have hf := wok_f hf yhs37
    by_cases yhs42 : ((xs v4.toNatClampNeg) &&& 63) = 4
    · have hf := wok_t hf yhs42
      refine w_swIn X dL_law_40 (t := 410) (off := 370) rfl (by rw [yhs42]; decide) (by rw [yhs42]; decide) (by rw [yhs42]; rfl) ?_
      refine w_aload_n X dL_law_410 rfl rfl rfl ?_
      refine w_aload_n X dL_law_411 rfl rfl rfl ?_
      refine w_iload X dL_law_412 rfl rfl ?_
      refine w_iconst X dL_law_414 rfl ci_1 ?_
      refine w_iadd X dL_law_415 rfl ?_
      obtain ⟨yhg43, hf⟩ := wok_g hf
      refine w_sld X dL_law_416 rfl hsc (j := (v4 + 1).toNatClampNeg) rfl yhg43 ?_
      refine w_aload_n X dL_law_417 rfl rfl rfl ?_
      refine w_iload X dL_law_418 rfl rfl ?_
      refine w_iconst X dL_law_420 rfl ci_2 ?_
      refine w_iadd X dL_law_421 rfl ?_
      obtain ⟨yhg44, hf⟩ := wok_g hf
      refine w_sld X dL_law_422 rfl hsc (j := (v4 + 2).toNatClampNeg) rfl yhg44 ?_
      obtain ⟨yr45, eyr45, hf⟩ := wok_b hf
      refine w_callV X dL_law_423 rfl vl_L_40 (kX10_text l  eyr45) S0_0 (As := [.int (xs (v4 + 1).toNatClampNeg), .int (xs (v4 + 2).toNatClampNeg)]) (st := []) rfl rfl (Nat.le_of_ble_eq_true rfl) ⟨by omega, by omega⟩ ⟨by omega, by omega⟩ (fun r h2 hF => ?_)
      obtain ⟨_, rfl, rfl, rfl⟩ := hF
      show wM p l e R s m args below meth c ck cn Q 7 D dA b0 ad S0 426 [some (.ref 99999), some (.ref 0), some (.ref 188), some (.ref 233), some (.int v4), none, none] [.int yr45.1] yr45.2
      refine w_aload_n X dL_law_426 rfl rfl rfl ?_
      refine w_aload_n X dL_law_427 rfl rfl rfl ?_
      refine w_iload X dL_law_428 rfl rfl ?_
      refine w_iconst X dL_law_430 rfl ci_1 ?_
      refine w_iadd X dL_law_431 rfl ?_
      refine w_sld X dL_law_432 rfl hsc (j := (v4 + 1).toNatClampNeg) rfl yhg43 ?_
      refine w_aload_n X dL_law_433 rfl rfl rfl ?_
      refine w_iload X dL_law_434 rfl rfl ?_
      refine w_iconst X dL_law_436 rfl ci_2 ?_
      refine w_iadd X dL_law_437 rfl ?_
      refine w_sld X dL_law_438 rfl hsc (j := (v4 + 2).toNatClampNeg) rfl yhg44 ?_
      obtain ⟨yr46, eyr46, hf⟩ := wok_b hf
      refine w_callV X dL_law_439 rfl vl_L_43 (kX11_text l  eyr46) S0_188 (As := [.int (xs (v4 + 1).toNatClampNeg), .int (xs (v4 + 2).toNatClampNeg)]) (st := [.int yr45.1]) rfl rfl (Nat.le_of_ble_eq_true rfl) ⟨by omega, by omega⟩ ⟨by omega, by omega⟩ (fun r h2 hF => ?_)
      obtain ⟨_, rfl, rfl, rfl⟩ := hF
      show wM p l e R s m args below meth c ck cn Q 7 D dA b0 ad S0 442 [some (.ref 99999), some (.ref 0), some (.ref 188), some (.ref 233), some (.int v4), none, none] [.int yr46.1, .int yr45.1] yr46.2
      refine w_icmp_eq X dL_law_442 rfl (t := 1477) rfl (fun hc => ?_) (fun hc => ?_)
      · have hf := wok_t hf hc
        exact pL_law_b1477_23 X hr hsc hR hN hX0 hf
      · have hf := wok_f hf hc
        refine w_iconst X dL_law_445 rfl ci_0 ?_
        exact wok_n hf
    have hf := wok_f hf yhs42
    by_cases yhs47 : ((xs v4.toNatClampNeg) &&& 63) = 5
    · have hf := wok_t hf yhs47
      refine w_swIn X dL_law_40 (t := 447) (off := 407) rfl (by rw [yhs47]; decide) (by rw [yhs47]; decide) (by rw [yhs47]; rfl) ?_
      refine w_aload_n X dL_law_447 rfl rfl rfl ?_
      refine w_aload_n X dL_law_448 rfl rfl rfl ?_
      refine w_iload X dL_law_449 rfl rfl ?_
      refine w_iconst X dL_law_451 rfl ci_1 ?_
      refine w_iadd X dL_law_452 rfl ?_
      obtain ⟨yhg48, hf⟩ := wok_g hf
      refine w_sld X dL_law_453 rfl hsc (j := (v4 + 1).toNatClampNeg) rfl yhg48 ?_
      refine w_aload_n X dL_law_454 rfl rfl rfl ?_
      refine w_iload X dL_law_455 rfl rfl ?_
      refine w_iconst X dL_law_457 rfl ci_2 ?_
      refine w_iadd X dL_law_458 rfl ?_
      obtain ⟨yhg49, hf⟩ := wok_g hf
      refine w_sld X dL_law_459 rfl hsc (j := (v4 + 2).toNatClampNeg) rfl yhg49 ?_
      obtain ⟨yr50, eyr50, hf⟩ := wok_b hf
      refine w_callV X dL_law_460 rfl vl_L_44 (kX10_layers l  eyr50) S0_0 (As := [.int (xs (v4 + 1).toNatClampNeg), .int (xs (v4 + 2).toNatClampNeg)]) (st := []) rfl rfl (Nat.le_of_ble_eq_true rfl) ⟨by omega, by omega⟩ ⟨by omega, by omega⟩ (fun r h2 hF => ?_)
      obtain ⟨_, rfl, rfl, rfl⟩ := hF
      show wM p l e R s m args below meth c ck cn Q 7 D dA b0 ad S0 463 [some (.ref 99999), some (.ref 0), some (.ref 188), some (.ref 233), some (.int v4), none, none] [.int yr50] h
      refine w_aload_n X dL_law_463 rfl rfl rfl ?_
      refine w_aload_n X dL_law_464 rfl rfl rfl ?_
      refine w_iload X dL_law_465 rfl rfl ?_
      refine w_iconst X dL_law_467 rfl ci_1 ?_
      refine w_iadd X dL_law_468 rfl ?_
      refine w_sld X dL_law_469 rfl hsc (j := (v4 + 1).toNatClampNeg) rfl yhg48 ?_
      refine w_aload_n X dL_law_470 rfl rfl rfl ?_
      refine w_iload X dL_law_471 rfl rfl ?_
      refine w_iconst X dL_law_473 rfl ci_2 ?_
      refine w_iadd X dL_law_474 rfl ?_
      refine w_sld X dL_law_475 rfl hsc (j := (v4 + 2).toNatClampNeg) rfl yhg49 ?_
      obtain ⟨yr51, eyr51, hf⟩ := wok_b hf
      refine w_callV X dL_law_476 rfl vl_L_47 (kX11_layers l  eyr51) S0_188 (As := [.int (xs (v4 + 1).toNatClampNeg), .int (xs (v4 + 2).toNatClampNeg)]) (st := [.int yr50]) rfl rfl (Nat.le_of_ble_eq_true rfl) ⟨by omega, by omega⟩ ⟨by omega, by omega⟩ (fun r h2 hF => ?_)
      obtain ⟨_, rfl, rfl, rfl⟩ := hF
      show wM p l e R s m args below meth c ck cn Q 7 D dA b0 ad S0 479 [some (.ref 99999), some (.ref 0), some (.ref 188), some (.ref 233), some (.int v4), none, none] [.int yr51.1, .int yr50] yr51.2
      refine w_icmp_eq X dL_law_479 rfl (t := 1477) rfl (fun hc => ?_) (fun hc => ?_)
      · have hf := wok_t hf hc
        exact pL_law_b1477_23 X hr hsc hR hN hX0 hf
      · have hf := wok_f hf hc
        refine w_iconst X dL_law_482 rfl ci_0 ?_
        exact wok_n hf
    have hf := wok_f hf yhs47
    by_cases yhs52 : ((xs v4.toNatClampNeg) &&& 63) = 6
    · have hf := wok_t hf yhs52
      refine w_swIn X dL_law_40 (t := 484) (off := 444) rfl (by rw [yhs52]; decide) (by rw [yhs52]; decide) (by rw [yhs52]; rfl) ?_
      refine w_aload_n X dL_law_484 rfl rfl rfl ?_
      refine w_aload_n X dL_law_485 rfl rfl rfl ?_
      refine w_iload X dL_law_486 rfl rfl ?_
      refine w_iconst X dL_law_488 rfl ci_1 ?_
      refine w_iadd X dL_law_489 rfl ?_
      obtain ⟨yhg53, hf⟩ := wok_g hf
      refine w_sld X dL_law_490 rfl hsc (j := (v4 + 1).toNatClampNeg) rfl yhg53 ?_
      refine w_aload_n X dL_law_491 rfl rfl rfl ?_
      refine w_iload X dL_law_492 rfl rfl ?_
      refine w_iconst X dL_law_494 rfl ci_2 ?_
      refine w_iadd X dL_law_495 rfl ?_
      obtain ⟨yhg54, hf⟩ := wok_g hf
      refine w_sld X dL_law_496 rfl hsc (j := (v4 + 2).toNatClampNeg) rfl yhg54 ?_
      refine w_aload_n X dL_law_497 rfl rfl rfl ?_
      refine w_iload X dL_law_498 rfl rfl ?_
      refine w_iconst X dL_law_500 rfl ci_3 ?_
      refine w_iadd X dL_law_501 rfl ?_
      obtain ⟨yhg55, hf⟩ := wok_g hf
      refine w_sld X dL_law_502 rfl hsc (j := (v4 + 3).toNatClampNeg) rfl yhg55 ?_
      obtain ⟨yr56, eyr56, hf⟩ := wok_b hf
      refine w_callV X dL_law_503 rfl vl_L_48 (kX10_layer l  eyr56) S0_0 (As := [.int (xs (v4 + 1).toNatClampNeg), .int (xs (v4 + 2).toNatClampNeg), .int (xs (v4 + 3).toNatClampNeg)]) (st := []) rfl rfl (Nat.le_of_ble_eq_true rfl) ⟨by omega, by omega⟩ ⟨by omega, by omega⟩ (fun r h2 hF => ?_)
      obtain ⟨_, rfl, rfl, rfl⟩ := hF
      show wM p l e R s m args below meth c ck cn Q 7 D dA b0 ad S0 506 [some (.ref 99999), some (.ref 0), some (.ref 188), some (.ref 233), some (.int v4), none, none] [.int yr56] h
      refine w_aload_n X dL_law_506 rfl rfl rfl ?_
      refine w_aload_n X dL_law_507 rfl rfl rfl ?_
      refine w_iload X dL_law_508 rfl rfl ?_
      refine w_iconst X dL_law_510 rfl ci_1 ?_
      refine w_iadd X dL_law_511 rfl ?_
      refine w_sld X dL_law_512 rfl hsc (j := (v4 + 1).toNatClampNeg) rfl yhg53 ?_
      refine w_aload_n X dL_law_513 rfl rfl rfl ?_
      refine w_iload X dL_law_514 rfl rfl ?_
      refine w_iconst X dL_law_516 rfl ci_2 ?_
      refine w_iadd X dL_law_517 rfl ?_
      refine w_sld X dL_law_518 rfl hsc (j := (v4 + 2).toNatClampNeg) rfl yhg54 ?_
      refine w_aload_n X dL_law_519 rfl rfl rfl ?_
      refine w_iload X dL_law_520 rfl rfl ?_
      refine w_iconst X dL_law_522 rfl ci_3 ?_
      refine w_iadd X dL_law_523 rfl ?_
      refine w_sld X dL_law_524 rfl hsc (j := (v4 + 3).toNatClampNeg) rfl yhg55 ?_
      obtain ⟨yr57, eyr57, hf⟩ := wok_b hf
      refine w_callV X dL_law_525 rfl vl_L_52 (kX11_layer l  eyr57) S0_188 (As := [.int (xs (v4 + 1).toNatClampNeg), .int (xs (v4 + 2).toNatClampNeg), .int (xs (v4 + 3).toNatClampNeg)]) (st := [.int yr56]) rfl rfl (Nat.le_of_ble_eq_true rfl) ⟨by omega, by omega⟩ ⟨by omega, by omega⟩ (fun r h2 hF => ?_)
      obtain ⟨_, rfl, rfl, rfl⟩ := hF
      show wM p l e R s m args below meth c ck cn Q 7 D dA b0 ad S0 528 [some (.ref 99999), some (.ref 0), some (.ref 188), some (.ref 233), some (.int v4), none, none] [.int yr57.1, .int yr56] yr57.2
      refine w_icmp_eq X dL_law_528 rfl (t := 1477) rfl (fun hc => ?_) (fun hc => ?_)
      · have hf := wok_t hf hc
        exact pL_law_b1477_23 X hr hsc hR hN hX0 hf
      · have hf := wok_f hf hc
        refine w_iconst X dL_law_531 rfl ci_0 ?_
        exact wok_n hf
    have hf := wok_f hf yhs52
    by_cases yhs58 : ((xs v4.toNatClampNeg) &&& 63) = 7
    · have hf := wok_t hf yhs58
      refine w_swIn X dL_law_40 (t := 533) (off := 493) rfl (by rw [yhs58]; decide) (by rw [yhs58]; decide) (by rw [yhs58]; rfl) ?_
      refine w_aload_n X dL_law_533 rfl rfl rfl ?_
      refine w_aload_n X dL_law_534 rfl rfl rfl ?_
      refine w_iload X dL_law_535 rfl rfl ?_
      refine w_iconst X dL_law_537 rfl ci_1 ?_
      refine w_iadd X dL_law_538 rfl ?_
      obtain ⟨yhg59, hf⟩ := wok_g hf
      refine w_sld X dL_law_539 rfl hsc (j := (v4 + 1).toNatClampNeg) rfl yhg59 ?_
      refine w_aload_n X dL_law_540 rfl rfl rfl ?_
      refine w_iload X dL_law_541 rfl rfl ?_
      refine w_iconst X dL_law_543 rfl ci_2 ?_
      refine w_iadd X dL_law_544 rfl ?_
      obtain ⟨yhg60, hf⟩ := wok_g hf
      refine w_sld X dL_law_545 rfl hsc (j := (v4 + 2).toNatClampNeg) rfl yhg60 ?_
      obtain ⟨yr61, eyr61, hf⟩ := wok_b hf
      refine w_callV X dL_law_546 rfl vl_L_53 (kX10_read l  eyr61) S0_0 (As := [.int (xs (v4 + 1).toNatClampNeg), .int (xs (v4 + 2).toNatClampNeg)]) (st := []) rfl rfl (Nat.le_of_ble_eq_true rfl) ⟨by omega, by omega⟩ ⟨by omega, by omega⟩ (fun r h2 hF => ?_)
      obtain ⟨_, rfl, rfl, rfl⟩ := hF
      show wM p l e R s m args below meth c ck cn Q 7 D dA b0 ad S0 549 [some (.ref 99999), some (.ref 0), some (.ref 188), some (.ref 233), some (.int v4), none, none] [.int yr61.1] yr61.2
      refine w_aload_n X dL_law_549 rfl rfl rfl ?_
      refine w_aload_n X dL_law_550 rfl rfl rfl ?_
      refine w_iload X dL_law_551 rfl rfl ?_
      refine w_iconst X dL_law_553 rfl ci_1 ?_
      refine w_iadd X dL_law_554 rfl ?_
      refine w_sld X dL_law_555 rfl hsc (j := (v4 + 1).toNatClampNeg) rfl yhg59 ?_
      refine w_aload_n X dL_law_556 rfl rfl rfl ?_
      refine w_iload X dL_law_557 rfl rfl ?_
      refine w_iconst X dL_law_559 rfl ci_2 ?_
      refine w_iadd X dL_law_560 rfl ?_
      refine w_sld X dL_law_561 rfl hsc (j := (v4 + 2).toNatClampNeg) rfl yhg60 ?_
      obtain ⟨yr62, eyr62, hf⟩ := wok_b hf
      refine w_callV X dL_law_562 rfl vl_L_56 (kX11_read l  eyr62) S0_188 (As := [.int (xs (v4 + 1).toNatClampNeg), .int (xs (v4 + 2).toNatClampNeg)]) (st := [.int yr61.1]) rfl rfl (Nat.le_of_ble_eq_true rfl) ⟨by omega, by omega⟩ ⟨by omega, by omega⟩ (fun r h2 hF => ?_)
      obtain ⟨_, rfl, rfl, rfl⟩ := hF
      show wM p l e R s m args below meth c ck cn Q 7 D dA b0 ad S0 565 [some (.ref 99999), some (.ref 0), some (.ref 188), some (.ref 233), some (.int v4), none, none] [.int yr62.1, .int yr61.1] yr62.2
      refine w_icmp_eq X dL_law_565 rfl (t := 1477) rfl (fun hc => ?_) (fun hc => ?_)
      · have hf := wok_t hf hc
        exact pL_law_b1477_23 X hr hsc hR hN hX0 hf
      · have hf := wok_f hf hc
        refine w_iconst X dL_law_568 rfl ci_0 ?_
        exact wok_n hf
    have hf := wok_f hf yhs58
    by_cases yhs63 : ((xs v4.toNatClampNeg) &&& 63) = 8
    · have hf := wok_t hf yhs63
      refine w_swIn X dL_law_40 (t := 570) (off := 530) rfl (by rw [yhs63]; decide) (by rw [yhs63]; decide) (by rw [yhs63]; rfl) ?_
      refine w_aload_n X dL_law_570 rfl rfl rfl ?_
      refine w_aload_n X dL_law_571 rfl rfl rfl ?_
      refine w_iload X dL_law_572 rfl rfl ?_
      refine w_iconst X dL_law_574 rfl ci_1 ?_
      refine w_iadd X dL_law_575 rfl ?_
      obtain ⟨yhg64, hf⟩ := wok_g hf
      refine w_sld X dL_law_576 rfl hsc (j := (v4 + 1).toNatClampNeg) rfl yhg64 ?_
      refine w_aload_n X dL_law_577 rfl rfl rfl ?_
      refine w_iload X dL_law_578 rfl rfl ?_
      refine w_iconst X dL_law_580 rfl ci_2 ?_
      refine w_iadd X dL_law_581 rfl ?_
      obtain ⟨yhg65, hf⟩ := wok_g hf
      refine w_sld X dL_law_582 rfl hsc (j := (v4 + 2).toNatClampNeg) rfl yhg65 ?_
      refine w_aload_n X dL_law_583 rfl rfl rfl ?_
      refine w_iload X dL_law_584 rfl rfl ?_
      refine w_iconst X dL_law_586 rfl ci_3 ?_
      refine w_iadd X dL_law_587 rfl ?_
      obtain ⟨yhg66, hf⟩ := wok_g hf
      refine w_sld X dL_law_588 rfl hsc (j := (v4 + 3).toNatClampNeg) rfl yhg66 ?_
      obtain ⟨yr67, eyr67, hf⟩ := wok_b hf
      refine w_callV X dL_law_589 rfl vl_L_57 (kX10_write l  eyr67) S0_0 (As := [.int (xs (v4 + 1).toNatClampNeg), .int (xs (v4 + 2).toNatClampNeg), .int (xs (v4 + 3).toNatClampNeg)]) (st := []) rfl rfl (Nat.le_of_ble_eq_true rfl) ⟨by omega, by omega⟩ ⟨by omega, by omega⟩ (fun r h2 hF => ?_)
      obtain ⟨_, rfl, rfl, rfl⟩ := hF
      show wM p l e R s m args below meth c ck cn Q 7 D dA b0 ad S0 592 [some (.ref 99999), some (.ref 0), some (.ref 188), some (.ref 233), some (.int v4), none, none] [.int (wb yr67.1)] yr67.2
      refine w_aload_n X dL_law_592 rfl rfl rfl ?_
      refine w_aload_n X dL_law_593 rfl rfl rfl ?_
      refine w_iload X dL_law_594 rfl rfl ?_
      refine w_iconst X dL_law_596 rfl ci_1 ?_
      refine w_iadd X dL_law_597 rfl ?_
      refine w_sld X dL_law_598 rfl hsc (j := (v4 + 1).toNatClampNeg) rfl yhg64 ?_
      refine w_aload_n X dL_law_599 rfl rfl rfl ?_
      refine w_iload X dL_law_600 rfl rfl ?_
      refine w_iconst X dL_law_602 rfl ci_2 ?_
      refine w_iadd X dL_law_603 rfl ?_
      refine w_sld X dL_law_604 rfl hsc (j := (v4 + 2).toNatClampNeg) rfl yhg65 ?_
      refine w_aload_n X dL_law_605 rfl rfl rfl ?_
      refine w_iload X dL_law_606 rfl rfl ?_
      refine w_iconst X dL_law_608 rfl ci_3 ?_
      refine w_iadd X dL_law_609 rfl ?_
      refine w_sld X dL_law_610 rfl hsc (j := (v4 + 3).toNatClampNeg) rfl yhg66 ?_
      obtain ⟨yr68, eyr68, hf⟩ := wok_b hf
      refine w_callV X dL_law_611 rfl vl_L_61 (kX11_write l  eyr68) S0_188 (As := [.int (xs (v4 + 1).toNatClampNeg), .int (xs (v4 + 2).toNatClampNeg), .int (xs (v4 + 3).toNatClampNeg)]) (st := [.int (wb yr67.1)]) rfl rfl (Nat.le_of_ble_eq_true rfl) ⟨by omega, by omega⟩ ⟨by omega, by omega⟩ (fun r h2 hF => ?_)
      obtain ⟨_, rfl, rfl, rfl⟩ := hF
      show wM p l e R s m args below meth c ck cn Q 7 D dA b0 ad S0 614 [some (.ref 99999), some (.ref 0), some (.ref 188), some (.ref 233), some (.int v4), none, none] [.int (wb yr68.1), .int (wb yr67.1)] yr68.2
      refine w_icmp_eq X dL_law_614 rfl (t := 1477) rfl (fun hc => ?_) (fun hc => ?_)
      · have hf := wok_t hf hc
        exact pL_law_b1477_23 X hr hsc hR hN hX0 hf
      · have hf := wok_f hf hc
        refine w_iconst X dL_law_617 rfl ci_0 ?_
        exact wok_n hf
    have hf := wok_f hf yhs63
    by_cases yhs69 : ((xs v4.toNatClampNeg) &&& 63) = 9
    · have hf := wok_t hf yhs69
      refine w_swIn X dL_law_40 (t := 619) (off := 579) rfl (by rw [yhs69]; decide) (by rw [yhs69]; decide) (by rw [yhs69]; rfl) ?_
      refine w_aload_n X dL_law_619 rfl rfl rfl ?_
      refine w_aload_n X dL_law_620 rfl rfl rfl ?_
      refine w_iload X dL_law_621 rfl rfl ?_
      refine w_iconst X dL_law_623 rfl ci_1 ?_
      refine w_iadd X dL_law_624 rfl ?_
      obtain ⟨yhg70, hf⟩ := wok_g hf
      refine w_sld X dL_law_625 rfl hsc (j := (v4 + 1).toNatClampNeg) rfl yhg70 ?_
      obtain ⟨yr71, eyr71, hf⟩ := wok_b hf
      refine w_callV X dL_law_626 rfl vl_L_62 (kX10_scrape l  eyr71) S0_0 (As := [.int (xs (v4 + 1).toNatClampNeg)]) (st := []) rfl rfl (Nat.le_of_ble_eq_true rfl) ⟨by omega, by omega⟩ ⟨by omega, by omega⟩ (fun r h2 hF => ?_)
      obtain ⟨_, rfl, rfl, rfl⟩ := hF
      show wM p l e R s m args below meth c ck cn Q 7 D dA b0 ad S0 629 [some (.ref 99999), some (.ref 0), some (.ref 188), some (.ref 233), some (.int v4), none, none] [.int yr71.1] yr71.2
      refine w_aload_n X dL_law_629 rfl rfl rfl ?_
      refine w_aload_n X dL_law_630 rfl rfl rfl ?_
      refine w_iload X dL_law_631 rfl rfl ?_
      refine w_iconst X dL_law_633 rfl ci_1 ?_
      refine w_iadd X dL_law_634 rfl ?_
      refine w_sld X dL_law_635 rfl hsc (j := (v4 + 1).toNatClampNeg) rfl yhg70 ?_
      obtain ⟨yr72, eyr72, hf⟩ := wok_b hf
      refine w_callV X dL_law_636 rfl vl_L_66 (kX11_scrape l  eyr72) S0_188 (As := [.int (xs (v4 + 1).toNatClampNeg)]) (st := [.int yr71.1]) rfl rfl (Nat.le_of_ble_eq_true rfl) ⟨by omega, by omega⟩ ⟨by omega, by omega⟩ (fun r h2 hF => ?_)
      obtain ⟨_, rfl, rfl, rfl⟩ := hF
      show wM p l e R s m args below meth c ck cn Q 7 D dA b0 ad S0 639 [some (.ref 99999), some (.ref 0), some (.ref 188), some (.ref 233), some (.int v4), none, none] [.int yr72.1, .int yr71.1] yr72.2
      refine w_icmp_eq X dL_law_639 rfl (t := 1477) rfl (fun hc => ?_) (fun hc => ?_)
      · have hf := wok_t hf hc
        exact pL_law_b1477_23 X hr hsc hR hN hX0 hf
      · have hf := wok_f hf hc
        refine w_iconst X dL_law_642 rfl ci_0 ?_
        exact wok_n hf
    have hf := wok_f hf yhs69
    by_cases yhs73 : ((xs v4.toNatClampNeg) &&& 63) = 10
    · have hf := wok_t hf yhs73
      refine w_swIn X dL_law_40 (t := 644) (off := 604) rfl (by rw [yhs73]; decide) (by rw [yhs73]; decide) (by rw [yhs73]; rfl) ?_
      refine w_aload_n X dL_law_644 rfl rfl rfl ?_
      refine w_aload_n X dL_law_645 rfl rfl rfl ?_
      refine w_iload X dL_law_646 rfl rfl ?_
      refine w_iconst X dL_law_648 rfl ci_1 ?_
      refine w_iadd X dL_law_649 rfl ?_
      obtain ⟨yhg74, hf⟩ := wok_g hf
      refine w_sld X dL_law_650 rfl hsc (j := (v4 + 1).toNatClampNeg) rfl yhg74 ?_
      obtain ⟨yr75, eyr75, hf⟩ := wok_b hf
      refine w_callV X dL_law_651 rfl vl_L_67 (kX10_third l  eyr75) S0_0 (As := [.int (xs (v4 + 1).toNatClampNeg)]) (st := []) rfl rfl (Nat.le_of_ble_eq_true rfl) ⟨by omega, by omega⟩ ⟨by omega, by omega⟩ (fun r h2 hF => ?_)
      obtain ⟨_, rfl, rfl, rfl⟩ := hF
      show wM p l e R s m args below meth c ck cn Q 7 D dA b0 ad S0 654 [some (.ref 99999), some (.ref 0), some (.ref 188), some (.ref 233), some (.int v4), none, none] [.int yr75.1] yr75.2
      refine w_aload_n X dL_law_654 rfl rfl rfl ?_
      refine w_aload_n X dL_law_655 rfl rfl rfl ?_
      refine w_iload X dL_law_656 rfl rfl ?_
      refine w_iconst X dL_law_658 rfl ci_1 ?_
      refine w_iadd X dL_law_659 rfl ?_
      refine w_sld X dL_law_660 rfl hsc (j := (v4 + 1).toNatClampNeg) rfl yhg74 ?_
      obtain ⟨yr76, eyr76, hf⟩ := wok_b hf
      refine w_callV X dL_law_661 rfl vl_L_70 (kX11_third l  eyr76) S0_188 (As := [.int (xs (v4 + 1).toNatClampNeg)]) (st := [.int yr75.1]) rfl rfl (Nat.le_of_ble_eq_true rfl) ⟨by omega, by omega⟩ ⟨by omega, by omega⟩ (fun r h2 hF => ?_)
      obtain ⟨_, rfl, rfl, rfl⟩ := hF
      show wM p l e R s m args below meth c ck cn Q 7 D dA b0 ad S0 664 [some (.ref 99999), some (.ref 0), some (.ref 188), some (.ref 233), some (.int v4), none, none] [.int yr76.1, .int yr75.1] yr76.2
      refine w_icmp_eq X dL_law_664 rfl (t := 1477) rfl (fun hc => ?_) (fun hc => ?_)
      · have hf := wok_t hf hc
        exact pL_law_b1477_23 X hr hsc hR hN hX0 hf
      · have hf := wok_f hf hc
        refine w_iconst X dL_law_667 rfl ci_0 ?_
        exact wok_n hf
    have hf := wok_f hf yhs73
    by_cases yhs77 : ((xs v4.toNatClampNeg) &&& 63) = 11
    · have hf := wok_t hf yhs77
      refine w_swIn X dL_law_40 (t := 669) (off := 629) rfl (by rw [yhs77]; decide) (by rw [yhs77]; decide) (by rw [yhs77]; rfl) ?_
      refine w_aload_n X dL_law_669 rfl rfl rfl ?_
      obtain ⟨yr78, eyr78, hf⟩ := wok_b hf
      refine w_callV X dL_law_670 rfl vl_L_71 (kX10_week l  eyr78) S0_0 (As := []) (st := []) rfl rfl (Nat.le_of_ble_eq_true rfl) ⟨by omega, by omega⟩ ⟨by omega, by omega⟩ (fun r h2 hF => ?_)
      obtain ⟨_, rfl, rfl, rfl⟩ := hF
      show wM p l e R s m args below meth c ck cn Q 7 D dA b0 ad S0 673 [some (.ref 99999), some (.ref 0), some (.ref 188), some (.ref 233), some (.int v4), none, none] [.int yr78.1] yr78.2
      refine w_aload_n X dL_law_673 rfl rfl rfl ?_
      obtain ⟨yr79, eyr79, hf⟩ := wok_b hf
      refine w_callV X dL_law_674 rfl vl_L_74 (kX11_week l  eyr79) S0_188 (As := []) (st := [.int yr78.1]) rfl rfl (Nat.le_of_ble_eq_true rfl) ⟨by omega, by omega⟩ ⟨by omega, by omega⟩ (fun r h2 hF => ?_)
      obtain ⟨_, rfl, rfl, rfl⟩ := hF
      show wM p l e R s m args below meth c ck cn Q 7 D dA b0 ad S0 677 [some (.ref 99999), some (.ref 0), some (.ref 188), some (.ref 233), some (.int v4), none, none] [.int yr79.1, .int yr78.1] yr79.2
      refine w_icmp_eq X dL_law_677 rfl (t := 1477) rfl (fun hc => ?_) (fun hc => ?_)
      · have hf := wok_t hf hc
        exact pL_law_b1477_23 X hr hsc hR hN hX0 hf
      · have hf := wok_f hf hc
        refine w_iconst X dL_law_680 rfl ci_0 ?_
        exact wok_n hf
    have hf := wok_f hf yhs77
    by_cases yhs80 : ((xs v4.toNatClampNeg) &&& 63) = 12
    · have hf := wok_t hf yhs80
      refine w_swIn X dL_law_40 (t := 682) (off := 642) rfl (by rw [yhs80]; decide) (by rw [yhs80]; decide) (by rw [yhs80]; rfl) ?_
      refine w_aload_n X dL_law_682 rfl rfl rfl ?_
      obtain ⟨yr81, eyr81, hf⟩ := wok_b hf
      refine w_callV X dL_law_683 rfl vl_L_75 (kX10_undo l  eyr81) S0_0 (As := []) (st := []) rfl rfl (Nat.le_of_ble_eq_true rfl) ⟨by omega, by omega⟩ ⟨by omega, by omega⟩ (fun r h2 hF => ?_)
      obtain ⟨_, rfl, rfl, rfl⟩ := hF
      show wM p l e R s m args below meth c ck cn Q 7 D dA b0 ad S0 686 [some (.ref 99999), some (.ref 0), some (.ref 188), some (.ref 233), some (.int v4), none, none] [.int (wb yr81.1)] yr81.2
      refine w_aload_n X dL_law_686 rfl rfl rfl ?_
      obtain ⟨yr82, eyr82, hf⟩ := wok_b hf
      refine w_callV X dL_law_687 rfl vl_L_79 (kX11_undo l  eyr82) S0_188 (As := []) (st := [.int (wb yr81.1)]) rfl rfl (Nat.le_of_ble_eq_true rfl) ⟨by omega, by omega⟩ ⟨by omega, by omega⟩ (fun r h2 hF => ?_)
      obtain ⟨_, rfl, rfl, rfl⟩ := hF
      show wM p l e R s m args below meth c ck cn Q 7 D dA b0 ad S0 690 [some (.ref 99999), some (.ref 0), some (.ref 188), some (.ref 233), some (.int v4), none, none] [.int (wb yr82.1), .int (wb yr81.1)] yr82.2
      refine w_icmp_eq X dL_law_690 rfl (t := 1477) rfl (fun hc => ?_) (fun hc => ?_)
      · have hf := wok_t hf hc
        exact pL_law_b1477_23 X hr hsc hR hN hX0 hf
      · have hf := wok_f hf hc
        refine w_iconst X dL_law_693 rfl ci_0 ?_
        exact wok_n hf
    have hf := wok_f hf yhs80
    by_cases yhs83 : ((xs v4.toNatClampNeg) &&& 63) = 13
    · have hf := wok_t hf yhs83
      refine w_swIn X dL_law_40 (t := 695) (off := 655) rfl (by rw [yhs83]; decide) (by rw [yhs83]; decide) (by rw [yhs83]; rfl) ?_
      refine w_aload_n X dL_law_695 rfl rfl rfl ?_
      refine w_aload_n X dL_law_696 rfl rfl rfl ?_
      refine w_iload X dL_law_697 rfl rfl ?_
      refine w_iconst X dL_law_699 rfl ci_1 ?_
      refine w_iadd X dL_law_700 rfl ?_
      obtain ⟨yhg84, hf⟩ := wok_g hf
      refine w_sld X dL_law_701 rfl hsc (j := (v4 + 1).toNatClampNeg) rfl yhg84 ?_
      obtain ⟨yr85, eyr85, hf⟩ := wok_b hf
      refine w_callV X dL_law_702 rfl vl_L_80 (kX10_judged l  eyr85) S0_0 (As := [.int (xs (v4 + 1).toNatClampNeg)]) (st := []) rfl rfl (Nat.le_of_ble_eq_true rfl) ⟨by omega, by omega⟩ ⟨by omega, by omega⟩ (fun r h2 hF => ?_)
      obtain ⟨_, rfl, rfl, rfl⟩ := hF
      show wM p l e R s m args below meth c ck cn Q 7 D dA b0 ad S0 705 [some (.ref 99999), some (.ref 0), some (.ref 188), some (.ref 233), some (.int v4), none, none] [.int yr85.1] yr85.2
      refine w_aload_n X dL_law_705 rfl rfl rfl ?_
      refine w_aload_n X dL_law_706 rfl rfl rfl ?_
      refine w_iload X dL_law_707 rfl rfl ?_
      refine w_iconst X dL_law_709 rfl ci_1 ?_
      refine w_iadd X dL_law_710 rfl ?_
      refine w_sld X dL_law_711 rfl hsc (j := (v4 + 1).toNatClampNeg) rfl yhg84 ?_
      obtain ⟨yr86, eyr86, hf⟩ := wok_b hf
      refine w_callV X dL_law_712 rfl vl_L_83 (kX11_judged l  eyr86) S0_188 (As := [.int (xs (v4 + 1).toNatClampNeg)]) (st := [.int yr85.1]) rfl rfl (Nat.le_of_ble_eq_true rfl) ⟨by omega, by omega⟩ ⟨by omega, by omega⟩ (fun r h2 hF => ?_)
      obtain ⟨_, rfl, rfl, rfl⟩ := hF
      show wM p l e R s m args below meth c ck cn Q 7 D dA b0 ad S0 715 [some (.ref 99999), some (.ref 0), some (.ref 188), some (.ref 233), some (.int v4), none, none] [.int yr86.1, .int yr85.1] yr86.2
      refine w_icmp_eq X dL_law_715 rfl (t := 1477) rfl (fun hc => ?_) (fun hc => ?_)
      · have hf := wok_t hf hc
        exact pL_law_b1477_23 X hr hsc hR hN hX0 hf
      · have hf := wok_f hf hc
        refine w_iconst X dL_law_718 rfl ci_0 ?_
        exact wok_n hf
    have hf := wok_f hf yhs83
    by_cases yhs87 : ((xs v4.toNatClampNeg) &&& 63) = 14
    · have hf := wok_t hf yhs87
      refine w_swIn X dL_law_40 (t := 720) (off := 680) rfl (by rw [yhs87]; decide) (by rw [yhs87]; decide) (by rw [yhs87]; rfl) ?_
      refine w_aload_n X dL_law_720 rfl rfl rfl ?_
      refine w_aload_n X dL_law_721 rfl rfl rfl ?_
      refine w_iload X dL_law_722 rfl rfl ?_
      refine w_iconst X dL_law_724 rfl ci_1 ?_
      refine w_iadd X dL_law_725 rfl ?_
      obtain ⟨yhg88, hf⟩ := wok_g hf
      refine w_sld X dL_law_726 rfl hsc (j := (v4 + 1).toNatClampNeg) rfl yhg88 ?_
      refine w_aload_n X dL_law_727 rfl rfl rfl ?_
      refine w_iload X dL_law_728 rfl rfl ?_
      refine w_iconst X dL_law_730 rfl ci_2 ?_
      refine w_iadd X dL_law_731 rfl ?_
      obtain ⟨yhg89, hf⟩ := wok_g hf
      refine w_sld X dL_law_732 rfl hsc (j := (v4 + 2).toNatClampNeg) rfl yhg89 ?_
      refine w_aload_n X dL_law_733 rfl rfl rfl ?_
      refine w_iload X dL_law_734 rfl rfl ?_
      refine w_iconst X dL_law_736 rfl ci_3 ?_
      refine w_iadd X dL_law_737 rfl ?_
      obtain ⟨yhg90, hf⟩ := wok_g hf
      refine w_sld X dL_law_738 rfl hsc (j := (v4 + 3).toNatClampNeg) rfl yhg90 ?_
      obtain ⟨yr91, eyr91, hf⟩ := wok_b hf
      refine w_callV X dL_law_739 rfl vl_L_84 (kX10_later l  eyr91) S0_0 (As := [.int (xs (v4 + 1).toNatClampNeg), .int (xs (v4 + 2).toNatClampNeg), .int (xs (v4 + 3).toNatClampNeg)]) (st := []) rfl rfl (Nat.le_of_ble_eq_true rfl) ⟨by omega, by omega⟩ ⟨by omega, by omega⟩ (fun r h2 hF => ?_)
      obtain ⟨_, rfl, rfl, rfl⟩ := hF
      show wM p l e R s m args below meth c ck cn Q 7 D dA b0 ad S0 742 [some (.ref 99999), some (.ref 0), some (.ref 188), some (.ref 233), some (.int v4), none, none] [.int yr91.1] yr91.2
      refine w_aload_n X dL_law_742 rfl rfl rfl ?_
      refine w_aload_n X dL_law_743 rfl rfl rfl ?_
      refine w_iload X dL_law_744 rfl rfl ?_
      refine w_iconst X dL_law_746 rfl ci_1 ?_
      refine w_iadd X dL_law_747 rfl ?_
      refine w_sld X dL_law_748 rfl hsc (j := (v4 + 1).toNatClampNeg) rfl yhg88 ?_
      refine w_aload_n X dL_law_749 rfl rfl rfl ?_
      refine w_iload X dL_law_750 rfl rfl ?_
      refine w_iconst X dL_law_752 rfl ci_2 ?_
      refine w_iadd X dL_law_753 rfl ?_
      refine w_sld X dL_law_754 rfl hsc (j := (v4 + 2).toNatClampNeg) rfl yhg89 ?_
      refine w_aload_n X dL_law_755 rfl rfl rfl ?_
      refine w_iload X dL_law_756 rfl rfl ?_
      refine w_iconst X dL_law_758 rfl ci_3 ?_
      refine w_iadd X dL_law_759 rfl ?_
      refine w_sld X dL_law_760 rfl hsc (j := (v4 + 3).toNatClampNeg) rfl yhg90 ?_
      obtain ⟨yr92, eyr92, hf⟩ := wok_b hf
      refine w_callV X dL_law_761 rfl vl_L_87 (kX11_later l  eyr92) S0_188 (As := [.int (xs (v4 + 1).toNatClampNeg), .int (xs (v4 + 2).toNatClampNeg), .int (xs (v4 + 3).toNatClampNeg)]) (st := [.int yr91.1]) rfl rfl (Nat.le_of_ble_eq_true rfl) ⟨by omega, by omega⟩ ⟨by omega, by omega⟩ (fun r h2 hF => ?_)
      obtain ⟨_, rfl, rfl, rfl⟩ := hF
      show wM p l e R s m args below meth c ck cn Q 7 D dA b0 ad S0 764 [some (.ref 99999), some (.ref 0), some (.ref 188), some (.ref 233), some (.int v4), none, none] [.int yr92.1, .int yr91.1] yr92.2
      refine w_icmp_eq X dL_law_764 rfl (t := 1477) rfl (fun hc => ?_) (fun hc => ?_)
      · have hf := wok_t hf hc
        exact pL_law_b1477_23 X hr hsc hR hN hX0 hf
      · have hf := wok_f hf hc
        refine w_iconst X dL_law_767 rfl ci_0 ?_
        exact wok_n hf
    have hf := wok_f hf yhs87
    by_cases yhs93 : ((xs v4.toNatClampNeg) &&& 63) = 15
    · have hf := wok_t hf yhs93
      refine w_swIn X dL_law_40 (t := 769) (off := 729) rfl (by rw [yhs93]; decide) (by rw [yhs93]; decide) (by rw [yhs93]; rfl) ?_
      refine w_aload_n X dL_law_769 rfl rfl rfl ?_
      refine w_aload_n X dL_law_770 rfl rfl rfl ?_
      refine w_iload X dL_law_771 rfl rfl ?_
      refine w_iconst X dL_law_773 rfl ci_1 ?_
      refine w_iadd X dL_law_774 rfl ?_
      obtain ⟨yhg94, hf⟩ := wok_g hf
      refine w_sld X dL_law_775 rfl hsc (j := (v4 + 1).toNatClampNeg) rfl yhg94 ?_
      obtain ⟨yr95, eyr95, hf⟩ := wok_b hf
      refine w_callV X dL_law_776 rfl vl_L_88 (kX10_when l  eyr95) S0_0 (As := [.int (xs (v4 + 1).toNatClampNeg)]) (st := []) rfl rfl (Nat.le_of_ble_eq_true rfl) ⟨by omega, by omega⟩ ⟨by omega, by omega⟩ (fun r h2 hF => ?_)
      obtain ⟨_, rfl, rfl, rfl⟩ := hF
      show wM p l e R s m args below meth c ck cn Q 7 D dA b0 ad S0 779 [some (.ref 99999), some (.ref 0), some (.ref 188), some (.ref 233), some (.int v4), none, none] [.int yr95.1] yr95.2
      refine w_aload_n X dL_law_779 rfl rfl rfl ?_
      refine w_aload_n X dL_law_780 rfl rfl rfl ?_
      refine w_iload X dL_law_781 rfl rfl ?_
      refine w_iconst X dL_law_783 rfl ci_1 ?_
      refine w_iadd X dL_law_784 rfl ?_
      refine w_sld X dL_law_785 rfl hsc (j := (v4 + 1).toNatClampNeg) rfl yhg94 ?_
      obtain ⟨yr96, eyr96, hf⟩ := wok_b hf
      refine w_callV X dL_law_786 rfl vl_L_91 (kX11_when l  eyr96) S0_188 (As := [.int (xs (v4 + 1).toNatClampNeg)]) (st := [.int yr95.1]) rfl rfl (Nat.le_of_ble_eq_true rfl) ⟨by omega, by omega⟩ ⟨by omega, by omega⟩ (fun r h2 hF => ?_)
      obtain ⟨_, rfl, rfl, rfl⟩ := hF
      show wM p l e R s m args below meth c ck cn Q 7 D dA b0 ad S0 789 [some (.ref 99999), some (.ref 0), some (.ref 188), some (.ref 233), some (.int v4), none, none] [.int yr96.1, .int yr95.1] yr96.2
      refine w_icmp_eq X dL_law_789 rfl (t := 1477) rfl (fun hc => ?_) (fun hc => ?_)
      · have hf := wok_t hf hc
        exact pL_law_b1477_23 X hr hsc hR hN hX0 hf
      · have hf := wok_f hf hc
        refine w_iconst X dL_law_792 rfl ci_0 ?_
        exact wok_n hf
    have hf := wok_f hf yhs93
    by_cases yhs97 : ((xs v4.toNatClampNeg) &&& 63) = 16
    · have hf := wok_t hf yhs97
      refine w_swIn X dL_law_40 (t := 794) (off := 754) rfl (by rw [yhs97]; decide) (by rw [yhs97]; decide) (by rw [yhs97]; rfl) ?_
      refine w_aload_n X dL_law_794 rfl rfl rfl ?_
      refine w_aload_n X dL_law_795 rfl rfl rfl ?_
      refine w_iload X dL_law_796 rfl rfl ?_
      refine w_iconst X dL_law_798 rfl ci_1 ?_
      refine w_iadd X dL_law_799 rfl ?_
      obtain ⟨yhg98, hf⟩ := wok_g hf
      refine w_sld X dL_law_800 rfl hsc (j := (v4 + 1).toNatClampNeg) rfl yhg98 ?_
      obtain ⟨yr99, eyr99, hf⟩ := wok_b hf
      refine w_callV X dL_law_801 rfl vl_L_92 (kX10_need l  eyr99) S0_0 (As := [.int (xs (v4 + 1).toNatClampNeg)]) (st := []) rfl rfl (Nat.le_of_ble_eq_true rfl) ⟨by omega, by omega⟩ ⟨by omega, by omega⟩ (fun r h2 hF => ?_)
      obtain ⟨_, rfl, rfl, rfl⟩ := hF
      show wM p l e R s m args below meth c ck cn Q 7 D dA b0 ad S0 804 [some (.ref 99999), some (.ref 0), some (.ref 188), some (.ref 233), some (.int v4), none, none] [.int yr99.1] yr99.2
      refine w_aload_n X dL_law_804 rfl rfl rfl ?_
      refine w_aload_n X dL_law_805 rfl rfl rfl ?_
      refine w_iload X dL_law_806 rfl rfl ?_
      refine w_iconst X dL_law_808 rfl ci_1 ?_
      refine w_iadd X dL_law_809 rfl ?_
      refine w_sld X dL_law_810 rfl hsc (j := (v4 + 1).toNatClampNeg) rfl yhg98 ?_
      obtain ⟨yr100, eyr100, hf⟩ := wok_b hf
      refine w_callV X dL_law_811 rfl vl_L_95 (kX11_need l  eyr100) S0_188 (As := [.int (xs (v4 + 1).toNatClampNeg)]) (st := [.int yr99.1]) rfl rfl (Nat.le_of_ble_eq_true rfl) ⟨by omega, by omega⟩ ⟨by omega, by omega⟩ (fun r h2 hF => ?_)
      obtain ⟨_, rfl, rfl, rfl⟩ := hF
      show wM p l e R s m args below meth c ck cn Q 7 D dA b0 ad S0 814 [some (.ref 99999), some (.ref 0), some (.ref 188), some (.ref 233), some (.int v4), none, none] [.int yr100.1, .int yr99.1] yr100.2
      refine w_icmp_eq X dL_law_814 rfl (t := 1477) rfl (fun hc => ?_) (fun hc => ?_)
      · have hf := wok_t hf hc
        exact pL_law_b1477_23 X hr hsc hR hN hX0 hf
      · have hf := wok_f hf hc
        refine w_iconst X dL_law_817 rfl ci_0 ?_
        exact wok_n hf
    have hf := wok_f hf yhs97
    by_cases yhs101 : ((xs v4.toNatClampNeg) &&& 63) = 17
    · have hf := wok_t hf yhs101
      refine w_swIn X dL_law_40 (t := 819) (off := 779) rfl (by rw [yhs101]; decide) (by rw [yhs101]; decide) (by rw [yhs101]; rfl) ?_
      refine w_aload_n X dL_law_819 rfl rfl rfl ?_
      obtain ⟨yr102, eyr102, hf⟩ := wok_b hf
      refine w_callV X dL_law_820 rfl vl_L_96 (kX10_lost l  eyr102) S0_0 (As := []) (st := []) rfl rfl (Nat.le_of_ble_eq_true rfl) ⟨by omega, by omega⟩ ⟨by omega, by omega⟩ (fun r h2 hF => ?_)
      obtain ⟨_, rfl, rfl, rfl⟩ := hF
      show wM p l e R s m args below meth c ck cn Q 7 D dA b0 ad S0 823 [some (.ref 99999), some (.ref 0), some (.ref 188), some (.ref 233), some (.int v4), none, none] [.int yr102.1] yr102.2
      refine w_aload_n X dL_law_823 rfl rfl rfl ?_
      obtain ⟨yr103, eyr103, hf⟩ := wok_b hf
      refine w_callV X dL_law_824 rfl vl_L_99 (kX11_lost l  eyr103) S0_188 (As := []) (st := [.int yr102.1]) rfl rfl (Nat.le_of_ble_eq_true rfl) ⟨by omega, by omega⟩ ⟨by omega, by omega⟩ (fun r h2 hF => ?_)
      obtain ⟨_, rfl, rfl, rfl⟩ := hF
      show wM p l e R s m args below meth c ck cn Q 7 D dA b0 ad S0 827 [some (.ref 99999), some (.ref 0), some (.ref 188), some (.ref 233), some (.int v4), none, none] [.int yr103.1, .int yr102.1] yr103.2
      refine w_icmp_eq X dL_law_827 rfl (t := 1477) rfl (fun hc => ?_) (fun hc => ?_)
      · have hf := wok_t hf hc
        exact pL_law_b1477_23 X hr hsc hR hN hX0 hf
      · have hf := wok_f hf hc
        refine w_iconst X dL_law_830 rfl ci_0 ?_
        exact wok_n hf
    have hf := wok_f hf yhs101
    by_cases yhs104 : ((xs v4.toNatClampNeg) &&& 63) = 18
    · have hf := wok_t hf yhs104
      refine w_swIn X dL_law_40 (t := 832) (off := 792) rfl (by rw [yhs104]; decide) (by rw [yhs104]; decide) (by rw [yhs104]; rfl) ?_
      refine w_aload_n X dL_law_832 rfl rfl rfl ?_
      refine w_aload_n X dL_law_833 rfl rfl rfl ?_
      refine w_iload X dL_law_834 rfl rfl ?_
      refine w_iconst X dL_law_836 rfl ci_1 ?_
      refine w_iadd X dL_law_837 rfl ?_
      obtain ⟨yhg105, hf⟩ := wok_g hf
      refine w_sld X dL_law_838 rfl hsc (j := (v4 + 1).toNatClampNeg) rfl yhg105 ?_
      refine w_aload_n X dL_law_839 rfl rfl rfl ?_
      refine w_iload X dL_law_840 rfl rfl ?_
      refine w_iconst X dL_law_842 rfl ci_2 ?_
      refine w_iadd X dL_law_843 rfl ?_
      obtain ⟨yhg106, hf⟩ := wok_g hf
      refine w_sld X dL_law_844 rfl hsc (j := (v4 + 2).toNatClampNeg) rfl yhg106 ?_
      obtain ⟨yr107, eyr107, hf⟩ := wok_b hf
      refine w_callV X dL_law_845 rfl vl_L_100 (kX10_place l  eyr107) S0_0 (As := [.int (xs (v4 + 1).toNatClampNeg), .int (xs (v4 + 2).toNatClampNeg)]) (st := []) rfl rfl (Nat.le_of_ble_eq_true rfl) ⟨by omega, by omega⟩ ⟨by omega, by omega⟩ (fun r h2 hF => ?_)
      obtain ⟨_, rfl, rfl, rfl⟩ := hF
      show wM p l e R s m args below meth c ck cn Q 7 D dA b0 ad S0 848 [some (.ref 99999), some (.ref 0), some (.ref 188), some (.ref 233), some (.int v4), none, none] [.int yr107] h
      refine w_aload_n X dL_law_848 rfl rfl rfl ?_
      refine w_aload_n X dL_law_849 rfl rfl rfl ?_
      refine w_iload X dL_law_850 rfl rfl ?_
      refine w_iconst X dL_law_852 rfl ci_1 ?_
      refine w_iadd X dL_law_853 rfl ?_
      refine w_sld X dL_law_854 rfl hsc (j := (v4 + 1).toNatClampNeg) rfl yhg105 ?_
      refine w_aload_n X dL_law_855 rfl rfl rfl ?_
      refine w_iload X dL_law_856 rfl rfl ?_
      refine w_iconst X dL_law_858 rfl ci_2 ?_
      refine w_iadd X dL_law_859 rfl ?_
      refine w_sld X dL_law_860 rfl hsc (j := (v4 + 2).toNatClampNeg) rfl yhg106 ?_
      obtain ⟨yr108, eyr108, hf⟩ := wok_b hf
      refine w_callV X dL_law_861 rfl vl_L_103 (kX11_place l  eyr108) S0_188 (As := [.int (xs (v4 + 1).toNatClampNeg), .int (xs (v4 + 2).toNatClampNeg)]) (st := [.int yr107]) rfl rfl (Nat.le_of_ble_eq_true rfl) ⟨by omega, by omega⟩ ⟨by omega, by omega⟩ (fun r h2 hF => ?_)
      obtain ⟨_, rfl, rfl, rfl⟩ := hF
      show wM p l e R s m args below meth c ck cn Q 7 D dA b0 ad S0 864 [some (.ref 99999), some (.ref 0), some (.ref 188), some (.ref 233), some (.int v4), none, none] [.int yr108.1, .int yr107] yr108.2
      refine w_icmp_eq X dL_law_864 rfl (t := 1477) rfl (fun hc => ?_) (fun hc => ?_)
      · have hf := wok_t hf hc
        exact pL_law_b1477_23 X hr hsc hR hN hX0 hf
      · have hf := wok_f hf hc
        refine w_iconst X dL_law_867 rfl ci_0 ?_
        exact wok_n hf
    have hf := wok_f hf yhs104
    by_cases yhs109 : ((xs v4.toNatClampNeg) &&& 63) = 19
    · have hf := wok_t hf yhs109
      refine w_swIn X dL_law_40 (t := 869) (off := 829) rfl (by rw [yhs109]; decide) (by rw [yhs109]; decide) (by rw [yhs109]; rfl) ?_
      refine w_aload_n X dL_law_869 rfl rfl rfl ?_
      refine w_aload_n X dL_law_870 rfl rfl rfl ?_
      refine w_iload X dL_law_871 rfl rfl ?_
      refine w_iconst X dL_law_873 rfl ci_1 ?_
      refine w_iadd X dL_law_874 rfl ?_
      obtain ⟨yhg110, hf⟩ := wok_g hf
      refine w_sld X dL_law_875 rfl hsc (j := (v4 + 1).toNatClampNeg) rfl yhg110 ?_
      refine w_aload_n X dL_law_876 rfl rfl rfl ?_
      refine w_iload X dL_law_877 rfl rfl ?_
      refine w_iconst X dL_law_879 rfl ci_2 ?_
      refine w_iadd X dL_law_880 rfl ?_
      obtain ⟨yhg111, hf⟩ := wok_g hf
      refine w_sld X dL_law_881 rfl hsc (j := (v4 + 2).toNatClampNeg) rfl yhg111 ?_
      obtain ⟨yr112, eyr112, hf⟩ := wok_b hf
      refine w_callV X dL_law_882 rfl vl_L_104 (kX10_cost l  eyr112) S0_0 (As := [.int (xs (v4 + 1).toNatClampNeg), .int (xs (v4 + 2).toNatClampNeg)]) (st := []) rfl rfl (Nat.le_of_ble_eq_true rfl) ⟨by omega, by omega⟩ ⟨by omega, by omega⟩ (fun r h2 hF => ?_)
      obtain ⟨_, rfl, rfl, rfl⟩ := hF
      show wM p l e R s m args below meth c ck cn Q 7 D dA b0 ad S0 885 [some (.ref 99999), some (.ref 0), some (.ref 188), some (.ref 233), some (.int v4), none, none] [.int yr112.1] yr112.2
      refine w_aload_n X dL_law_885 rfl rfl rfl ?_
      refine w_aload_n X dL_law_886 rfl rfl rfl ?_
      refine w_iload X dL_law_887 rfl rfl ?_
      refine w_iconst X dL_law_889 rfl ci_1 ?_
      refine w_iadd X dL_law_890 rfl ?_
      refine w_sld X dL_law_891 rfl hsc (j := (v4 + 1).toNatClampNeg) rfl yhg110 ?_
      refine w_aload_n X dL_law_892 rfl rfl rfl ?_
      refine w_iload X dL_law_893 rfl rfl ?_
      refine w_iconst X dL_law_895 rfl ci_2 ?_
      refine w_iadd X dL_law_896 rfl ?_
      refine w_sld X dL_law_897 rfl hsc (j := (v4 + 2).toNatClampNeg) rfl yhg111 ?_
      obtain ⟨yr113, eyr113, hf⟩ := wok_b hf
      refine w_callV X dL_law_898 rfl vl_L_107 (kX11_cost l  eyr113) S0_188 (As := [.int (xs (v4 + 1).toNatClampNeg), .int (xs (v4 + 2).toNatClampNeg)]) (st := [.int yr112.1]) rfl rfl (Nat.le_of_ble_eq_true rfl) ⟨by omega, by omega⟩ ⟨by omega, by omega⟩ (fun r h2 hF => ?_)
      obtain ⟨_, rfl, rfl, rfl⟩ := hF
      show wM p l e R s m args below meth c ck cn Q 7 D dA b0 ad S0 901 [some (.ref 99999), some (.ref 0), some (.ref 188), some (.ref 233), some (.int v4), none, none] [.int yr113.1, .int yr112.1] yr113.2
      refine w_icmp_eq X dL_law_901 rfl (t := 1477) rfl (fun hc => ?_) (fun hc => ?_)
      · have hf := wok_t hf hc
        exact pL_law_b1477_23 X hr hsc hR hN hX0 hf
      · have hf := wok_f hf hc
        refine w_iconst X dL_law_904 rfl ci_0 ?_
        exact wok_n hf
    have hf := wok_f hf yhs109
    by_cases yhs114 : ((xs v4.toNatClampNeg) &&& 63) = 20
    · have hf := wok_t hf yhs114
      refine w_swIn X dL_law_40 (t := 906) (off := 866) rfl (by rw [yhs114]; decide) (by rw [yhs114]; decide) (by rw [yhs114]; rfl) ?_
      refine w_aload_n X dL_law_906 rfl rfl rfl ?_
      refine w_aload_n X dL_law_907 rfl rfl rfl ?_
      refine w_iload X dL_law_908 rfl rfl ?_
      refine w_iconst X dL_law_910 rfl ci_1 ?_
      refine w_iadd X dL_law_911 rfl ?_
      obtain ⟨yhg115, hf⟩ := wok_g hf
      refine w_sld X dL_law_912 rfl hsc (j := (v4 + 1).toNatClampNeg) rfl yhg115 ?_
      obtain ⟨yr116, eyr116, hf⟩ := wok_b hf
      refine w_callV X dL_law_913 rfl vl_L_108 (kX10_lay l  eyr116) S0_0 (As := [.int (xs (v4 + 1).toNatClampNeg)]) (st := []) rfl rfl (Nat.le_of_ble_eq_true rfl) ⟨by omega, by omega⟩ ⟨by omega, by omega⟩ (fun r h2 hF => ?_)
      obtain ⟨_, rfl, rfl, rfl⟩ := hF
      show wM p l e R s m args below meth c ck cn Q 7 D dA b0 ad S0 916 [some (.ref 99999), some (.ref 0), some (.ref 188), some (.ref 233), some (.int v4), none, none] [.int yr116.1] yr116.2
      refine w_aload_n X dL_law_916 rfl rfl rfl ?_
      refine w_aload_n X dL_law_917 rfl rfl rfl ?_
      refine w_iload X dL_law_918 rfl rfl ?_
      refine w_iconst X dL_law_920 rfl ci_1 ?_
      refine w_iadd X dL_law_921 rfl ?_
      refine w_sld X dL_law_922 rfl hsc (j := (v4 + 1).toNatClampNeg) rfl yhg115 ?_
      obtain ⟨yr117, eyr117, hf⟩ := wok_b hf
      refine w_callV X dL_law_923 rfl vl_L_111 (kX11_lay l  eyr117) S0_188 (As := [.int (xs (v4 + 1).toNatClampNeg)]) (st := [.int yr116.1]) rfl rfl (Nat.le_of_ble_eq_true rfl) ⟨by omega, by omega⟩ ⟨by omega, by omega⟩ (fun r h2 hF => ?_)
      obtain ⟨_, rfl, rfl, rfl⟩ := hF
      show wM p l e R s m args below meth c ck cn Q 7 D dA b0 ad S0 926 [some (.ref 99999), some (.ref 0), some (.ref 188), some (.ref 233), some (.int v4), none, none] [.int yr117.1, .int yr116.1] yr117.2
      refine w_icmp_eq X dL_law_926 rfl (t := 1477) rfl (fun hc => ?_) (fun hc => ?_)
      · have hf := wok_t hf hc
        exact pL_law_b1477_23 X hr hsc hR hN hX0 hf
      · have hf := wok_f hf hc
        refine w_iconst X dL_law_929 rfl ci_0 ?_
        exact wok_n hf
    have hf := wok_f hf yhs114
    by_cases yhs118 : ((xs v4.toNatClampNeg) &&& 63) = 21
    · have hf := wok_t hf yhs118
      refine w_swIn X dL_law_40 (t := 931) (off := 891) rfl (by rw [yhs118]; decide) (by rw [yhs118]; decide) (by rw [yhs118]; rfl) ?_
      refine w_aload_n X dL_law_931 rfl rfl rfl ?_
      refine w_aload_n X dL_law_932 rfl rfl rfl ?_
      refine w_iload X dL_law_933 rfl rfl ?_
      refine w_iconst X dL_law_935 rfl ci_1 ?_
      refine w_iadd X dL_law_936 rfl ?_
      obtain ⟨yhg119, hf⟩ := wok_g hf
      refine w_sld X dL_law_937 rfl hsc (j := (v4 + 1).toNatClampNeg) rfl yhg119 ?_
      refine w_aload_n X dL_law_938 rfl rfl rfl ?_
      refine w_iload X dL_law_939 rfl rfl ?_
      refine w_iconst X dL_law_941 rfl ci_2 ?_
      refine w_iadd X dL_law_942 rfl ?_
      obtain ⟨yhg120, hf⟩ := wok_g hf
      refine w_sld X dL_law_943 rfl hsc (j := (v4 + 2).toNatClampNeg) rfl yhg120 ?_
      obtain ⟨yr121, eyr121, hf⟩ := wok_b hf
      refine w_callV X dL_law_944 rfl vl_L_112 (kX10_bears l  eyr121) S0_0 (As := [.int (xs (v4 + 1).toNatClampNeg), .int (xs (v4 + 2).toNatClampNeg)]) (st := []) rfl rfl (Nat.le_of_ble_eq_true rfl) ⟨by omega, by omega⟩ ⟨by omega, by omega⟩ (fun r h2 hF => ?_)
      obtain ⟨_, rfl, rfl, rfl⟩ := hF
      show wM p l e R s m args below meth c ck cn Q 7 D dA b0 ad S0 947 [some (.ref 99999), some (.ref 0), some (.ref 188), some (.ref 233), some (.int v4), none, none] [.int yr121.1] yr121.2
      refine w_aload_n X dL_law_947 rfl rfl rfl ?_
      refine w_aload_n X dL_law_948 rfl rfl rfl ?_
      refine w_iload X dL_law_949 rfl rfl ?_
      refine w_iconst X dL_law_951 rfl ci_1 ?_
      refine w_iadd X dL_law_952 rfl ?_
      refine w_sld X dL_law_953 rfl hsc (j := (v4 + 1).toNatClampNeg) rfl yhg119 ?_
      refine w_aload_n X dL_law_954 rfl rfl rfl ?_
      refine w_iload X dL_law_955 rfl rfl ?_
      refine w_iconst X dL_law_957 rfl ci_2 ?_
      refine w_iadd X dL_law_958 rfl ?_
      refine w_sld X dL_law_959 rfl hsc (j := (v4 + 2).toNatClampNeg) rfl yhg120 ?_
      obtain ⟨yr122, eyr122, hf⟩ := wok_b hf
      refine w_callV X dL_law_960 rfl vl_L_115 (kX11_bears l  eyr122) S0_188 (As := [.int (xs (v4 + 1).toNatClampNeg), .int (xs (v4 + 2).toNatClampNeg)]) (st := [.int yr121.1]) rfl rfl (Nat.le_of_ble_eq_true rfl) ⟨by omega, by omega⟩ ⟨by omega, by omega⟩ (fun r h2 hF => ?_)
      obtain ⟨_, rfl, rfl, rfl⟩ := hF
      show wM p l e R s m args below meth c ck cn Q 7 D dA b0 ad S0 963 [some (.ref 99999), some (.ref 0), some (.ref 188), some (.ref 233), some (.int v4), none, none] [.int yr122.1, .int yr121.1] yr122.2
      refine w_icmp_eq X dL_law_963 rfl (t := 1477) rfl (fun hc => ?_) (fun hc => ?_)
      · have hf := wok_t hf hc
        exact pL_law_b1477_23 X hr hsc hR hN hX0 hf
      · have hf := wok_f hf hc
        refine w_iconst X dL_law_966 rfl ci_0 ?_
        exact wok_n hf
    have hf := wok_f hf yhs118
    by_cases yhs123 : ((xs v4.toNatClampNeg) &&& 63) = 22
    · have hf := wok_t hf yhs123
      refine w_swIn X dL_law_40 (t := 968) (off := 928) rfl (by rw [yhs123]; decide) (by rw [yhs123]; decide) (by rw [yhs123]; rfl) ?_
      refine w_aload_n X dL_law_968 rfl rfl rfl ?_
      refine w_aload_n X dL_law_969 rfl rfl rfl ?_
      refine w_iload X dL_law_970 rfl rfl ?_
      refine w_iconst X dL_law_972 rfl ci_1 ?_
      refine w_iadd X dL_law_973 rfl ?_
      obtain ⟨yhg124, hf⟩ := wok_g hf
      refine w_sld X dL_law_974 rfl hsc (j := (v4 + 1).toNatClampNeg) rfl yhg124 ?_
      obtain ⟨yr125, eyr125, hf⟩ := wok_b hf
      refine w_callV X dL_law_975 rfl vl_L_116 (kX10_over l  eyr125) S0_0 (As := [.int (xs (v4 + 1).toNatClampNeg)]) (st := []) rfl rfl (Nat.le_of_ble_eq_true rfl) ⟨by omega, by omega⟩ ⟨by omega, by omega⟩ (fun r h2 hF => ?_)
      obtain ⟨_, rfl, rfl, rfl⟩ := hF
      show wM p l e R s m args below meth c ck cn Q 7 D dA b0 ad S0 978 [some (.ref 99999), some (.ref 0), some (.ref 188), some (.ref 233), some (.int v4), none, none] [.int yr125] h
      refine w_aload_n X dL_law_978 rfl rfl rfl ?_
      refine w_aload_n X dL_law_979 rfl rfl rfl ?_
      refine w_iload X dL_law_980 rfl rfl ?_
      refine w_iconst X dL_law_982 rfl ci_1 ?_
      refine w_iadd X dL_law_983 rfl ?_
      refine w_sld X dL_law_984 rfl hsc (j := (v4 + 1).toNatClampNeg) rfl yhg124 ?_
      obtain ⟨yr126, eyr126, hf⟩ := wok_b hf
      refine w_callV X dL_law_985 rfl vl_L_119 (kX11_over l  eyr126) S0_188 (As := [.int (xs (v4 + 1).toNatClampNeg)]) (st := [.int yr125]) rfl rfl (Nat.le_of_ble_eq_true rfl) ⟨by omega, by omega⟩ ⟨by omega, by omega⟩ (fun r h2 hF => ?_)
      obtain ⟨_, rfl, rfl, rfl⟩ := hF
      show wM p l e R s m args below meth c ck cn Q 7 D dA b0 ad S0 988 [some (.ref 99999), some (.ref 0), some (.ref 188), some (.ref 233), some (.int v4), none, none] [.int yr126.1, .int yr125] yr126.2
      refine w_icmp_eq X dL_law_988 rfl (t := 1477) rfl (fun hc => ?_) (fun hc => ?_)
      · have hf := wok_t hf hc
        exact pL_law_b1477_23 X hr hsc hR hN hX0 hf
      · have hf := wok_f hf hc
        refine w_iconst X dL_law_991 rfl ci_0 ?_
        exact wok_n hf
    have hf := wok_f hf yhs123
    by_cases yhs127 : ((xs v4.toNatClampNeg) &&& 63) = 23
    · have hf := wok_t hf yhs127
      refine w_swIn X dL_law_40 (t := 993) (off := 953) rfl (by rw [yhs127]; decide) (by rw [yhs127]; decide) (by rw [yhs127]; rfl) ?_
      refine w_aload_n X dL_law_993 rfl rfl rfl ?_
      refine w_aload_n X dL_law_994 rfl rfl rfl ?_
      refine w_iload X dL_law_995 rfl rfl ?_
      refine w_iconst X dL_law_997 rfl ci_1 ?_
      refine w_iadd X dL_law_998 rfl ?_
      obtain ⟨yhg128, hf⟩ := wok_g hf
      refine w_sld X dL_law_999 rfl hsc (j := (v4 + 1).toNatClampNeg) rfl yhg128 ?_
      obtain ⟨yr129, eyr129, hf⟩ := wok_b hf
      refine w_callV X dL_law_1000 rfl vl_L_120 (kX10_deepest l  eyr129) S0_0 (As := [.int (xs (v4 + 1).toNatClampNeg)]) (st := []) rfl rfl (Nat.le_of_ble_eq_true rfl) ⟨by omega, by omega⟩ ⟨by omega, by omega⟩ (fun r h2 hF => ?_)
      obtain ⟨_, rfl, rfl, rfl⟩ := hF
      show wM p l e R s m args below meth c ck cn Q 7 D dA b0 ad S0 1003 [some (.ref 99999), some (.ref 0), some (.ref 188), some (.ref 233), some (.int v4), none, none] [.int yr129] h
      refine w_aload_n X dL_law_1003 rfl rfl rfl ?_
      refine w_aload_n X dL_law_1004 rfl rfl rfl ?_
      refine w_iload X dL_law_1005 rfl rfl ?_
      refine w_iconst X dL_law_1007 rfl ci_1 ?_
      refine w_iadd X dL_law_1008 rfl ?_
      refine w_sld X dL_law_1009 rfl hsc (j := (v4 + 1).toNatClampNeg) rfl yhg128 ?_
      obtain ⟨yr130, eyr130, hf⟩ := wok_b hf
      refine w_callV X dL_law_1010 rfl vl_L_123 (kX11_deepest l  eyr130) S0_188 (As := [.int (xs (v4 + 1).toNatClampNeg)]) (st := [.int yr129]) rfl rfl (Nat.le_of_ble_eq_true rfl) ⟨by omega, by omega⟩ ⟨by omega, by omega⟩ (fun r h2 hF => ?_)
      obtain ⟨_, rfl, rfl, rfl⟩ := hF
      show wM p l e R s m args below meth c ck cn Q 7 D dA b0 ad S0 1013 [some (.ref 99999), some (.ref 0), some (.ref 188), some (.ref 233), some (.int v4), none, none] [.int yr130.1, .int yr129] yr130.2
      refine w_icmp_eq X dL_law_1013 rfl (t := 1477) rfl (fun hc => ?_) (fun hc => ?_)
      · have hf := wok_t hf hc
        exact pL_law_b1477_23 X hr hsc hR hN hX0 hf
      · have hf := wok_f hf hc
        refine w_iconst X dL_law_1016 rfl ci_0 ?_
        exact wok_n hf
    have hf := wok_f hf yhs127
    by_cases yhs131 : ((xs v4.toNatClampNeg) &&& 63) = 24
    · have hf := wok_t hf yhs131
      refine w_swIn X dL_law_40 (t := 1018) (off := 978) rfl (by rw [yhs131]; decide) (by rw [yhs131]; decide) (by rw [yhs131]; rfl) ?_
      refine w_aload_n X dL_law_1018 rfl rfl rfl ?_
      refine w_aload_n X dL_law_1019 rfl rfl rfl ?_
      refine w_iload X dL_law_1020 rfl rfl ?_
      refine w_iconst X dL_law_1022 rfl ci_1 ?_
      refine w_iadd X dL_law_1023 rfl ?_
      obtain ⟨yhg132, hf⟩ := wok_g hf
      refine w_sld X dL_law_1024 rfl hsc (j := (v4 + 1).toNatClampNeg) rfl yhg132 ?_
      obtain ⟨yr133, eyr133, hf⟩ := wok_b hf
      refine w_callV X dL_law_1025 rfl vl_L_124 (kX10_bare l  eyr133) S0_0 (As := [.int (xs (v4 + 1).toNatClampNeg)]) (st := []) rfl rfl (Nat.le_of_ble_eq_true rfl) ⟨by omega, by omega⟩ ⟨by omega, by omega⟩ (fun r h2 hF => ?_)
      obtain ⟨_, rfl, rfl, rfl⟩ := hF
      show wM p l e R s m args below meth c ck cn Q 7 D dA b0 ad S0 1028 [some (.ref 99999), some (.ref 0), some (.ref 188), some (.ref 233), some (.int v4), none, none] [.int yr133] h
      refine w_aload_n X dL_law_1028 rfl rfl rfl ?_
      refine w_aload_n X dL_law_1029 rfl rfl rfl ?_
      refine w_iload X dL_law_1030 rfl rfl ?_
      refine w_iconst X dL_law_1032 rfl ci_1 ?_
      refine w_iadd X dL_law_1033 rfl ?_
      refine w_sld X dL_law_1034 rfl hsc (j := (v4 + 1).toNatClampNeg) rfl yhg132 ?_
      obtain ⟨yr134, eyr134, hf⟩ := wok_b hf
      refine w_callV X dL_law_1035 rfl vl_L_127 (kX11_bare l  eyr134) S0_188 (As := [.int (xs (v4 + 1).toNatClampNeg)]) (st := [.int yr133]) rfl rfl (Nat.le_of_ble_eq_true rfl) ⟨by omega, by omega⟩ ⟨by omega, by omega⟩ (fun r h2 hF => ?_)
      obtain ⟨_, rfl, rfl, rfl⟩ := hF
      show wM p l e R s m args below meth c ck cn Q 7 D dA b0 ad S0 1038 [some (.ref 99999), some (.ref 0), some (.ref 188), some (.ref 233), some (.int v4), none, none] [.int yr134.1, .int yr133] yr134.2
      refine w_icmp_eq X dL_law_1038 rfl (t := 1477) rfl (fun hc => ?_) (fun hc => ?_)
      · have hf := wok_t hf hc
        exact pL_law_b1477_23 X hr hsc hR hN hX0 hf
      · have hf := wok_f hf hc
        refine w_iconst X dL_law_1041 rfl ci_0 ?_
        exact wok_n hf
    have hf := wok_f hf yhs131
    by_cases yhs135 : ((xs v4.toNatClampNeg) &&& 63) = 25
    · have hf := wok_t hf yhs135
      refine w_swIn X dL_law_40 (t := 1043) (off := 1003) rfl (by rw [yhs135]; decide) (by rw [yhs135]; decide) (by rw [yhs135]; rfl) ?_
      refine w_aload_n X dL_law_1043 rfl rfl rfl ?_
      obtain ⟨yr136, eyr136, hf⟩ := wok_b hf
      refine w_callV X dL_law_1044 rfl vl_L_128 (kX10_same l  eyr136) S0_0 (As := []) (st := []) rfl rfl (Nat.le_of_ble_eq_true rfl) ⟨by omega, by omega⟩ ⟨by omega, by omega⟩ (fun r h2 hF => ?_)
      obtain ⟨_, rfl, rfl, rfl⟩ := hF
      show wM p l e R s m args below meth c ck cn Q 7 D dA b0 ad S0 1047 [some (.ref 99999), some (.ref 0), some (.ref 188), some (.ref 233), some (.int v4), none, none] [.int yr136] h
      refine w_aload_n X dL_law_1047 rfl rfl rfl ?_
      obtain ⟨yr137, eyr137, hf⟩ := wok_b hf
      refine w_callV X dL_law_1048 rfl vl_L_131 (kX11_same l  eyr137) S0_188 (As := []) (st := [.int yr136]) rfl rfl (Nat.le_of_ble_eq_true rfl) ⟨by omega, by omega⟩ ⟨by omega, by omega⟩ (fun r h2 hF => ?_)
      obtain ⟨_, rfl, rfl, rfl⟩ := hF
      show wM p l e R s m args below meth c ck cn Q 7 D dA b0 ad S0 1051 [some (.ref 99999), some (.ref 0), some (.ref 188), some (.ref 233), some (.int v4), none, none] [.int yr137.1, .int yr136] yr137.2
      refine w_icmp_eq X dL_law_1051 rfl (t := 1477) rfl (fun hc => ?_) (fun hc => ?_)
      · have hf := wok_t hf hc
        exact pL_law_b1477_23 X hr hsc hR hN hX0 hf
      · have hf := wok_f hf hc
        refine w_iconst X dL_law_1054 rfl ci_0 ?_
        exact wok_n hf
    have hf := wok_f hf yhs135
    by_cases yhs138 : ((xs v4.toNatClampNeg) &&& 63) = 26
    · have hf := wok_t hf yhs138
      refine w_swIn X dL_law_40 (t := 1056) (off := 1016) rfl (by rw [yhs138]; decide) (by rw [yhs138]; decide) (by rw [yhs138]; rfl) ?_
      refine w_aload_n X dL_law_1056 rfl rfl rfl ?_
      obtain ⟨yr139, eyr139, hf⟩ := wok_b hf
      refine w_callV X dL_law_1057 rfl vl_L_132 (kX10_giveup l  eyr139) S0_0 (As := []) (st := []) rfl rfl (Nat.le_of_ble_eq_true rfl) ⟨by omega, by omega⟩ ⟨by omega, by omega⟩ (fun r h2 hF => ?_)
      obtain ⟨_, rfl, rfl, rfl⟩ := hF
      show wM p l e R s m args below meth c ck cn Q 7 D dA b0 ad S0 1060 [some (.ref 99999), some (.ref 0), some (.ref 188), some (.ref 233), some (.int v4), none, none] [.int yr139.1] yr139.2
      refine w_aload_n X dL_law_1060 rfl rfl rfl ?_
      obtain ⟨yr140, eyr140, hf⟩ := wok_b hf
      refine w_callV X dL_law_1061 rfl vl_L_135 (kX11_giveup l  eyr140) S0_188 (As := []) (st := [.int yr139.1]) rfl rfl (Nat.le_of_ble_eq_true rfl) ⟨by omega, by omega⟩ ⟨by omega, by omega⟩ (fun r h2 hF => ?_)
      obtain ⟨_, rfl, rfl, rfl⟩ := hF
      show wM p l e R s m args below meth c ck cn Q 7 D dA b0 ad S0 1064 [some (.ref 99999), some (.ref 0), some (.ref 188), some (.ref 233), some (.int v4), none, none] [.int yr140.1, .int yr139.1] yr140.2
      refine w_icmp_eq X dL_law_1064 rfl (t := 1477) rfl (fun hc => ?_) (fun hc => ?_)
      · have hf := wok_t hf hc
        exact pL_law_b1477_23 X hr hsc hR hN hX0 hf
      · have hf := wok_f hf hc
        refine w_iconst X dL_law_1067 rfl ci_0 ?_
        exact wok_n hf
    have hf := wok_f hf yhs138
    by_cases yhs141 : ((xs v4.toNatClampNeg) &&& 63) = 27
    · have hf := wok_t hf yhs141
      refine w_swIn X dL_law_40 (t := 1069) (off := 1029) rfl (by rw [yhs141]; decide) (by rw [yhs141]; decide) (by rw [yhs141]; rfl) ?_
      refine w_aload_n X dL_law_1069 rfl rfl rfl ?_
      refine w_aload_n X dL_law_1070 rfl rfl rfl ?_
      refine w_iload X dL_law_1071 rfl rfl ?_
      refine w_iconst X dL_law_1073 rfl ci_1 ?_
      refine w_iadd X dL_law_1074 rfl ?_
      obtain ⟨yhg142, hf⟩ := wok_g hf
      refine w_sld X dL_law_1075 rfl hsc (j := (v4 + 1).toNatClampNeg) rfl yhg142 ?_
      obtain ⟨yr143, eyr143, hf⟩ := wok_b hf
      refine w_callV X dL_law_1076 rfl vl_L_136 (kX10_psalter l  eyr143) S0_0 (As := [.int (xs (v4 + 1).toNatClampNeg)]) (st := []) rfl rfl (Nat.le_of_ble_eq_true rfl) ⟨by omega, by omega⟩ ⟨by omega, by omega⟩ (fun r h2 hF => ?_)
      obtain ⟨_, rfl, rfl, rfl⟩ := hF
      show wM p l e R s m args below meth c ck cn Q 7 D dA b0 ad S0 1079 [some (.ref 99999), some (.ref 0), some (.ref 188), some (.ref 233), some (.int v4), none, none] [.int yr143.1] yr143.2
      refine w_aload_n X dL_law_1079 rfl rfl rfl ?_
      refine w_aload_n X dL_law_1080 rfl rfl rfl ?_
      refine w_iload X dL_law_1081 rfl rfl ?_
      refine w_iconst X dL_law_1083 rfl ci_1 ?_
      refine w_iadd X dL_law_1084 rfl ?_
      refine w_sld X dL_law_1085 rfl hsc (j := (v4 + 1).toNatClampNeg) rfl yhg142 ?_
      obtain ⟨yr144, eyr144, hf⟩ := wok_b hf
      refine w_callV X dL_law_1086 rfl vl_L_139 (kX11_psalter l  eyr144) S0_188 (As := [.int (xs (v4 + 1).toNatClampNeg)]) (st := [.int yr143.1]) rfl rfl (Nat.le_of_ble_eq_true rfl) ⟨by omega, by omega⟩ ⟨by omega, by omega⟩ (fun r h2 hF => ?_)
      obtain ⟨_, rfl, rfl, rfl⟩ := hF
      show wM p l e R s m args below meth c ck cn Q 7 D dA b0 ad S0 1089 [some (.ref 99999), some (.ref 0), some (.ref 188), some (.ref 233), some (.int v4), none, none] [.int yr144.1, .int yr143.1] yr144.2
      refine w_icmp_eq X dL_law_1089 rfl (t := 1477) rfl (fun hc => ?_) (fun hc => ?_)
      · have hf := wok_t hf hc
        exact pL_law_b1477_23 X hr hsc hR hN hX0 hf
      · have hf := wok_f hf hc
        refine w_iconst X dL_law_1092 rfl ci_0 ?_
        exact wok_n hf
    have hf := wok_f hf yhs141
    by_cases yhs145 : ((xs v4.toNatClampNeg) &&& 63) = 28
    · have hf := wok_t hf yhs145
      refine w_swIn X dL_law_40 (t := 1094) (off := 1054) rfl (by rw [yhs145]; decide) (by rw [yhs145]; decide) (by rw [yhs145]; rfl) ?_
      refine w_aload_n X dL_law_1094 rfl rfl rfl ?_
      refine w_aload_n X dL_law_1095 rfl rfl rfl ?_
      refine w_iload X dL_law_1096 rfl rfl ?_
      refine w_iconst X dL_law_1098 rfl ci_1 ?_
      refine w_iadd X dL_law_1099 rfl ?_
      obtain ⟨yhg146, hf⟩ := wok_g hf
      refine w_sld X dL_law_1100 rfl hsc (j := (v4 + 1).toNatClampNeg) rfl yhg146 ?_
      refine w_aload_n X dL_law_1101 rfl rfl rfl ?_
      refine w_iload X dL_law_1102 rfl rfl ?_
      refine w_iconst X dL_law_1104 rfl ci_2 ?_
      refine w_iadd X dL_law_1105 rfl ?_
      obtain ⟨yhg147, hf⟩ := wok_g hf
      refine w_sld X dL_law_1106 rfl hsc (j := (v4 + 2).toNatClampNeg) rfl yhg147 ?_
      refine w_aload_n X dL_law_1107 rfl rfl rfl ?_
      refine w_iload X dL_law_1108 rfl rfl ?_
      refine w_iconst X dL_law_1110 rfl ci_3 ?_
      refine w_iadd X dL_law_1111 rfl ?_
      obtain ⟨yhg148, hf⟩ := wok_g hf
      refine w_sld X dL_law_1112 rfl hsc (j := (v4 + 3).toNatClampNeg) rfl yhg148 ?_
      refine w_aload_n X dL_law_1113 rfl rfl rfl ?_
      refine w_iload X dL_law_1114 rfl rfl ?_
      refine w_iconst X dL_law_1116 rfl ci_4 ?_
      refine w_iadd X dL_law_1117 rfl ?_
      obtain ⟨yhg149, hf⟩ := wok_g hf
      refine w_sld X dL_law_1118 rfl hsc (j := (v4 + 4).toNatClampNeg) rfl yhg149 ?_
      refine w_if_eq X dL_law_1119 rfl (t := 1126) rfl (fun hc => ?_) (fun hc => ?_)
      · have hf := wok_t hf hc
        refine w_iconst X dL_law_1126 rfl ci_0 ?_
        exact pL_law_b1127_23 X hr hsc hR hN hX0 hf
      · have hf := wok_f hf hc
        refine w_iconst X dL_law_1122 rfl ci_1 ?_
        refine w_goto X dL_law_1123 (t := 1127) rfl ?_
        exact pL_law_b1127_23 X hr hsc hR hN hX0 hf
    have hf := wok_f hf yhs145
    by_cases yhs156 : ((xs v4.toNatClampNeg) &&& 63) = 29
    · have hf := wok_t hf yhs156
      refine w_swIn X dL_law_40 (t := 1171) (off := 1131) rfl (by rw [yhs156]; decide) (by rw [yhs156]; decide) (by rw [yhs156]; rfl) ?_
      refine w_aload_n X dL_law_1171 rfl rfl rfl ?_
      obtain ⟨yr157, eyr157, hf⟩ := wok_b hf
      refine w_callV X dL_law_1172 rfl vl_L_145 (kX10_who l  eyr157) S0_0 (As := []) (st := []) rfl rfl (Nat.le_of_ble_eq_true rfl) ⟨by omega, by omega⟩ ⟨by omega, by omega⟩ (fun r h2 hF => ?_)
      obtain ⟨_, rfl, rfl, rfl⟩ := hF
      show wM p l e R s m args below meth c ck cn Q 7 D dA b0 ad S0 1175 [some (.ref 99999), some (.ref 0), some (.ref 188), some (.ref 233), some (.int v4), none, none] [.int yr157.1] yr157.2
      refine w_aload_n X dL_law_1175 rfl rfl rfl ?_
      obtain ⟨yr158, eyr158, hf⟩ := wok_b hf
      refine w_callV X dL_law_1176 rfl vl_L_148 (kX11_who l  eyr158) S0_188 (As := []) (st := [.int yr157.1]) rfl rfl (Nat.le_of_ble_eq_true rfl) ⟨by omega, by omega⟩ ⟨by omega, by omega⟩ (fun r h2 hF => ?_)
      obtain ⟨_, rfl, rfl, rfl⟩ := hF
      show wM p l e R s m args below meth c ck cn Q 7 D dA b0 ad S0 1179 [some (.ref 99999), some (.ref 0), some (.ref 188), some (.ref 233), some (.int v4), none, none] [.int yr158.1, .int yr157.1] yr158.2
      refine w_icmp_eq X dL_law_1179 rfl (t := 1477) rfl (fun hc => ?_) (fun hc => ?_)
      · have hf := wok_t hf hc
        exact pL_law_b1477_23 X hr hsc hR hN hX0 hf
      · have hf := wok_f hf hc
        refine w_iconst X dL_law_1182 rfl ci_0 ?_
        exact wok_n hf
    have hf := wok_f hf yhs156
    by_cases yhs159 : ((xs v4.toNatClampNeg) &&& 63) = 30
    · have hf := wok_t hf yhs159
      refine w_swIn X dL_law_40 (t := 1184) (off := 1144) rfl (by rw [yhs159]; decide) (by rw [yhs159]; decide) (by rw [yhs159]; rfl) ?_
      refine w_aload_n X dL_law_1184 rfl rfl rfl ?_
      refine w_aload_n X dL_law_1185 rfl rfl rfl ?_
      refine w_iload X dL_law_1186 rfl rfl ?_
      refine w_iconst X dL_law_1188 rfl ci_1 ?_
      refine w_iadd X dL_law_1189 rfl ?_
      obtain ⟨yhg160, hf⟩ := wok_g hf
      refine w_sld X dL_law_1190 rfl hsc (j := (v4 + 1).toNatClampNeg) rfl yhg160 ?_
      obtain ⟨yr161, eyr161, hf⟩ := wok_b hf
      refine w_callV X dL_law_1191 rfl vl_L_149 (kX10_ask l  eyr161) S0_0 (As := [.int (xs (v4 + 1).toNatClampNeg)]) (st := []) rfl rfl (Nat.le_of_ble_eq_true rfl) ⟨by omega, by omega⟩ ⟨by omega, by omega⟩ (fun r h2 hF => ?_)
      obtain ⟨_, rfl, rfl, rfl⟩ := hF
      show wM p l e R s m args below meth c ck cn Q 7 D dA b0 ad S0 1194 [some (.ref 99999), some (.ref 0), some (.ref 188), some (.ref 233), some (.int v4), none, none] [.int yr161.1] yr161.2
      refine w_aload_n X dL_law_1194 rfl rfl rfl ?_
      refine w_aload_n X dL_law_1195 rfl rfl rfl ?_
      refine w_iload X dL_law_1196 rfl rfl ?_
      refine w_iconst X dL_law_1198 rfl ci_1 ?_
      refine w_iadd X dL_law_1199 rfl ?_
      refine w_sld X dL_law_1200 rfl hsc (j := (v4 + 1).toNatClampNeg) rfl yhg160 ?_
      obtain ⟨yr162, eyr162, hf⟩ := wok_b hf
      refine w_callV X dL_law_1201 rfl vl_L_152 (kX11_ask l  eyr162) S0_188 (As := [.int (xs (v4 + 1).toNatClampNeg)]) (st := [.int yr161.1]) rfl rfl (Nat.le_of_ble_eq_true rfl) ⟨by omega, by omega⟩ ⟨by omega, by omega⟩ (fun r h2 hF => ?_)
      obtain ⟨_, rfl, rfl, rfl⟩ := hF
      show wM p l e R s m args below meth c ck cn Q 7 D dA b0 ad S0 1204 [some (.ref 99999), some (.ref 0), some (.ref 188), some (.ref 233), some (.int v4), none, none] [.int yr162.1, .int yr161.1] yr162.2
      refine w_icmp_eq X dL_law_1204 rfl (t := 1477) rfl (fun hc => ?_) (fun hc => ?_)
      · have hf := wok_t hf hc
        exact pL_law_b1477_23 X hr hsc hR hN hX0 hf
      · have hf := wok_f hf hc
        refine w_iconst X dL_law_1207 rfl ci_0 ?_
        exact wok_n hf
    have hf := wok_f hf yhs159
    by_cases yhs163 : ((xs v4.toNatClampNeg) &&& 63) = 31
    · have hf := wok_t hf yhs163
      refine w_swIn X dL_law_40 (t := 1209) (off := 1169) rfl (by rw [yhs163]; decide) (by rw [yhs163]; decide) (by rw [yhs163]; rfl) ?_
      refine w_aload_n X dL_law_1209 rfl rfl rfl ?_
      refine w_aload_n X dL_law_1210 rfl rfl rfl ?_
      refine w_iload X dL_law_1211 rfl rfl ?_
      refine w_iconst X dL_law_1213 rfl ci_1 ?_
      refine w_iadd X dL_law_1214 rfl ?_
      obtain ⟨yhg164, hf⟩ := wok_g hf
      refine w_sld X dL_law_1215 rfl hsc (j := (v4 + 1).toNatClampNeg) rfl yhg164 ?_
      refine w_aload_n X dL_law_1216 rfl rfl rfl ?_
      refine w_iload X dL_law_1217 rfl rfl ?_
      refine w_iconst X dL_law_1219 rfl ci_2 ?_
      refine w_iadd X dL_law_1220 rfl ?_
      obtain ⟨yhg165, hf⟩ := wok_g hf
      refine w_sld X dL_law_1221 rfl hsc (j := (v4 + 2).toNatClampNeg) rfl yhg165 ?_
      refine w_aload_n X dL_law_1222 rfl rfl rfl ?_
      refine w_iload X dL_law_1223 rfl rfl ?_
      refine w_iconst X dL_law_1225 rfl ci_3 ?_
      refine w_iadd X dL_law_1226 rfl ?_
      obtain ⟨yhg166, hf⟩ := wok_g hf
      refine w_sld X dL_law_1227 rfl hsc (j := (v4 + 3).toNatClampNeg) rfl yhg166 ?_
      obtain ⟨yr167, eyr167, hf⟩ := wok_b hf
      refine w_callV X dL_law_1228 rfl vl_L_153 (kX10_chance l  eyr167) S0_0 (As := [.int (xs (v4 + 1).toNatClampNeg), .int (xs (v4 + 2).toNatClampNeg), .int (xs (v4 + 3).toNatClampNeg)]) (st := []) rfl rfl (Nat.le_of_ble_eq_true rfl) ⟨by omega, by omega⟩ ⟨by omega, by omega⟩ (fun r h2 hF => ?_)
      obtain ⟨_, rfl, rfl, rfl⟩ := hF
      show wM p l e R s m args below meth c ck cn Q 7 D dA b0 ad S0 1231 [some (.ref 99999), some (.ref 0), some (.ref 188), some (.ref 233), some (.int v4), none, none] [.int yr167.1] yr167.2
      refine w_aload_n X dL_law_1231 rfl rfl rfl ?_
      refine w_aload_n X dL_law_1232 rfl rfl rfl ?_
      refine w_iload X dL_law_1233 rfl rfl ?_
      refine w_iconst X dL_law_1235 rfl ci_1 ?_
      refine w_iadd X dL_law_1236 rfl ?_
      refine w_sld X dL_law_1237 rfl hsc (j := (v4 + 1).toNatClampNeg) rfl yhg164 ?_
      refine w_aload_n X dL_law_1238 rfl rfl rfl ?_
      refine w_iload X dL_law_1239 rfl rfl ?_
      refine w_iconst X dL_law_1241 rfl ci_2 ?_
      refine w_iadd X dL_law_1242 rfl ?_
      refine w_sld X dL_law_1243 rfl hsc (j := (v4 + 2).toNatClampNeg) rfl yhg165 ?_
      refine w_aload_n X dL_law_1244 rfl rfl rfl ?_
      refine w_iload X dL_law_1245 rfl rfl ?_
      refine w_iconst X dL_law_1247 rfl ci_3 ?_
      refine w_iadd X dL_law_1248 rfl ?_
      refine w_sld X dL_law_1249 rfl hsc (j := (v4 + 3).toNatClampNeg) rfl yhg166 ?_
      obtain ⟨yr168, eyr168, hf⟩ := wok_b hf
      refine w_callV X dL_law_1250 rfl vl_L_156 (kX11_chance l  eyr168) S0_188 (As := [.int (xs (v4 + 1).toNatClampNeg), .int (xs (v4 + 2).toNatClampNeg), .int (xs (v4 + 3).toNatClampNeg)]) (st := [.int yr167.1]) rfl rfl (Nat.le_of_ble_eq_true rfl) ⟨by omega, by omega⟩ ⟨by omega, by omega⟩ (fun r h2 hF => ?_)
      obtain ⟨_, rfl, rfl, rfl⟩ := hF
      show wM p l e R s m args below meth c ck cn Q 7 D dA b0 ad S0 1253 [some (.ref 99999), some (.ref 0), some (.ref 188), some (.ref 233), some (.int v4), none, none] [.int yr168.1, .int yr167.1] yr168.2
      refine w_icmp_eq X dL_law_1253 rfl (t := 1477) rfl (fun hc => ?_) (fun hc => ?_)
      · have hf := wok_t hf hc
        exact pL_law_b1477_23 X hr hsc hR hN hX0 hf
      · have hf := wok_f hf hc
        refine w_iconst X dL_law_1256 rfl ci_0 ?_
        exact wok_n hf
    have hf := wok_f hf yhs163
    by_cases yhs169 : ((xs v4.toNatClampNeg) &&& 63) = 32
    · have hf := wok_t hf yhs169
      refine w_swIn X dL_law_40 (t := 1258) (off := 1218) rfl (by rw [yhs169]; decide) (by rw [yhs169]; decide) (by rw [yhs169]; rfl) ?_
      refine w_aload_n X dL_law_1258 rfl rfl rfl ?_
      refine w_aload_n X dL_law_1259 rfl rfl rfl ?_
      refine w_iload X dL_law_1260 rfl rfl ?_
      refine w_iconst X dL_law_1262 rfl ci_1 ?_
      refine w_iadd X dL_law_1263 rfl ?_
      obtain ⟨yhg170, hf⟩ := wok_g hf
      refine w_sld X dL_law_1264 rfl hsc (j := (v4 + 1).toNatClampNeg) rfl yhg170 ?_
      refine w_aload_n X dL_law_1265 rfl rfl rfl ?_
      refine w_iload X dL_law_1266 rfl rfl ?_
      refine w_iconst X dL_law_1268 rfl ci_2 ?_
      refine w_iadd X dL_law_1269 rfl ?_
      obtain ⟨yhg171, hf⟩ := wok_g hf
      refine w_sld X dL_law_1270 rfl hsc (j := (v4 + 2).toNatClampNeg) rfl yhg171 ?_
      refine w_aload_n X dL_law_1271 rfl rfl rfl ?_
      refine w_iload X dL_law_1272 rfl rfl ?_
      refine w_iconst X dL_law_1274 rfl ci_3 ?_
      refine w_iadd X dL_law_1275 rfl ?_
      obtain ⟨yhg172, hf⟩ := wok_g hf
      refine w_sld X dL_law_1276 rfl hsc (j := (v4 + 3).toNatClampNeg) rfl yhg172 ?_
      refine w_aload_n X dL_law_1277 rfl rfl rfl ?_
      refine w_iload X dL_law_1278 rfl rfl ?_
      refine w_iconst X dL_law_1280 rfl ci_4 ?_
      refine w_iadd X dL_law_1281 rfl ?_
      obtain ⟨yhg173, hf⟩ := wok_g hf
      refine w_sld X dL_law_1282 rfl hsc (j := (v4 + 4).toNatClampNeg) rfl yhg173 ?_
      refine w_aload_n X dL_law_1283 rfl rfl rfl ?_
      exact wok_n hf
    have hf := wok_f hf yhs169
    by_cases yhs174 : ((xs v4.toNatClampNeg) &&& 63) = 33
    · have hf := wok_t hf yhs174
      refine w_swIn X dL_law_40 (t := 1350) (off := 1310) rfl (by rw [yhs174]; decide) (by rw [yhs174]; decide) (by rw [yhs174]; rfl) ?_
      refine w_aload_n X dL_law_1350 rfl rfl rfl ?_
      refine w_aload_n X dL_law_1351 rfl rfl rfl ?_
      refine w_iload X dL_law_1352 rfl rfl ?_
      refine w_iconst X dL_law_1354 rfl ci_1 ?_
      refine w_iadd X dL_law_1355 rfl ?_
      obtain ⟨yhg175, hf⟩ := wok_g hf
      refine w_sld X dL_law_1356 rfl hsc (j := (v4 + 1).toNatClampNeg) rfl yhg175 ?_
      refine w_aload_n X dL_law_1357 rfl rfl rfl ?_
      refine w_iload X dL_law_1358 rfl rfl ?_
      refine w_iconst X dL_law_1360 rfl ci_2 ?_
      refine w_iadd X dL_law_1361 rfl ?_
      obtain ⟨yhg176, hf⟩ := wok_g hf
      refine w_sld X dL_law_1362 rfl hsc (j := (v4 + 2).toNatClampNeg) rfl yhg176 ?_
      refine w_aload_n X dL_law_1363 rfl rfl rfl ?_
      refine w_iload X dL_law_1364 rfl rfl ?_
      refine w_iconst X dL_law_1366 rfl ci_3 ?_
      refine w_iadd X dL_law_1367 rfl ?_
      obtain ⟨yhg177, hf⟩ := wok_g hf
      refine w_sld X dL_law_1368 rfl hsc (j := (v4 + 3).toNatClampNeg) rfl yhg177 ?_
      obtain ⟨yr178, eyr178, hf⟩ := wok_b hf
      refine w_callV X dL_law_1369 rfl vl_L_166 (kX10_years l  eyr178) S0_0 (As := [.int (xs (v4 + 1).toNatClampNeg), .int (xs (v4 + 2).toNatClampNeg), .int (xs (v4 + 3).toNatClampNeg)]) (st := []) rfl rfl (Nat.le_of_ble_eq_true rfl) ⟨by omega, by omega⟩ ⟨by omega, by omega⟩ (fun r h2 hF => ?_)
      obtain ⟨_, rfl, rfl, rfl⟩ := hF
      show wM p l e R s m args below meth c ck cn Q 7 D dA b0 ad S0 1372 [some (.ref 99999), some (.ref 0), some (.ref 188), some (.ref 233), some (.int v4), none, none] [.int yr178.1] yr178.2
      refine w_aload_n X dL_law_1372 rfl rfl rfl ?_
      refine w_aload_n X dL_law_1373 rfl rfl rfl ?_
      refine w_iload X dL_law_1374 rfl rfl ?_
      refine w_iconst X dL_law_1376 rfl ci_1 ?_
      refine w_iadd X dL_law_1377 rfl ?_
      refine w_sld X dL_law_1378 rfl hsc (j := (v4 + 1).toNatClampNeg) rfl yhg175 ?_
      refine w_aload_n X dL_law_1379 rfl rfl rfl ?_
      refine w_iload X dL_law_1380 rfl rfl ?_
      refine w_iconst X dL_law_1382 rfl ci_2 ?_
      refine w_iadd X dL_law_1383 rfl ?_
      refine w_sld X dL_law_1384 rfl hsc (j := (v4 + 2).toNatClampNeg) rfl yhg176 ?_
      refine w_aload_n X dL_law_1385 rfl rfl rfl ?_
      refine w_iload X dL_law_1386 rfl rfl ?_
      refine w_iconst X dL_law_1388 rfl ci_3 ?_
      refine w_iadd X dL_law_1389 rfl ?_
      refine w_sld X dL_law_1390 rfl hsc (j := (v4 + 3).toNatClampNeg) rfl yhg177 ?_
      obtain ⟨yr179, eyr179, hf⟩ := wok_b hf
      refine w_callV X dL_law_1391 rfl vl_L_169 (kX11_years l  eyr179) S0_188 (As := [.int (xs (v4 + 1).toNatClampNeg), .int (xs (v4 + 2).toNatClampNeg), .int (xs (v4 + 3).toNatClampNeg)]) (st := [.int yr178.1]) rfl rfl (Nat.le_of_ble_eq_true rfl) ⟨by omega, by omega⟩ ⟨by omega, by omega⟩ (fun r h2 hF => ?_)
      obtain ⟨_, rfl, rfl, rfl⟩ := hF
      show wM p l e R s m args below meth c ck cn Q 7 D dA b0 ad S0 1394 [some (.ref 99999), some (.ref 0), some (.ref 188), some (.ref 233), some (.int v4), none, none] [.int yr179.1, .int yr178.1] yr179.2
      refine w_icmp_eq X dL_law_1394 rfl (t := 1477) rfl (fun hc => ?_) (fun hc => ?_)
      · have hf := wok_t hf hc
        exact pL_law_b1477_23 X hr hsc hR hN hX0 hf
      · have hf := wok_f hf hc
        refine w_iconst X dL_law_1397 rfl ci_0 ?_
        exact wok_n hf
    have hf := wok_f hf yhs174
    by_cases yhs180 : ((xs v4.toNatClampNeg) &&& 63) = 34
    · have hf := wok_t hf yhs180
      refine w_swIn X dL_law_40 (t := 1399) (off := 1359) rfl (by rw [yhs180]; decide) (by rw [yhs180]; decide) (by rw [yhs180]; rfl) ?_
      refine w_aload_n X dL_law_1399 rfl rfl rfl ?_
      refine w_aload_n X dL_law_1400 rfl rfl rfl ?_
      refine w_iload X dL_law_1401 rfl rfl ?_
      refine w_iconst X dL_law_1403 rfl ci_1 ?_
      refine w_iadd X dL_law_1404 rfl ?_
      obtain ⟨yhg181, hf⟩ := wok_g hf
      refine w_sld X dL_law_1405 rfl hsc (j := (v4 + 1).toNatClampNeg) rfl yhg181 ?_
      refine w_aload_n X dL_law_1406 rfl rfl rfl ?_
      refine w_iload X dL_law_1407 rfl rfl ?_
      refine w_iconst X dL_law_1409 rfl ci_2 ?_
      refine w_iadd X dL_law_1410 rfl ?_
      obtain ⟨yhg182, hf⟩ := wok_g hf
      refine w_sld X dL_law_1411 rfl hsc (j := (v4 + 2).toNatClampNeg) rfl yhg182 ?_
      refine w_if_eq X dL_law_1412 rfl (t := 1419) rfl (fun hc => ?_) (fun hc => ?_)
      · have hf := wok_t hf hc
        refine w_iconst X dL_law_1419 rfl ci_0 ?_
        exact pL_law_b1420_23 X hr hsc hR hN hX0 hf
      · have hf := wok_f hf hc
        refine w_iconst X dL_law_1415 rfl ci_1 ?_
        refine w_goto X dL_law_1416 (t := 1420) rfl ?_
        exact pL_law_b1420_23 X hr hsc hR hN hX0 hf
    have hf := wok_f hf yhs180
    by_cases yhs187 : ((xs v4.toNatClampNeg) &&& 63) = 35
    · have hf := wok_t hf yhs187
      refine w_swIn X dL_law_40 (t := 1452) (off := 1412) rfl (by rw [yhs187]; decide) (by rw [yhs187]; decide) (by rw [yhs187]; rfl) ?_
      refine w_aload_n X dL_law_1452 rfl rfl rfl ?_
      refine w_aload_n X dL_law_1453 rfl rfl rfl ?_
      refine w_iload X dL_law_1454 rfl rfl ?_
      refine w_iconst X dL_law_1456 rfl ci_1 ?_
      refine w_iadd X dL_law_1457 rfl ?_
      obtain ⟨yhg188, hf⟩ := wok_g hf
      refine w_sld X dL_law_1458 rfl hsc (j := (v4 + 1).toNatClampNeg) rfl yhg188 ?_
      obtain ⟨yr189, eyr189, hf⟩ := wok_b hf
      refine w_callV X dL_law_1459 rfl vl_L_175 (kX10_count l  eyr189) S0_0 (As := [.int (xs (v4 + 1).toNatClampNeg)]) (st := []) rfl rfl (Nat.le_of_ble_eq_true rfl) ⟨by omega, by omega⟩ ⟨by omega, by omega⟩ (fun r h2 hF => ?_)
      obtain ⟨_, rfl, rfl, rfl⟩ := hF
      show wM p l e R s m args below meth c ck cn Q 7 D dA b0 ad S0 1462 [some (.ref 99999), some (.ref 0), some (.ref 188), some (.ref 233), some (.int v4), none, none] [.int yr189.1] yr189.2
      refine w_aload_n X dL_law_1462 rfl rfl rfl ?_
      refine w_aload_n X dL_law_1463 rfl rfl rfl ?_
      refine w_iload X dL_law_1464 rfl rfl ?_
      refine w_iconst X dL_law_1466 rfl ci_1 ?_
      refine w_iadd X dL_law_1467 rfl ?_
      refine w_sld X dL_law_1468 rfl hsc (j := (v4 + 1).toNatClampNeg) rfl yhg188 ?_
      obtain ⟨yr190, eyr190, hf⟩ := wok_b hf
      refine w_callV X dL_law_1469 rfl vl_L_178 (kX11_count l  eyr190) S0_188 (As := [.int (xs (v4 + 1).toNatClampNeg)]) (st := [.int yr189.1]) rfl rfl (Nat.le_of_ble_eq_true rfl) ⟨by omega, by omega⟩ ⟨by omega, by omega⟩ (fun r h2 hF => ?_)
      obtain ⟨_, rfl, rfl, rfl⟩ := hF
      show wM p l e R s m args below meth c ck cn Q 7 D dA b0 ad S0 1472 [some (.ref 99999), some (.ref 0), some (.ref 188), some (.ref 233), some (.int v4), none, none] [.int yr190.1, .int yr189.1] yr190.2
      refine w_icmp_eq X dL_law_1472 rfl (t := 1477) rfl (fun hc => ?_) (fun hc => ?_)
      · have hf := wok_t hf hc
        exact pL_law_b1477_23 X hr hsc hR hN hX0 hf
      · have hf := wok_f hf hc
        refine w_iconst X dL_law_1475 rfl ci_0 ?_
        exact wok_n hf
    have hf := wok_f hf yhs187
    refine w_swOut X dL_law_40 (t := 1477) rfl (by have := lv_neT yhs22 (a := 0) (by decide); have := lv_neT yhs31 (a := 1) (by decide); have := lv_neT yhs34 (a := 2) (by decide); have := lv_neT yhs37 (a := 3) (by decide); have := lv_neT yhs42 (a := 4) (by decide); have := lv_neT yhs47 (a := 5) (by decide); have := lv_neT yhs52 (a := 6) (by decide); have := lv_neT yhs58 (a := 7) (by decide); have := lv_neT yhs63 (a := 8) (by decide); have := lv_neT yhs69 (a := 9) (by decide); have := lv_neT yhs73 (a := 10) (by decide); have := lv_neT yhs77 (a := 11) (by decide); have := lv_neT yhs80 (a := 12) (by decide); have := lv_neT yhs83 (a := 13) (by decide); have := lv_neT yhs87 (a := 14) (by decide); have := lv_neT yhs93 (a := 15) (by decide); have := lv_neT yhs97 (a := 16) (by decide); have := lv_neT yhs101 (a := 17) (by decide); have := lv_neT yhs104 (a := 18) (by decide); have := lv_neT yhs109 (a := 19) (by decide); have := lv_neT yhs114 (a := 20) (by decide); have := lv_neT yhs118 (a := 21) (by decide); have := lv_neT yhs123 (a := 22) (by decide); have := lv_neT yhs127 (a := 23) (by decide); have := lv_neT yhs131 (a := 24) (by decide); have := lv_neT yhs135 (a := 25) (by decide); have := lv_neT yhs138 (a := 26) (by decide); have := lv_neT yhs141 (a := 27) (by decide); have := lv_neT yhs145 (a := 28) (by decide); have := lv_neT yhs156 (a := 29) (by decide); have := lv_neT yhs159 (a := 30) (by decide); have := lv_neT yhs163 (a := 31) (by decide); have := lv_neT yhs169 (a := 32) (by decide); have := lv_neT yhs174 (a := 33) (by decide); have := lv_neT yhs180 (a := 34) (by decide); have := lv_neT yhs187 (a := 35) (by decide); omega) ?_
    exact pL_law_b1477_23 X hr hsc hR hN hX0 hf
end WLW

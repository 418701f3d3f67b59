/-! LONGS (the family wb of the kit's BITS, pasted) -/
theorem wb_tb (n : Nat) : (lN n).toBitVec = BitVec.ofNat 64 n := rfl
theorem wb_inj {a b : Int64} (h : a.toBitVec = b.toBitVec) : a = b := Int64.toBitVec_inj.mp h
theorem wb_tn {n : Nat} (h : n < 2 ^ 64) : (lN n).toBitVec.toNat = n := by rw [wb_tb, BitVec.toNat_ofNat, Nat.mod_eq_of_lt h]
theorem wb_of (x : Int64) : ∃ n, n < 2 ^ 64 ∧ x = lN n := ⟨x.toBitVec.toNat, x.toBitVec.isLt, wb_inj (by rw [wb_tb]; simp)⟩
theorem wb_of32 (x : Int32) : ∃ n, n < 2 ^ 32 ∧ x = nI n := ⟨x.toBitVec.toNat, x.toBitVec.isLt, Int32.toBitVec_inj.mp (by show _ = BitVec.ofNat 32 _; simp)⟩
theorem wb_c : ∀ k, k < 64 → ((nI k).toInt64 &&& 63) = lN k := by decide +kernel
theorem wb_cu : ∀ k, k < 64 → ((nI k).toInt64.toUInt64 &&& Int64.toUInt64 63) = UInt64.ofNat k := by decide +kernel
theorem wb_sm : ∀ k, k < 64 → (BitVec.ofNat 64 k).smod 64 = BitVec.ofNat 64 k := by decide +kernel
theorem wb_pw {a b : Nat} (h : a ≤ b) : 2 ^ b = 2 ^ a * 2 ^ (b - a) := by rw [← Nat.pow_add]; congr 1; omega
theorem wb_lt2 {a b : Nat} (h : a < b) : 2 ^ a < 2 ^ b := Nat.pow_lt_pow_right (by decide) h
theorem wb_mod (n : Nat) : lN n = lN (n % 2 ^ 64) := wb_inj (by rw [wb_tb, wb_tb]; apply BitVec.eq_of_toNat_eq; rw [BitVec.toNat_ofNat, BitVec.toNat_ofNat, Nat.mod_mod])
theorem wb_shr {n k : Nat} (hn : n < 2 ^ 64) (hk : k < 64) : ((lN n).toUInt64 >>> ((nI k).toInt64.toUInt64 &&& Int64.toUInt64 63)).toInt64 = lN (n / 2 ^ k) := by
  rw [wb_cu k hk]
  apply wb_inj
  apply BitVec.eq_of_toNat_eq
  show ((lN n).toUInt64 >>> UInt64.ofNat k).toNat = (BitVec.ofNat 64 _).toNat
  have h1 : (UInt64.ofNat k).toNat = k := by
    show (BitVec.ofNat 64 k).toNat = k
    rw [BitVec.toNat_ofNat, Nat.mod_eq_of_lt (by omega)]
  have h2 : (lN n).toUInt64.toNat = n := wb_tn hn
  rw [UInt64.toNat_shiftRight, h1, h2, Nat.mod_eq_of_lt hk, Nat.shiftRight_eq_div_pow, BitVec.toNat_ofNat, Nat.mod_eq_of_lt (Nat.lt_of_le_of_lt (Nat.div_le_self _ _) hn)]
theorem wb_shl (n : Nat) {k : Nat} (hk : k < 64) : lN n <<< ((nI k).toInt64 &&& 63) = lN (n * 2 ^ k) := by
  rw [wb_c k hk]
  apply wb_inj
  rw [Int64.toBitVec_shiftLeft, wb_tb, wb_tb, wb_tb, wb_sm k hk]
  apply BitVec.eq_of_toNat_eq
  rw [BitVec.shiftLeft_eq', BitVec.toNat_shiftLeft, BitVec.toNat_ofNat, BitVec.toNat_ofNat, BitVec.toNat_ofNat, Nat.mod_eq_of_lt (show k < 2 ^ 64 by omega), Nat.shiftLeft_eq, Nat.mul_mod, Nat.mod_mod, ← Nat.mul_mod]
theorem wb_and {a b : Nat} (ha : a < 2 ^ 64) (hb : b < 2 ^ 64) : lN a &&& lN b = lN (a &&& b) := by
  apply wb_inj
  rw [Int64.toBitVec_and, wb_tb, wb_tb, wb_tb]
  apply BitVec.eq_of_toNat_eq
  rw [BitVec.toNat_and, BitVec.toNat_ofNat, BitVec.toNat_ofNat, BitVec.toNat_ofNat, Nat.mod_eq_of_lt ha, Nat.mod_eq_of_lt hb, Nat.mod_eq_of_lt (Nat.and_lt_two_pow _ hb)]
theorem wb_or {a b : Nat} (ha : a < 2 ^ 64) (hb : b < 2 ^ 64) : lN a ||| lN b = lN (a ||| b) := by
  apply wb_inj
  rw [Int64.toBitVec_or, wb_tb, wb_tb, wb_tb]
  apply BitVec.eq_of_toNat_eq
  rw [BitVec.toNat_or, BitVec.toNat_ofNat, BitVec.toNat_ofNat, BitVec.toNat_ofNat, Nat.mod_eq_of_lt ha, Nat.mod_eq_of_lt hb, Nat.mod_eq_of_lt (Nat.or_lt_two_pow ha hb)]
theorem wb_mask {n k : Nat} (hn : n < 2 ^ 64) (hk : k < 64) : lN n &&& lN (2 ^ k - 1) = lN (n % 2 ^ k) := by
  rw [wb_and hn (by have := wb_lt2 hk; omega), Nat.and_two_pow_sub_one_eq_mod]
theorem wb_a1 {n : Nat} (hn : n < 2 ^ 64) : lN n &&& 1 = lN (n % 2) := wb_mask (k := 1) hn (by decide)

/-! YEARS BY DRAWS -/
def gDr (g : Nat) : Nat := (g * 1103515245 + 12345) % 2147483648
def gDw (g m : Nat) : Nat := gDr g / 65536 % m
theorem gDr_lt (g : Nat) : gDr g < 2147483648 := Nat.mod_lt _ (by omega)
theorem gDw_lt (g : Nat) {m : Nat} (hm : 0 < m) : gDw g m < m := Nat.mod_lt _ hm
theorem l_a : (1103515245 : Int64) = lN 1103515245 := rfl
theorem l_b : (12345 : Int64) = lN 12345 := rfl
theorem l_c : (2147483647 : Int64) = lN (2 ^ 31 - 1) := rfl
theorem l_d : (2147483648 : Int64) = lN 2147483648 := rfl
theorem l_e : (65536 : Int64) = lN 65536 := rfl
theorem l_0 : (0 : Int64) = lN 0 := rfl
section G47
variable {h : wSt} {k : Nat} {L : gLib} {S : gSh} {u : gUn} {M : gMk} {Y : gYr} {N : gSn} {T : gTp}
theorem c_below {g m : Nat} (hg : h.2 134 0 = lN g) (hl : g < 2147483648) (hm : 0 < m) (hm2 : m < 1000) : fX1_below h (nI m) = some (nI (gDw g m), wuJ h 134 0 (lN (gDr g))) := by
  have e1 : (((h.2 134 0) * 1103515245) + 12345) &&& 2147483647 = lN (gDr g) := by
    rw [hg, l_a, l_b, l_c, lN_mul, lN_add, wb_mask (by omega) (by omega)]
    rfl
  have hd := gDr_lt g
  have e2 : ¬ (nI m).toInt64 = 0 := by
    rw [nI_l (by omega), l_0, pk_lEQ (by omega) (by omega)]
    omega
  have e3 : ((lN (gDr g) / 65536) - (lN (gDr g) / 65536) / (nI m).toInt64 * (nI m).toInt64).toInt32 = nI (gDw g m) := by
    rw [nI_l (by omega), l_e, pk_lDiv (by omega) (by omega) (by omega), pk_lRem (by omega) hm (by omega), lN_i]
    rfl
  unfold fX1_below
  rw [e1]
  show (if nI m ≤ 0 then _ else _) = _
  rw [if_neg (nI_nle hm (by omega)), if_pos e2, wv2, e3]
theorem r_draws {g m : Nat} (hg : h.2 188 58 = lN g) (hl : g < 2147483648) (hm : 0 < m) (hm2 : m < 1000) : fX11_draws h (nI m) = some (nI (gDw g m), wuJ h 188 58 (lN (gDr g))) := by
  have e1 : (((h.2 188 58) * 1103515245) + 12345) - (((h.2 188 58) * 1103515245) + 12345) / 2147483648 * 2147483648 = lN (gDr g) := by
    rw [hg, l_a, l_b, l_d, lN_mul, lN_add, pk_lRem (by omega) (by omega) (by omega)]
    rfl
  have hd := gDr_lt g
  have e2 : ¬ (nI m).toInt64 = 0 := by
    rw [nI_l (by omega), l_0, pk_lEQ (by omega) (by omega)]
    omega
  have e3 : ((lN (gDr g) / 65536) - (lN (gDr g) / 65536) / (nI m).toInt64 * (nI m).toInt64).toInt32 = nI (gDw g m) := by
    rw [nI_l (by omega), l_e, pk_lDiv (by omega) (by omega) (by omega), pk_lRem (by omega) hm (by omega), lN_i]
    rfl
  unfold fX11_draws
  rw [e1]
  show (if ¬ (nI m).toInt64 = 0 then _ else _) = _
  rw [if_pos e2, wv2, e3]
/-- one week by any draws: the code's own text with the draws left open -/
def lvC (F : wSt → Int32 → Option (Int32 × wSt)) (h : wSt) (k : Nat) : Option (Bool × wSt) :=
(F h (h.1 3 5)).bind (fun yr21 =>
(F yr21.2 (yr21.2.1 3 0)).bind (fun yr22 =>
(F yr22.2 (6 : Int32)).bind (fun yr23 =>
(fX6_writeIfCan yr23.2 k yr21.1 yr22.1 yr23.1).bind (fun yr24 =>
if yr24.1 = true then
some (true, yr24.2)
else
(F yr24.2 (3 : Int32)).bind (fun yr25 =>
if 2 ≤ yr25.1 then
some (false, yr25.2)
else
if yr25.1 = 0 then
fX6_liveByDraws_b72 yr25.2 k yr22.1 (63 : Int32)
else
fX6_liveByDraws_b72 yr25.2 k yr22.1 (9 : Int32))))))
theorem lvC_eq (h : wSt) (k : Nat) : fX6_liveByDraws h k = lvC fX1_below h k := rfl
def lvM (F : wSt → Int32 → Option (Int32 × wSt)) (h : wSt) : Option (Bool × wSt) :=
if (h.1 190 1) ≤ 0 then
fX11_livesWeek_b129 h (0 : Int32)
else
if (h.1 190 0) ≤ 0 then
fX11_livesWeek_b129 h (0 : Int32)
else
(F h (h.1 190 1)).bind (fun yr23 =>
(F yr23.2 (yr23.2.1 190 0)).bind (fun yr24 =>
(F yr24.2 (6 : Int32)).bind (fun yr25 =>
(fX11_canWrite yr25.2 yr23.1 yr24.1 yr25.1).bind (fun yr26 =>
if yr26 = true then
fX11_livesWeek_b72 yr25.2 (wb yr26) yr23.1 yr24.1 yr25.1 (2 : Int32)
else
(F yr25.2 (3 : Int32)).bind (fun yr27 =>
fX11_livesWeek_b72 yr27.2 (wb yr26) yr23.1 yr24.1 yr25.1 yr27.1)))))
theorem lvM_eq (h : wSt) : fX11_livesWeek h = lvM fX11_draws h := rfl
def gDWc (F : wSt → Int32 → Option (Int32 × wSt)) (D : Nat → Nat) (Wd : Nat → Nat → Nat) : Prop := (∀ g, D g < 2147483648) ∧ (∀ g m, 0 < m → Wd g m < m) ∧ (∀ (h : wSt) (g m : Nat), h.2 134 0 = lN g → g < 2147483648 → 0 < m → m < 1000 → F h (nI m) = some (nI (Wd g m), wuJ h 134 0 (lN (D g))))
def gDWm (F : wSt → Int32 → Option (Int32 × wSt)) (D : Nat → Nat) (Wd : Nat → Nat → Nat) : Prop := (∀ g, D g < 2147483648) ∧ (∀ g m, 0 < m → Wd g m < m) ∧ (∀ (h : wSt) (g m : Nat), h.2 188 58 = lN g → g < 2147483648 → 0 < m → m < 1000 → F h (nI m) = some (nI (Wd g m), wuJ h 188 58 (lN (D g))))
theorem gDWc_0 : gDWc fX1_below gDr gDw := ⟨gDr_lt, fun g m hm => gDw_lt g hm, fun h g m h1 h2 h3 h4 => c_below h1 h2 h3 h4⟩
theorem gDWm_0 : gDWm fX11_draws gDr gDw := ⟨gDr_lt, fun g m hm => gDw_lt g hm, fun h g m h1 h2 h3 h4 => r_draws h1 h2 h3 h4⟩
def gLv (D : Nat → Nat) (Wd : Nat → Nat → Nat) (L : gLib) (g : Nat) (S : gSh) : Bool × Nat × gSh :=
  if gnt L = 0 ∨ gns L = 0 then (false, g, S)
  else if gCan L S (Wd g (gnt L)) (Wd (D g) (gns L)) (Wd (D (D g)) 6) then (true, D (D (D g)), gPut L (Wd g (gnt L)) (Wd (D g) (gns L)) (Wd (D (D g)) 6) S)
  else (false, D (D (D (D g))), if 2 ≤ Wd (D (D (D g))) 3 then S else gRub L (Wd (D g) (gns L)) (if Wd (D (D (D g))) 3 = 0 then 63 else 9) S)
theorem gLv_week (D : Nat → Nat) (Wd : Nat → Nat → Nat) (L : gLib) (g : Nat) (S : gSh) : (gLv D Wd L g S).2.2.1 = S.1 := by
  unfold gLv
  split
  · rfl
  · split
    · exact gPut_week _ _ _ _ _
    · show (if _ then S else gRub _ _ _ S).1 = S.1
      split
      · rfl
      · exact gRub_week _ _ _ _
theorem gLv_lt {D : Nat → Nat} (Wd : Nat → Nat → Nat) (hD : ∀ g, D g < 2147483648) (L : gLib) {g : Nat} (S : gSh) (hg : g < 2147483648) : (gLv D Wd L g S).2.1 < 2147483648 := by
  unfold gLv
  split
  · exact hg
  · split
    · exact hD _
    · exact hD _
def s134 (c : Nat) : Prop := c = 134
def sY (c : Nat) : Prop := c = 134 ∨ (34 ≤ c ∧ c ≤ 38)
theorem CX_134 (hx : CX h L 34 S) (x : Int64) : CX (wuJ h 134 0 x) L 34 S ∧ fr s134 h (wuJ h 134 0 x) := by
  obtain ⟨hW, hC, hV, hS, hk⟩ := hx
  have f : fr s134 h (wuJ h 134 0 x) := fr_wuJ rfl
  exact ⟨⟨hW, CL_fr hC f (fun c _ _ => by unfold s134; omega), hV, SH_fr hS f (fun c _ _ => by unfold s134; omega), hk⟩, f⟩
theorem MX_188 (hx : MX h L S) (x : Int64) : MX (wuJ h 188 58 x) L S ∧ fr (fun c => c = 188) h (wuJ h 188 58 x) := by
  obtain ⟨hW, hC, hV, hS⟩ := hx
  have f : fr (fun c => c = 188) h (wuJ h 188 58 x) := fr_wuJ rfl
  exact ⟨⟨hW, ML_fr hC f (fun c _ _ => by omega), hV, MS_fr hS f (by omega)⟩, f⟩
theorem c_live {F : wSt → Int32 → Option (Int32 × wSt)} {D : Nat → Nat} {Wd : Nat → Nat → Nat} (DW : gDWc F D Wd) (hx : CX h L 34 S) {g : Nat} (hg : h.2 134 0 = lN g) (hl : g < 2147483648) (h1 : 0 < gnt L) (h2 : 0 < gns L) : ∃ q, lvC F h 34 = some ((gLv D Wd L g S).1, q) ∧ CX q L 34 (gLv D Wd L g S).2.2 ∧ q.2 134 0 = lN (gLv D Wd L g S).2.1 ∧ fr sY h q := by
  have n1 := hx.1.1
  have n2 := hx.1.2.1
  have c1 := hx.2.1.1
  have c2 := hx.2.1.2.1
  have b1 := DW.2.2 _ _ (gnt L) hg hl h1 (by omega)
  obtain ⟨x1, f1⟩ := CX_134 hx (lN (D g))
  have c3 := x1.2.1.1
  have b2 := DW.2.2 (wuJ h 134 0 (lN (D g))) _ (gns L) wv2 (DW.1 g) h2 (by omega)
  obtain ⟨x2, f2⟩ := CX_134 x1 (lN (D (D g)))
  have b3 := DW.2.2 (wuJ (wuJ h 134 0 (lN (D g))) 134 0 (lN (D (D g)))) _ (6) wv2 (DW.1 _) (by omega) (by omega)
  obtain ⟨x3, f3⟩ := CX_134 x2 (lN (D (D (D g))))
  have t1 := DW.2.1 g _ h1
  have t2 := DW.2.1 (D g) _ h2
  have t3 := DW.2.1 (D (D g)) _ (show 0 < 6 by omega)
  have f13 : fr sY h (wuJ (wuJ (wuJ h 134 0 (lN (D g))) 134 0 (lN (D (D g)))) 134 0 (lN (D (D (D g))))) := fr_mono (fr_tr f1 (fr_tr f2 f3)) (fun c q => Or.inl q)
  have a3 := c_can x3 t1 t2 (j := Wd (D (D g)) 6) (by omega)
  have c3' : h.1 3 0 = nI (gns L) := c3
  unfold gLv
  rw [if_neg (by omega)]
  cases hc : gCan L S (Wd g (gnt L)) (Wd (D g) (gns L)) (Wd (D (D g)) 6) with
  | true =>
    rw [hc] at a3
    rw [if_pos rfl]
    obtain ⟨q, e4, x4, f4⟩ := c_put x3 t1 t2 hc
    refine ⟨q, ?_, x4, ?_, fr_tr f13 (fr_mono f4 (fun c q => Or.inr q))⟩
    · simp (disch := omega) only [↓reduceIte, wlet, Option.bind_some, true_and, and_true, not_true_eq_false, not_false_eq_true, reduceCtorEq, n0_, n1_, n2_, n3_, n4_, n5_, n6_, n7_, n8_, n9_, n10_, n12_, n16_, n18_, n20_, n21_, n22_, n24_, n25_, n26_, n27_, n28_, n29_, n30_, n31_, n32_, n40_, n41_, n42_, n43_, n45_, n48_, n54_, n57_, n58_, n59_, n60_, n61_, n63_, n96_, n97_, n99_, n100_, n122_, n126_, n200_, n255_, n375_, n400_, n1000_, n2000_, n9999_, n5764801_, n1000000_, n3000_, m1, m2, le_t, le_f, lt_t, lt_f, eq_t, eq_f, no_lt, no_le, le_no, lt_no, eq_no, no_eq, add_no, wib_t, clamp, nI_add, pk_mul, pk_sub, nor_, nand_, ndif_, shl_, sh1_, shr_, tbn, tb0, tb1, les_t, les_f, pk_div, rem_, remv, and31, wu1, wuc, wui, wu2, ws1, wsc, ws2, wv1, n11_, n13_, n14_, n15_, n17_, n19_, n23_, n56_, n64_, lvC, fX6_writeIfCan, c2, c3', b1, b2, b3, a3, e4]
    · rw [(f4 134 (by unfold sk; omega)).2, wv2]
  | false =>
    rw [hc] at a3
    rw [if_neg (by decide)]
    have b4 := DW.2.2 (wuJ (wuJ (wuJ h 134 0 (lN (D g))) 134 0 (lN (D (D g)))) 134 0 (lN (D (D (D g))))) _ (3) wv2 (DW.1 _) (by omega) (by omega)
    obtain ⟨x4, f4⟩ := CX_134 x3 (lN (D (D (D (D g)))))
    have t4 := DW.2.1 (D (D (D g))) _ (show 0 < 3 by omega)
    have f14 := fr_tr f13 (fr_mono f4 (fun c q => Or.inl q : ∀ c, s134 c → sY c))
    by_cases hq : 2 ≤ Wd (D (D (D g))) 3
    · rw [if_pos hq]
      refine ⟨_, ?_, x4, wv2, f14⟩
      simp (disch := omega) only [↓reduceIte, wlet, Option.bind_some, true_and, and_true, not_true_eq_false, not_false_eq_true, reduceCtorEq, n0_, n1_, n2_, n3_, n4_, n5_, n6_, n7_, n8_, n9_, n10_, n12_, n16_, n18_, n20_, n21_, n22_, n24_, n25_, n26_, n27_, n28_, n29_, n30_, n31_, n32_, n40_, n41_, n42_, n43_, n45_, n48_, n54_, n57_, n58_, n59_, n60_, n61_, n63_, n96_, n97_, n99_, n100_, n122_, n126_, n200_, n255_, n375_, n400_, n1000_, n2000_, n9999_, n5764801_, n1000000_, n3000_, m1, m2, le_t, le_f, lt_t, lt_f, eq_t, eq_f, no_lt, no_le, le_no, lt_no, eq_no, no_eq, add_no, wib_t, clamp, nI_add, pk_mul, pk_sub, nor_, nand_, ndif_, shl_, sh1_, shr_, tbn, tb0, tb1, les_t, les_f, pk_div, rem_, remv, and31, wu1, wuc, wui, wu2, ws1, wsc, ws2, wv1, n11_, n13_, n14_, n15_, n17_, n19_, n23_, n56_, n64_, lvC, fX6_writeIfCan, c2, c3', b1, b2, b3, a3, b4, Option.isSome_none, Option.isSome_some, Bool.false_eq_true]
    · rw [if_neg hq]
      by_cases h0 : Wd (D (D (D g))) 3 = 0
      · rw [if_pos h0]
        obtain ⟨q, e5, x5, f5⟩ := c_rub x4 (m := 63) t2
        refine ⟨q, ?_, x5, ?_, fr_tr f14 (fr_mono f5 (fun c q => Or.inr q))⟩
        · simp (disch := omega) only [↓reduceIte, wlet, Option.bind_some, true_and, and_true, not_true_eq_false, not_false_eq_true, reduceCtorEq, n0_, n1_, n2_, n3_, n4_, n5_, n6_, n7_, n8_, n9_, n10_, n12_, n16_, n18_, n20_, n21_, n22_, n24_, n25_, n26_, n27_, n28_, n29_, n30_, n31_, n32_, n40_, n41_, n42_, n43_, n45_, n48_, n54_, n57_, n58_, n59_, n60_, n61_, n63_, n96_, n97_, n99_, n100_, n122_, n126_, n200_, n255_, n375_, n400_, n1000_, n2000_, n9999_, n5764801_, n1000000_, n3000_, m1, m2, le_t, le_f, lt_t, lt_f, eq_t, eq_f, no_lt, no_le, le_no, lt_no, eq_no, no_eq, add_no, wib_t, clamp, nI_add, pk_mul, pk_sub, nor_, nand_, ndif_, shl_, sh1_, shr_, tbn, tb0, tb1, les_t, les_f, pk_div, rem_, remv, and31, wu1, wuc, wui, wu2, ws1, wsc, ws2, wv1, n11_, n13_, n14_, n15_, n17_, n19_, n23_, n56_, n64_, lvC, fX6_liveByDraws_b72, fX6_writeIfCan, c2, c3', b1, b2, b3, a3, b4, h0, e5, Option.isSome_none, Option.isSome_some, Bool.false_eq_true]
        · rw [(f5 134 (by unfold sk; omega)).2, wv2]
      · rw [if_neg h0]
        obtain ⟨q, e5, x5, f5⟩ := c_rub x4 (m := 9) t2
        refine ⟨q, ?_, x5, ?_, fr_tr f14 (fr_mono f5 (fun c q => Or.inr q))⟩
        · simp (disch := omega) only [↓reduceIte, wlet, Option.bind_some, true_and, and_true, not_true_eq_false, not_false_eq_true, reduceCtorEq, n0_, n1_, n2_, n3_, n4_, n5_, n6_, n7_, n8_, n9_, n10_, n12_, n16_, n18_, n20_, n21_, n22_, n24_, n25_, n26_, n27_, n28_, n29_, n30_, n31_, n32_, n40_, n41_, n42_, n43_, n45_, n48_, n54_, n57_, n58_, n59_, n60_, n61_, n63_, n96_, n97_, n99_, n100_, n122_, n126_, n200_, n255_, n375_, n400_, n1000_, n2000_, n9999_, n5764801_, n1000000_, n3000_, m1, m2, le_t, le_f, lt_t, lt_f, eq_t, eq_f, no_lt, no_le, le_no, lt_no, eq_no, no_eq, add_no, wib_t, clamp, nI_add, pk_mul, pk_sub, nor_, nand_, ndif_, shl_, sh1_, shr_, tbn, tb0, tb1, les_t, les_f, pk_div, rem_, remv, and31, wu1, wuc, wui, wu2, ws1, wsc, ws2, wv1, n11_, n13_, n14_, n15_, n17_, n19_, n23_, n56_, n64_, lvC, fX6_liveByDraws_b72, fX6_writeIfCan, c2, c3', b1, b2, b3, a3, b4, e5, Option.isSome_none, Option.isSome_some, Bool.false_eq_true]
        · rw [(f5 134 (by unfold sk; omega)).2, wv2]
def sZ (c : Nat) : Prop := c = 188 ∨ c = 225
theorem r_129 (hx : MX h L S) (b : Bool) (hw : S.1 + 1 < 1048576) : fX11_livesWeek_b129 h (nI b.toNat) = some (b, wuI h 225 0 (nI (S.1 + 1))) := by
  have s0 := hx.2.2.2.1
  cases b
  · simp (disch := omega) only [↓reduceIte, wlet, Option.bind_some, true_and, and_true, not_true_eq_false, not_false_eq_true, reduceCtorEq, n0_, n1_, n2_, n3_, n4_, n5_, n6_, n7_, n8_, n9_, n10_, n12_, n16_, n18_, n20_, n21_, n22_, n24_, n25_, n26_, n27_, n28_, n29_, n30_, n31_, n32_, n40_, n41_, n42_, n43_, n45_, n48_, n54_, n57_, n58_, n59_, n60_, n61_, n63_, n96_, n97_, n99_, n100_, n122_, n126_, n200_, n255_, n375_, n400_, n1000_, n2000_, n9999_, n5764801_, n1000000_, n3000_, m1, m2, le_t, le_f, lt_t, lt_f, eq_t, eq_f, no_lt, no_le, le_no, lt_no, eq_no, no_eq, add_no, wib_t, clamp, nI_add, pk_mul, pk_sub, nor_, nand_, ndif_, shl_, sh1_, shr_, tbn, tb0, tb1, les_t, les_f, pk_div, rem_, remv, and31, wu1, wuc, wui, wu2, ws1, wsc, ws2, wv1, n11_, n13_, n14_, n15_, n17_, n19_, n23_, n56_, n64_, fX11_livesWeek_b129, s0, Bool.toNat_false, true_or, decide_false, decide_true]
  · simp (disch := omega) only [↓reduceIte, wlet, Option.bind_some, true_and, and_true, not_true_eq_false, not_false_eq_true, reduceCtorEq, n0_, n1_, n2_, n3_, n4_, n5_, n6_, n7_, n8_, n9_, n10_, n12_, n16_, n18_, n20_, n21_, n22_, n24_, n25_, n26_, n27_, n28_, n29_, n30_, n31_, n32_, n40_, n41_, n42_, n43_, n45_, n48_, n54_, n57_, n58_, n59_, n60_, n61_, n63_, n96_, n97_, n99_, n100_, n122_, n126_, n200_, n255_, n375_, n400_, n1000_, n2000_, n9999_, n5764801_, n1000000_, n3000_, m1, m2, le_t, le_f, lt_t, lt_f, eq_t, eq_f, no_lt, no_le, le_no, lt_no, eq_no, no_eq, add_no, wib_t, clamp, nI_add, pk_mul, pk_sub, nor_, nand_, ndif_, shl_, sh1_, shr_, tbn, tb0, tb1, les_t, les_f, pk_div, rem_, remv, and31, wu1, wuc, wui, wu2, ws1, wsc, ws2, wv1, n11_, n13_, n14_, n15_, n17_, n19_, n23_, n56_, n64_, fX11_livesWeek_b129, s0, Bool.toNat_true, or_true, decide_false, decide_true]
theorem r_live {F : wSt → Int32 → Option (Int32 × wSt)} {D : Nat → Nat} {Wd : Nat → Nat → Nat} (DW : gDWm F D Wd) (hx : MX h L S) {g : Nat} (hg : h.2 188 58 = lN g) (hl : g < 2147483648) (hw : S.1 + 1 < 1048576) : ∃ q, lvM F h = some ((gLv D Wd L g S).1, q) ∧ MX q L ((gLv D Wd L g S).2.2.1 + 1, (gLv D Wd L g S).2.2.2) ∧ q.2 188 58 = lN (gLv D Wd L g S).2.1 ∧ q.1 188 = h.1 188 ∧ fr sZ h q := by
  have n1 := hx.1.1
  have n2 := hx.1.2.1
  have c1 := hx.2.1.1
  have c2 := hx.2.1.2.1
  have f25 : ∀ {q : wSt} {x : Int32}, fr sZ q (wuI q 225 0 x) := fun {q x} => fr_wuI (Or.inr rfl)
  by_cases h0 : gnt L = 0 ∨ gns L = 0
  · obtain ⟨x1, f1⟩ := MX_week hx hw
    have e1 := r_129 hx false hw
    have e1 : fX11_livesWeek_b129 h (nI 0) = some (false, wuI h 225 0 (nI (S.1 + 1))) := e1
    unfold gLv
    rw [if_pos h0]
    refine ⟨_, ?_, x1, hg, ?_, f25⟩
    · rcases h0 with q | q
      · simp (disch := omega) only [↓reduceIte, wlet, Option.bind_some, true_and, and_true, not_true_eq_false, not_false_eq_true, reduceCtorEq, n0_, n1_, n2_, n3_, n4_, n5_, n6_, n7_, n8_, n9_, n10_, n12_, n16_, n18_, n20_, n21_, n22_, n24_, n25_, n26_, n27_, n28_, n29_, n30_, n31_, n32_, n40_, n41_, n42_, n43_, n45_, n48_, n54_, n57_, n58_, n59_, n60_, n61_, n63_, n96_, n97_, n99_, n100_, n122_, n126_, n200_, n255_, n375_, n400_, n1000_, n2000_, n9999_, n5764801_, n1000000_, n3000_, m1, m2, le_t, le_f, lt_t, lt_f, eq_t, eq_f, no_lt, no_le, le_no, lt_no, eq_no, no_eq, add_no, wib_t, clamp, nI_add, pk_mul, pk_sub, nor_, nand_, ndif_, shl_, sh1_, shr_, tbn, tb0, tb1, les_t, les_f, pk_div, rem_, remv, and31, wu1, wuc, wui, wu2, ws1, wsc, ws2, wv1, n11_, n13_, n14_, n15_, n17_, n19_, n23_, n56_, n64_, lvM, c2, q, e1]
      · by_cases q2 : gnt L = 0
        · simp (disch := omega) only [↓reduceIte, wlet, Option.bind_some, true_and, and_true, not_true_eq_false, not_false_eq_true, reduceCtorEq, n0_, n1_, n2_, n3_, n4_, n5_, n6_, n7_, n8_, n9_, n10_, n12_, n16_, n18_, n20_, n21_, n22_, n24_, n25_, n26_, n27_, n28_, n29_, n30_, n31_, n32_, n40_, n41_, n42_, n43_, n45_, n48_, n54_, n57_, n58_, n59_, n60_, n61_, n63_, n96_, n97_, n99_, n100_, n122_, n126_, n200_, n255_, n375_, n400_, n1000_, n2000_, n9999_, n5764801_, n1000000_, n3000_, m1, m2, le_t, le_f, lt_t, lt_f, eq_t, eq_f, no_lt, no_le, le_no, lt_no, eq_no, no_eq, add_no, wib_t, clamp, nI_add, pk_mul, pk_sub, nor_, nand_, ndif_, shl_, sh1_, shr_, tbn, tb0, tb1, les_t, les_f, pk_div, rem_, remv, and31, wu1, wuc, wui, wu2, ws1, wsc, ws2, wv1, n11_, n13_, n14_, n15_, n17_, n19_, n23_, n56_, n64_, lvM, c2, q2, e1]
        · simp (disch := omega) only [↓reduceIte, wlet, Option.bind_some, true_and, and_true, not_true_eq_false, not_false_eq_true, reduceCtorEq, n0_, n1_, n2_, n3_, n4_, n5_, n6_, n7_, n8_, n9_, n10_, n12_, n16_, n18_, n20_, n21_, n22_, n24_, n25_, n26_, n27_, n28_, n29_, n30_, n31_, n32_, n40_, n41_, n42_, n43_, n45_, n48_, n54_, n57_, n58_, n59_, n60_, n61_, n63_, n96_, n97_, n99_, n100_, n122_, n126_, n200_, n255_, n375_, n400_, n1000_, n2000_, n9999_, n5764801_, n1000000_, n3000_, m1, m2, le_t, le_f, lt_t, lt_f, eq_t, eq_f, no_lt, no_le, le_no, lt_no, eq_no, no_eq, add_no, wib_t, clamp, nI_add, pk_mul, pk_sub, nor_, nand_, ndif_, shl_, sh1_, shr_, tbn, tb0, tb1, les_t, les_f, pk_div, rem_, remv, and31, wu1, wuc, wui, wu2, ws1, wsc, ws2, wv1, n11_, n13_, n14_, n15_, n17_, n19_, n23_, n56_, n64_, lvM, c1, c2, q, e1]
    · exact wuc (by omega)
  · have h1 : 0 < gnt L := by omega
    have h2 : 0 < gns L := by omega
    have b1 := DW.2.2 _ _ (gnt L) hg hl h1 (by omega)
    obtain ⟨x1, f1⟩ := MX_188 hx (lN (D g))
    have b2 := DW.2.2 (wuJ h 188 58 (lN (D g))) _ (gns L) wv2 (DW.1 g) h2 (by omega)
    obtain ⟨x2, f2⟩ := MX_188 x1 (lN (D (D g)))
    have b3 := DW.2.2 (wuJ (wuJ h 188 58 (lN (D g))) 188 58 (lN (D (D g)))) _ (6) wv2 (DW.1 _) (by omega) (by omega)
    obtain ⟨x3, f3⟩ := MX_188 x2 (lN (D (D (D g))))
    have t1 := DW.2.1 g _ h1
    have t2 := DW.2.1 (D g) _ h2
    have t3 := DW.2.1 (D (D g)) _ (show 0 < 6 by omega)
    have f13 : fr sZ h (wuJ (wuJ (wuJ h 188 58 (lN (D g))) 188 58 (lN (D (D g)))) 188 58 (lN (D (D (D g))))) := fr_mono (fr_tr f1 (fr_tr f2 f3)) (fun c q => Or.inl q)
    have a3 := r_can x3 t1 t2 (j := Wd (D (D g)) 6) (by omega)
    unfold gLv
    rw [if_neg h0]
    cases hc : gCan L S (Wd g (gnt L)) (Wd (D g) (gns L)) (Wd (D (D g)) 6) with
    | true =>
      rw [hc] at a3
      rw [if_pos rfl]
      obtain ⟨q, e4, x4, f4⟩ := r_put x3 t1 t2 hc
      have hw2 : (gPut L (Wd g (gnt L)) (Wd (D g) (gns L)) (Wd (D (D g)) 6) S).1 + 1 < 1048576 := by rw [gPut_week]; exact hw
      have e5 := r_129 x4 true hw2
      have e5 : fX11_livesWeek_b129 q (nI 1) = _ := e5
      obtain ⟨x5, f5⟩ := MX_week x4 hw2
      refine ⟨_, ?_, x5, ?_, ?_, fr_tr f13 (fr_tr (fr_mono f4 (fun c q => Or.inr q)) f25)⟩
      · simp (disch := omega) only [↓reduceIte, wlet, Option.bind_some, true_and, and_true, not_true_eq_false, not_false_eq_true, reduceCtorEq, n0_, n1_, n2_, n3_, n4_, n5_, n6_, n7_, n8_, n9_, n10_, n12_, n16_, n18_, n20_, n21_, n22_, n24_, n25_, n26_, n27_, n28_, n29_, n30_, n31_, n32_, n40_, n41_, n42_, n43_, n45_, n48_, n54_, n57_, n58_, n59_, n60_, n61_, n63_, n96_, n97_, n99_, n100_, n122_, n126_, n200_, n255_, n375_, n400_, n1000_, n2000_, n9999_, n5764801_, n1000000_, n3000_, m1, m2, le_t, le_f, lt_t, lt_f, eq_t, eq_f, no_lt, no_le, le_no, lt_no, eq_no, no_eq, add_no, wib_t, clamp, nI_add, pk_mul, pk_sub, nor_, nand_, ndif_, shl_, sh1_, shr_, tbn, tb0, tb1, les_t, les_f, pk_div, rem_, remv, and31, wu1, wuc, wui, wu2, ws1, wsc, ws2, wv1, n11_, n13_, n14_, n15_, n17_, n19_, n23_, n56_, n64_, lvM, fX11_livesWeek_b72, fX11_livesWeek_b86, c1, c2, b1, b2, b3, a3, wb_nat, Bool.toNat_true, e4, e5]
      · rw [wu2, (f4 188 (by unfold s225; omega)).2, wv2]
      · rw [wuc (by omega), fr_at f4 (by unfold s225; omega)]; rfl
    | false =>
      rw [hc] at a3
      rw [if_neg (by decide)]
      have b4 := DW.2.2 (wuJ (wuJ (wuJ h 188 58 (lN (D g))) 188 58 (lN (D (D g)))) 188 58 (lN (D (D (D g))))) _ (3) wv2 (DW.1 _) (by omega) (by omega)
      obtain ⟨x4, f4⟩ := MX_188 x3 (lN (D (D (D (D g)))))
      have t4 := DW.2.1 (D (D (D g))) _ (show 0 < 3 by omega)
      have f14 := fr_tr f13 (fr_mono f4 (fun c q => Or.inl q : ∀ c, c = 188 → sZ c))
      by_cases hq : 2 ≤ Wd (D (D (D g))) 3
      · rw [if_pos hq]
        have e5 := r_129 x4 false hw
        have e5 : fX11_livesWeek_b129 _ (nI 0) = _ := e5
        obtain ⟨x5, f5⟩ := MX_week x4 hw
        refine ⟨_, ?_, x5, ?_, ?_, fr_tr f14 f25⟩
        · simp (disch := omega) only [↓reduceIte, wlet, Option.bind_some, true_and, and_true, not_true_eq_false, not_false_eq_true, reduceCtorEq, n0_, n1_, n2_, n3_, n4_, n5_, n6_, n7_, n8_, n9_, n10_, n12_, n16_, n18_, n20_, n21_, n22_, n24_, n25_, n26_, n27_, n28_, n29_, n30_, n31_, n32_, n40_, n41_, n42_, n43_, n45_, n48_, n54_, n57_, n58_, n59_, n60_, n61_, n63_, n96_, n97_, n99_, n100_, n122_, n126_, n200_, n255_, n375_, n400_, n1000_, n2000_, n9999_, n5764801_, n1000000_, n3000_, m1, m2, le_t, le_f, lt_t, lt_f, eq_t, eq_f, no_lt, no_le, le_no, lt_no, eq_no, no_eq, add_no, wib_t, clamp, nI_add, pk_mul, pk_sub, nor_, nand_, ndif_, shl_, sh1_, shr_, tbn, tb0, tb1, les_t, les_f, pk_div, rem_, remv, and31, wu1, wuc, wui, wu2, ws1, wsc, ws2, wv1, n11_, n13_, n14_, n15_, n17_, n19_, n23_, n56_, n64_, lvM, fX11_livesWeek_b72, fX11_livesWeek_b86, c1, c2, b1, b2, b3, a3, b4, wb_nat, Bool.toNat_false, e5, Option.isSome_none, Option.isSome_some, Bool.false_eq_true]
        · rw [wu2, wv2]
        · rw [wuc (by omega)]; rfl
      · rw [if_neg hq]
        have rub : ∀ m, ∃ q, fX11_livesWeek_b106 (wuJ (wuJ (wuJ (wuJ h 188 58 (lN (D g))) 188 58 (lN (D (D g)))) 188 58 (lN (D (D (D g))))) 188 58 (lN (D (D (D (D g)))))) (nI 0) (nI (Wd (D g) (gns L))) (nI (Wd (D (D (D g))) 3)) (nI (Wd (D g) (gns L))) (nI m) = (if S.2.2.1 (Wd (D g) (gns L)) &&& m = 0 then some (false, wuI (wuJ (wuJ (wuJ (wuJ h 188 58 (lN (D g))) 188 58 (lN (D (D g)))) 188 58 (lN (D (D (D g))))) 188 58 (lN (D (D (D (D g)))))) 225 0 (nI (S.1 + 1))) else if Wd (D (D (D g))) 3 = 0 then fX11_livesWeek_b126 (wuJ (wuJ (wuJ (wuJ h 188 58 (lN (D g))) 188 58 (lN (D (D g)))) 188 58 (lN (D (D (D g))))) 188 58 (lN (D (D (D (D g)))))) (nI 0) (nI (Wd (D g) (gns L))) (nI 63) else fX11_livesWeek_b126 (wuJ (wuJ (wuJ (wuJ h 188 58 (lN (D g))) 188 58 (lN (D (D g)))) 188 58 (lN (D (D (D g))))) 188 58 (lN (D (D (D (D g)))))) (nI 0) (nI (Wd (D g) (gns L))) (nI 9)) ∧ q = () := by
          intro m
          refine ⟨(), ?_, rfl⟩
          have e5 := r_129 x4 false hw
          have e5 : fX11_livesWeek_b129 _ (nI 0) = _ := e5
          have b5 := r_wear x4 (m := m) t2
          have hb := gWear_b hx.1 hx.2.2.1 (S.2.2.1 (Wd (D g) (gns L)) &&& m) (i := Wd (D g) (gns L)) (by omega)
          by_cases hz : S.2.2.1 (Wd (D g) (gns L)) &&& m = 0
          · rw [if_pos hz] at b5 ⊢
            simp (disch := omega) only [↓reduceIte, wlet, Option.bind_some, true_and, and_true, not_true_eq_false, not_false_eq_true, reduceCtorEq, n0_, n1_, n2_, n3_, n4_, n5_, n6_, n7_, n8_, n9_, n10_, n12_, n16_, n18_, n20_, n21_, n22_, n24_, n25_, n26_, n27_, n28_, n29_, n30_, n31_, n32_, n40_, n41_, n42_, n43_, n45_, n48_, n54_, n57_, n58_, n59_, n60_, n61_, n63_, n96_, n97_, n99_, n100_, n122_, n126_, n200_, n255_, n375_, n400_, n1000_, n2000_, n9999_, n5764801_, n1000000_, n3000_, m1, m2, le_t, le_f, lt_t, lt_f, eq_t, eq_f, no_lt, no_le, le_no, lt_no, eq_no, no_eq, add_no, wib_t, clamp, nI_add, pk_mul, pk_sub, nor_, nand_, ndif_, shl_, sh1_, shr_, tbn, tb0, tb1, les_t, les_f, pk_div, rem_, remv, and31, wu1, wuc, wui, wu2, ws1, wsc, ws2, wv1, n11_, n13_, n14_, n15_, n17_, n19_, n23_, n56_, n64_, fX11_livesWeek_b106, b5, e5]
          · rw [if_neg hz] at b5 ⊢
            by_cases h0 : Wd (D (D (D g))) 3 = 0
            · rw [if_pos h0]
              simp (disch := omega) only [↓reduceIte, wlet, Option.bind_some, true_and, and_true, not_true_eq_false, not_false_eq_true, reduceCtorEq, n0_, n1_, n2_, n3_, n4_, n5_, n6_, n7_, n8_, n9_, n10_, n12_, n16_, n18_, n20_, n21_, n22_, n24_, n25_, n26_, n27_, n28_, n29_, n30_, n31_, n32_, n40_, n41_, n42_, n43_, n45_, n48_, n54_, n57_, n58_, n59_, n60_, n61_, n63_, n96_, n97_, n99_, n100_, n122_, n126_, n200_, n255_, n375_, n400_, n1000_, n2000_, n9999_, n5764801_, n1000000_, n3000_, m1, m2, le_t, le_f, lt_t, lt_f, eq_t, eq_f, no_lt, no_le, le_no, lt_no, eq_no, no_eq, add_no, wib_t, clamp, nI_add, pk_mul, pk_sub, nor_, nand_, ndif_, shl_, sh1_, shr_, tbn, tb0, tb1, les_t, les_f, pk_div, rem_, remv, and31, wu1, wuc, wui, wu2, ws1, wsc, ws2, wv1, n11_, n13_, n14_, n15_, n17_, n19_, n23_, n56_, n64_, fX11_livesWeek_b106, b5, h0]
            · rw [if_neg h0]
              simp (disch := omega) only [↓reduceIte, wlet, Option.bind_some, true_and, and_true, not_true_eq_false, not_false_eq_true, reduceCtorEq, n0_, n1_, n2_, n3_, n4_, n5_, n6_, n7_, n8_, n9_, n10_, n12_, n16_, n18_, n20_, n21_, n22_, n24_, n25_, n26_, n27_, n28_, n29_, n30_, n31_, n32_, n40_, n41_, n42_, n43_, n45_, n48_, n54_, n57_, n58_, n59_, n60_, n61_, n63_, n96_, n97_, n99_, n100_, n122_, n126_, n200_, n255_, n375_, n400_, n1000_, n2000_, n9999_, n5764801_, n1000000_, n3000_, m1, m2, le_t, le_f, lt_t, lt_f, eq_t, eq_f, no_lt, no_le, le_no, lt_no, eq_no, no_eq, add_no, wib_t, clamp, nI_add, pk_mul, pk_sub, nor_, nand_, ndif_, shl_, sh1_, shr_, tbn, tb0, tb1, les_t, les_f, pk_div, rem_, remv, and31, wu1, wuc, wui, wu2, ws1, wsc, ws2, wv1, n11_, n13_, n14_, n15_, n17_, n19_, n23_, n56_, n64_, fX11_livesWeek_b106, b5]
        have fin : ∀ m, (Wd (D (D (D g))) 3 = 0 → m = 63) → (Wd (D (D (D g))) 3 ≠ 0 → m = 9) → ∃ q, fX11_livesWeek_b106 (wuJ (wuJ (wuJ (wuJ h 188 58 (lN (D g))) 188 58 (lN (D (D g)))) 188 58 (lN (D (D (D g))))) 188 58 (lN (D (D (D (D g)))))) (nI 0) (nI (Wd (D g) (gns L))) (nI (Wd (D (D (D g))) 3)) (nI (Wd (D g) (gns L))) (nI m) = some (false, q) ∧ MX q L ((gRub L (Wd (D g) (gns L)) m S).1 + 1, (gRub L (Wd (D g) (gns L)) m S).2) ∧ q.2 188 58 = lN (D (D (D (D g)))) ∧ q.1 188 = h.1 188 ∧ fr sZ h q := by
          intro m m1' m2'
          obtain ⟨-, e6, -⟩ := rub m
          rw [e6]
          by_cases hz : S.2.2.1 (Wd (D g) (gns L)) &&& m = 0
          · rw [if_pos hz, gRub_0 hz]
            obtain ⟨x5, f5⟩ := MX_week x4 hw
            exact ⟨_, rfl, x5, by rw [wu2, wv2], by rw [wuc (by omega)]; rfl, fr_tr f14 f25⟩
          · rw [if_neg hz]
            obtain ⟨q, e7, x7, f7⟩ := r_scrapes x4 t2 hz
            have hw2 : (gRub L (Wd (D g) (gns L)) m S).1 + 1 < 1048576 := by rw [gRub_week]; exact hw
            have e8 := r_129 x7 false hw2
            have e8 : fX11_livesWeek_b129 _ (nI 0) = _ := e8
            obtain ⟨x8, f8⟩ := MX_week x7 hw2
            refine ⟨_, ?_, x8, ?_, ?_, fr_tr f14 (fr_tr (fr_mono f7 (fun c q => Or.inr q)) f25)⟩
            · by_cases h0 : Wd (D (D (D g))) 3 = 0
              · rw [if_pos h0]
                rw [m1' h0] at e7
                simp (disch := omega) only [↓reduceIte, wlet, Option.bind_some, true_and, and_true, not_true_eq_false, not_false_eq_true, reduceCtorEq, n0_, n1_, n2_, n3_, n4_, n5_, n6_, n7_, n8_, n9_, n10_, n12_, n16_, n18_, n20_, n21_, n22_, n24_, n25_, n26_, n27_, n28_, n29_, n30_, n31_, n32_, n40_, n41_, n42_, n43_, n45_, n48_, n54_, n57_, n58_, n59_, n60_, n61_, n63_, n96_, n97_, n99_, n100_, n122_, n126_, n200_, n255_, n375_, n400_, n1000_, n2000_, n9999_, n5764801_, n1000000_, n3000_, m1, m2, le_t, le_f, lt_t, lt_f, eq_t, eq_f, no_lt, no_le, le_no, lt_no, eq_no, no_eq, add_no, wib_t, clamp, nI_add, pk_mul, pk_sub, nor_, nand_, ndif_, shl_, sh1_, shr_, tbn, tb0, tb1, les_t, les_f, pk_div, rem_, remv, and31, wu1, wuc, wui, wu2, ws1, wsc, ws2, wv1, n11_, n13_, n14_, n15_, n17_, n19_, n23_, n56_, n64_, fX11_livesWeek_b126, e7, e8]
              · rw [if_neg h0]
                rw [m2' h0] at e7
                simp (disch := omega) only [↓reduceIte, wlet, Option.bind_some, true_and, and_true, not_true_eq_false, not_false_eq_true, reduceCtorEq, n0_, n1_, n2_, n3_, n4_, n5_, n6_, n7_, n8_, n9_, n10_, n12_, n16_, n18_, n20_, n21_, n22_, n24_, n25_, n26_, n27_, n28_, n29_, n30_, n31_, n32_, n40_, n41_, n42_, n43_, n45_, n48_, n54_, n57_, n58_, n59_, n60_, n61_, n63_, n96_, n97_, n99_, n100_, n122_, n126_, n200_, n255_, n375_, n400_, n1000_, n2000_, n9999_, n5764801_, n1000000_, n3000_, m1, m2, le_t, le_f, lt_t, lt_f, eq_t, eq_f, no_lt, no_le, le_no, lt_no, eq_no, no_eq, add_no, wib_t, clamp, nI_add, pk_mul, pk_sub, nor_, nand_, ndif_, shl_, sh1_, shr_, tbn, tb0, tb1, les_t, les_f, pk_div, rem_, remv, and31, wu1, wuc, wui, wu2, ws1, wsc, ws2, wv1, n11_, n13_, n14_, n15_, n17_, n19_, n23_, n56_, n64_, fX11_livesWeek_b126, e7, e8]
            · rw [wu2, (f7 188 (by unfold s225; omega)).2, wv2]
            · rw [wuc (by omega), fr_at f7 (by unfold s225; omega)]; rfl
        by_cases h0 : Wd (D (D (D g))) 3 = 0
        · rw [if_pos h0]
          obtain ⟨q, e6, x6, g6, h6, f6⟩ := fin 63 (fun _ => rfl) (fun q => absurd h0 q)
          refine ⟨q, ?_, x6, g6, h6, f6⟩
          rw [h0] at e6
          simp (disch := omega) only [↓reduceIte, wlet, Option.bind_some, true_and, and_true, not_true_eq_false, not_false_eq_true, reduceCtorEq, n0_, n1_, n2_, n3_, n4_, n5_, n6_, n7_, n8_, n9_, n10_, n12_, n16_, n18_, n20_, n21_, n22_, n24_, n25_, n26_, n27_, n28_, n29_, n30_, n31_, n32_, n40_, n41_, n42_, n43_, n45_, n48_, n54_, n57_, n58_, n59_, n60_, n61_, n63_, n96_, n97_, n99_, n100_, n122_, n126_, n200_, n255_, n375_, n400_, n1000_, n2000_, n9999_, n5764801_, n1000000_, n3000_, m1, m2, le_t, le_f, lt_t, lt_f, eq_t, eq_f, no_lt, no_le, le_no, lt_no, eq_no, no_eq, add_no, wib_t, clamp, nI_add, pk_mul, pk_sub, nor_, nand_, ndif_, shl_, sh1_, shr_, tbn, tb0, tb1, les_t, les_f, pk_div, rem_, remv, and31, wu1, wuc, wui, wu2, ws1, wsc, ws2, wv1, n11_, n13_, n14_, n15_, n17_, n19_, n23_, n56_, n64_, lvM, fX11_livesWeek_b72, fX11_livesWeek_b86, c1, c2, b1, b2, b3, a3, b4, h0, wb_nat, Bool.toNat_false, e6, Option.isSome_none, Option.isSome_some, Bool.false_eq_true]
        · rw [if_neg h0]
          obtain ⟨q, e6, x6, g6, h6, f6⟩ := fin 9 (fun q => absurd q h0) (fun _ => rfl)
          refine ⟨q, ?_, x6, g6, h6, f6⟩
          simp (disch := omega) only [↓reduceIte, wlet, Option.bind_some, true_and, and_true, not_true_eq_false, not_false_eq_true, reduceCtorEq, n0_, n1_, n2_, n3_, n4_, n5_, n6_, n7_, n8_, n9_, n10_, n12_, n16_, n18_, n20_, n21_, n22_, n24_, n25_, n26_, n27_, n28_, n29_, n30_, n31_, n32_, n40_, n41_, n42_, n43_, n45_, n48_, n54_, n57_, n58_, n59_, n60_, n61_, n63_, n96_, n97_, n99_, n100_, n122_, n126_, n200_, n255_, n375_, n400_, n1000_, n2000_, n9999_, n5764801_, n1000000_, n3000_, m1, m2, le_t, le_f, lt_t, lt_f, eq_t, eq_f, no_lt, no_le, le_no, lt_no, eq_no, no_eq, add_no, wib_t, clamp, nI_add, pk_mul, pk_sub, nor_, nand_, ndif_, shl_, sh1_, shr_, tbn, tb0, tb1, les_t, les_f, pk_div, rem_, remv, and31, wu1, wuc, wui, wu2, ws1, wsc, ws2, wv1, n11_, n13_, n14_, n15_, n17_, n19_, n23_, n56_, n64_, lvM, fX11_livesWeek_b72, fX11_livesWeek_b86, c1, c2, b1, b2, b3, a3, b4, wb_nat, Bool.toNat_false, e6, Option.isSome_none, Option.isSome_some, Bool.false_eq_true]
end G47

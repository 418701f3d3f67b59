def fJ0_isLatin1_aae02 (h : wSt) (i : Nat) : Option (Bool) :=
if (1 : Int32) = 0 then
some false
else
if (0 : Int32) = 0 then
some true
else
some false
def fJ0_coder_7d493 (h : wSt) (i : Nat) : Option (Int32) :=
if (1 : Int32) = 0 then
if narrow .byte (.int (1 : Int32)) = .int (1 : Int32) then
some (1 : Int32)
else none
else
if narrow .byte (.int (0 : Int32)) = .int (0 : Int32) then
some (0 : Int32)
else none
def fJ0_length_8abf5 (h : wSt) (i : Nat) : Option (Int32) :=
(fJ0_coder_7d493 h i).bind (fun yr21 =>
some ((wslen i) >>> (yr21 &&& 31)))
def fJ1_canEncode_9a6ad (h : wSt) (x0 : Int32) : Option (Bool) :=
if x0 < 0 then
some false
else
if 255 < x0 then
some false
else
some true
def fJ1_indexOfChar_4cfef_l7 (h : wSt) (i0 : Nat) (v3 : Int32) (v4 : Int32) (v5 : Int32) : Option ((Int32) ⊕ ((Unit) ⊕ (Int32))) :=
if v3 ≤ v5 then
some (.inr (.inl ()))
else
if wib v5 (wSl.getD i0 0) then
if (wsbyt i0 v5.toNatClampNeg) = v4 then
some (.inr (.inr v5))
else
some (.inl (v5 + 1))
else none
def fJ1_indexOfChar_4cfef (h : wSt) (i0 : Nat) (x1 : Int32) (x2 : Int32) (x3 : Int32) : Option (Int32) :=
(wit (fun v : (Int32) => fJ1_indexOfChar_4cfef_l7 h i0 x3 x1.toInt8.toInt32 v) 3000 x2).bind (fun ye22 => match ye22 with
| .inl ye22v =>
some (-1 : Int32)
| .inr ye22r =>
some ye22r)
def fJ1_indexOf_4cfef (h : wSt) (i0 : Nat) (x1 : Int32) (x2 : Int32) (x3 : Int32) : Option (Int32) :=
(fJ1_canEncode_9a6ad h x1).bind (fun yr21 =>
if yr21 = true then
if (wmx x2 (0 : Int32)) < (wmn x3 (wslen i0)) then
(fJ1_indexOfChar_4cfef h i0 x1 (wmx x2 (0 : Int32)) (wmn x3 (wslen i0))).bind (fun yr22 =>
some yr22)
else
some (-1 : Int32)
else
some (-1 : Int32))
def fJ0_indexOf_7cf53 (h : wSt) (i : Nat) (x0 : Int32) (x1 : Int32) : Option (Int32) :=
(fJ0_isLatin1_aae02 h i).bind (fun yr21 =>
if yr21 = true then
(fJ0_length_8abf5 h i).bind (fun yr23 =>
(fJ1_indexOf_4cfef h i x0 x1 yr23).bind (fun yr24 =>
some yr24))
else
(fJ0_length_8abf5 h i).bind (fun yr22 =>
none))
def fJ0_indexOf_0f7a4 (h : wSt) (i : Nat) (x0 : Int32) : Option (Int32) :=
(fJ0_indexOf_7cf53 h i x0 (0 : Int32)).bind (fun yr21 =>
some yr21)
def fJ1_charAt_3b067 (h : wSt) (i0 : Nat) (x1 : Int32) : Option (Int32) :=
(fJ0_checkIndex_df160 h x1 (wslen i0)).bind (fun yr21 =>
if wib x1 (wSl.getD i0 0) then
if narrow .char (.int ((((wsbyt i0 x1.toNatClampNeg) &&& 255).toUInt32 % 65536).toInt32)) = .int ((((wsbyt i0 x1.toNatClampNeg) &&& 255).toUInt32 % 65536).toInt32) then
some ((((wsbyt i0 x1.toNatClampNeg) &&& 255).toUInt32 % 65536).toInt32)
else none
else none)
def fJ0_charAt_5068e (h : wSt) (i : Nat) (x0 : Int32) : Option (Int32) :=
(fJ0_isLatin1_aae02 h i).bind (fun yr21 =>
if yr21 = true then
(fJ1_charAt_3b067 h i x0).bind (fun yr22 =>
if narrow .char (.int yr22) = .int yr22 then
some yr22
else none)
else
none)
section WX
variable {p : Program} {l : Launch} {e : Env} {s : State} {m : MethodId} {args : Array Value} {below : List Frame} {meth : Method} {c : Code} {D : va_G} {dA : Nat → ClassId} {b0 : Nat} {ad : Nat → Nat} {F : Option Value → wSt → Prop}
set_option maxRecDepth 4000 in
theorem pJ0_isLatin1_aae02_b0 (X : wCx p s m args meth c RJ0 cJ0_isLatin1_aae02 1 D dA b0 ad) (hr : meth.sig.returnType = (some .boolean)) {h : wSt} {i : Nat} (hi : i < 25) {K : Bool → Prop} (hT : ∀ (x : Bool), K x → F (some (.int (wb x))) h) (hf : wok (fJ0_isLatin1_aae02 h i) K) : wM p l e (wR 1) s m args below meth c 0 0 (wE below args s D dA b0 ad S0 F) 1 D dA b0 ad S0 0 [some (.ref (100000 + i))] [] h := by
  unfold fJ0_isLatin1_aae02 at hf
  refine w_compact X dJ0_isLatin1_aae02_0 rfl wd_405 ?_
  refine w_if_eq X dJ0_isLatin1_aae02_3 rfl (t := 17) rfl (fun hc => ?_) (fun hc => ?_)
  · have hf := wok_t hf hc
    refine w_iconst X dJ0_isLatin1_aae02_17 rfl ci_0 ?_
    exact w_zret X dJ0_isLatin1_aae02_18 hr rfl (hT false (wok_s hf))
  · have hf := wok_f hf hc
    refine w_aload_n X dJ0_isLatin1_aae02_6 rfl rfl rfl ?_
    refine w_scod X dJ0_isLatin1_aae02_7 rfl wd_1815 hi ?_
    refine w_if_ne X dJ0_isLatin1_aae02_10 rfl (t := 17) rfl (fun hc => ?_) (fun hc => ?_)
    · have hf := wok_f hf hc
      refine w_iconst X dJ0_isLatin1_aae02_17 rfl ci_0 ?_
      exact w_zret X dJ0_isLatin1_aae02_18 hr rfl (hT false (wok_s hf))
    · have hf := wok_t hf hc
      refine w_iconst X dJ0_isLatin1_aae02_13 rfl ci_1 ?_
      refine w_goto X dJ0_isLatin1_aae02_14 (t := 18) rfl ?_
      exact w_zret X dJ0_isLatin1_aae02_18 hr rfl (hT true (wok_s hf))
set_option maxRecDepth 4000 in
theorem kJ0_isLatin1_aae02 (l : Launch) {h : wSt} {i : Nat} (hi : i < 25) {res : Bool} (hf : fJ0_isLatin1_aae02 h i = some res) : wC l yJ0_isLatin1_aae02 cJ0_isLatin1_aae02 1 (some .boolean) 1 S0 [.ref (100000 + i)] h (wFZ (fun a b => res = a ∧ h = b)) := by
  refine w_meth2 0 (by decide) (Nat.le_of_ble_eq_true rfl) (ls := [some (.ref (100000 + i))]) rfl ?_
  intro p e s m args below meth c D dA b0 ad X hr
  exact pJ0_isLatin1_aae02_b0 X hr hi (K := fun z => res = z) (fun x hz => ⟨x, rfl, hz, rfl⟩) ⟨res, hf, rfl⟩
set_option maxRecDepth 4000 in
theorem pJ0_coder_7d493_b0 (X : wCx p s m args meth c RJ0 cJ0_coder_7d493 1 D dA b0 ad) (hr : meth.sig.returnType = (some .byte)) {h : wSt} {i : Nat} (hi : i < 25) {K : Int32 → Prop} (hT : ∀ (x : Int32), K x → F (some (.int x)) h) (hf : wok (fJ0_coder_7d493 h i) K) : wM p l e (wR 1) s m args below meth c 0 0 (wE below args s D dA b0 ad S0 F) 1 D dA b0 ad S0 0 [some (.ref (100000 + i))] [] h := by
  unfold fJ0_coder_7d493 at hf
  refine w_compact X dJ0_coder_7d493_0 rfl wd_405 ?_
  refine w_if_eq X dJ0_coder_7d493_3 rfl (t := 13) rfl (fun hc => ?_) (fun hc => ?_)
  · have hf := wok_t hf hc
    refine w_iconst X dJ0_coder_7d493_13 rfl ci_1 ?_
    obtain ⟨yhg21, hf⟩ := wok_g hf
    exact w_nret X dJ0_coder_7d493_14 hr yhg21 (hT _ (wok_s hf))
  · have hf := wok_f hf hc
    refine w_aload_n X dJ0_coder_7d493_6 rfl rfl rfl ?_
    refine w_scod X dJ0_coder_7d493_7 rfl wd_1815 hi ?_
    refine w_goto X dJ0_coder_7d493_10 (t := 14) rfl ?_
    obtain ⟨yhg22, hf⟩ := wok_g hf
    exact w_nret X dJ0_coder_7d493_14 hr yhg22 (hT _ (wok_s hf))
set_option maxRecDepth 4000 in
theorem kJ0_coder_7d493 (l : Launch) {h : wSt} {i : Nat} (hi : i < 25) {res : Int32} (hf : fJ0_coder_7d493 h i = some res) : wC l yJ0_coder_7d493 cJ0_coder_7d493 1 (some .byte) 1 S0 [.ref (100000 + i)] h (wFI (fun a b => res = a ∧ h = b)) := by
  refine w_meth2 0 (by decide) (Nat.le_of_ble_eq_true rfl) (ls := [some (.ref (100000 + i))]) rfl ?_
  intro p e s m args below meth c D dA b0 ad X hr
  exact pJ0_coder_7d493_b0 X hr hi (K := fun z => res = z) (fun x hz => ⟨x, rfl, hz, rfl⟩) ⟨res, hf, rfl⟩
set_option maxRecDepth 4000 in
theorem pJ0_length_8abf5_b0 (X : wCx p s m args meth c RJ0 cJ0_length_8abf5 1 D dA b0 ad) (hr : meth.sig.returnType = (some .int)) {h : wSt} {i : Nat} (hi : i < 25) {K : Int32 → Prop} (hT : ∀ (x : Int32), K x → F (some (.int x)) h) (hf : wok (fJ0_length_8abf5 h i) K) : wM p l e (wR 2) s m args below meth c 0 0 (wE below args s D dA b0 ad S0 F) 1 D dA b0 ad S0 0 [some (.ref (100000 + i))] [] h := by
  unfold fJ0_length_8abf5 at hf
  refine w_aload_n X dJ0_length_8abf5_0 rfl rfl rfl ?_
  refine w_sval X dJ0_length_8abf5_1 rfl wd_1816 hi ?_
  refine w_slen X dJ0_length_8abf5_4 rfl hi ?_
  refine w_aload_n X dJ0_length_8abf5_5 rfl rfl rfl ?_
  obtain ⟨yr21, eyr21, hf⟩ := wok_b hf
  refine w_callVS X dJ0_length_8abf5_6 rfl vs_J0_335 (kJ0_coder_7d493 l hi eyr21) hi (As := []) (st := [.int (wslen i)]) rfl rfl (Nat.le_of_ble_eq_true rfl) ⟨Nat.le_of_ble_eq_true rfl, Nat.le_of_ble_eq_true rfl⟩ ⟨Nat.zero_le _, Nat.zero_le _⟩ (fun r h2 hF => ?_)
  obtain ⟨_, rfl, rfl, rfl⟩ := hF
  show wM p l e (wR 2) s m args below meth c 0 0 (wE below args s D dA b0 ad S0 F) 1 D dA b0 ad S0 9 [some (.ref (100000 + i))] [.int yr21, .int (wslen i)] h
  refine w_ishr X dJ0_length_8abf5_9 rfl ?_
  exact w_iret X dJ0_length_8abf5_10 hr (hT _ (wok_s hf))
set_option maxRecDepth 4000 in
theorem kJ0_length_8abf5 (l : Launch) {h : wSt} {i : Nat} (hi : i < 25) {res : Int32} (hf : fJ0_length_8abf5 h i = some res) : wC l yJ0_length_8abf5 cJ0_length_8abf5 1 (some .int) 2 S0 [.ref (100000 + i)] h (wFI (fun a b => res = a ∧ h = b)) := by
  refine w_meth2 0 (by decide) (Nat.le_of_ble_eq_true rfl) (ls := [some (.ref (100000 + i))]) rfl ?_
  intro p e s m args below meth c D dA b0 ad X hr
  exact pJ0_length_8abf5_b0 X hr hi (K := fun z => res = z) (fun x hz => ⟨x, rfl, hz, rfl⟩) ⟨res, hf, rfl⟩
set_option maxRecDepth 4000 in
theorem pJ1_canEncode_9a6ad_b0 (X : wCx p s m args meth c RJ1 cJ1_canEncode_9a6ad 1 D dA b0 ad) (hr : meth.sig.returnType = (some .boolean)) {h : wSt} {x0 : Int32} {K : Bool → Prop} (hT : ∀ (x : Bool), K x → F (some (.int (wb x))) h) (hf : wok (fJ1_canEncode_9a6ad h x0) K) : wM p l e (wR 1) s m args below meth c 0 0 (wE below args s D dA b0 ad S0 F) 1 D dA b0 ad S0 0 [some (.int x0)] [] h := by
  unfold fJ1_canEncode_9a6ad at hf
  refine w_iload_n X dJ1_canEncode_9a6ad_0 rfl rfl rfl ?_
  refine w_if_lt X dJ1_canEncode_9a6ad_1 rfl (t := 15) rfl (fun hc => ?_) (fun hc => ?_)
  · have hf := wok_t hf hc
    refine w_iconst X dJ1_canEncode_9a6ad_15 rfl ci_0 ?_
    exact w_zret X dJ1_canEncode_9a6ad_16 hr rfl (hT false (wok_s hf))
  · have hf := wok_f hf hc
    refine w_iload_n X dJ1_canEncode_9a6ad_4 rfl rfl rfl ?_
    refine w_sipush X dJ1_canEncode_9a6ad_5 rfl cs_255 ?_
    refine w_icmp_gt X dJ1_canEncode_9a6ad_8 rfl (t := 15) rfl (fun hc => ?_) (fun hc => ?_)
    · have hf := wok_t hf hc
      refine w_iconst X dJ1_canEncode_9a6ad_15 rfl ci_0 ?_
      exact w_zret X dJ1_canEncode_9a6ad_16 hr rfl (hT false (wok_s hf))
    · have hf := wok_f hf hc
      refine w_iconst X dJ1_canEncode_9a6ad_11 rfl ci_1 ?_
      refine w_goto X dJ1_canEncode_9a6ad_12 (t := 16) rfl ?_
      exact w_zret X dJ1_canEncode_9a6ad_16 hr rfl (hT true (wok_s hf))
set_option maxRecDepth 4000 in
theorem kJ1_canEncode_9a6ad (l : Launch) {h : wSt} {x0 : Int32} {res : Bool} (hf : fJ1_canEncode_9a6ad h x0 = some res) : wC l yJ1_canEncode_9a6ad cJ1_canEncode_9a6ad 1 (some .boolean) 1 S0 [.int x0] h (wFZ (fun a b => res = a ∧ h = b)) := by
  refine w_meth2 0 (by decide) (Nat.le_of_ble_eq_true rfl) (ls := [some (.int x0)]) rfl ?_
  intro p e s m args below meth c D dA b0 ad X hr
  exact pJ1_canEncode_9a6ad_b0 X hr  (K := fun z => res = z) (fun x hz => ⟨x, rfl, hz, rfl⟩) ⟨res, hf, rfl⟩
set_option maxRecDepth 4000 in
theorem pJ1_indexOfChar_4cfef_l7b (X : wCx p s m args meth c RJ1 cJ1_indexOfChar_4cfef 6 D dA b0 ad) (hr : meth.sig.returnType = (some .int)) {h : wSt} {i0 : Nat} {v3 : Int32} {v4 : Int32} {v5 : Int32} (hi0 : i0 < 25) {K : (Int32) ⊕ ((Unit) ⊕ (Int32)) → Prop} (hN : ∀ (n5 : Int32), K (.inl n5) → wM p l e (wR 1) s m args below meth c 0 0 (wE below args s D dA b0 ad S0 F) 6 D dA b0 ad S0 7 [some (.ref (200000 + i0)), none, none, some (.int v3), some (.int v4), some (.int n5)] [] h) (hX0 : K (.inr (.inl ())) → wM p l e (wR 1) s m args below meth c 0 0 (wE below args s D dA b0 ad S0 F) 6 D dA b0 ad S0 31 [none, none, none, none, none, none] [] h) (hT : ∀ (x : Int32), K (.inr (.inr x)) → F (some (.int x)) h) (hf : wok (fJ1_indexOfChar_4cfef_l7 h i0 v3 v4 v5) K) : wM p l e (wR 1) s m args below meth c 0 0 (wE below args s D dA b0 ad S0 F) 6 D dA b0 ad S0 7 [some (.ref (200000 + i0)), none, none, some (.int v3), some (.int v4), some (.int v5)] [] h := by
  unfold fJ1_indexOfChar_4cfef_l7 at hf
  refine w_iload X dJ1_indexOfChar_4cfef_7 rfl rfl ?_
  refine w_iload_n X dJ1_indexOfChar_4cfef_9 rfl rfl rfl ?_
  refine w_icmp_ge X dJ1_indexOfChar_4cfef_10 rfl (t := 31) rfl (fun hc => ?_) (fun hc => ?_)
  · have hf := wok_t hf hc
    refine w_fg (ls2 := [none, none, none, none, none, none]) trivial ?_
    exact hX0 (wok_s hf)
  · have hf := wok_f hf hc
    refine w_aload_n X dJ1_indexOfChar_4cfef_13 rfl rfl rfl ?_
    refine w_iload X dJ1_indexOfChar_4cfef_14 rfl rfl ?_
    obtain ⟨yhg21, hf⟩ := wok_g hf
    refine w_sbld X dJ1_indexOfChar_4cfef_16 rfl (j := v5.toNatClampNeg) rfl hi0 yhg21 ?_
    refine w_iload X dJ1_indexOfChar_4cfef_17 rfl rfl ?_
    refine w_icmp_ne X dJ1_indexOfChar_4cfef_19 rfl (t := 25) rfl (fun hc => ?_) (fun hc => ?_)
    · have hf := wok_f hf hc
      refine w_iinc X dJ1_indexOfChar_4cfef_25 rfl (v := (v5 + 1)) rfl rfl (Nat.le_of_ble_eq_true rfl) (cinc_1 _) (ls' := [some (.ref (200000 + i0)), none, none, some (.int v3), some (.int v4), some (.int (v5 + 1))]) rfl ?_
      refine w_goto X dJ1_indexOfChar_4cfef_28 (t := 7) rfl ?_
      exact hN _ (wok_s hf)
    · have hf := wok_t hf hc
      refine w_iload X dJ1_indexOfChar_4cfef_22 rfl rfl ?_
      exact w_iret X dJ1_indexOfChar_4cfef_24 hr (hT _ (wok_s hf))
set_option maxRecDepth 4000 in
theorem pJ1_indexOfChar_4cfef_l7 (X : wCx p s m args meth c RJ1 cJ1_indexOfChar_4cfef 6 D dA b0 ad) (hr : meth.sig.returnType = (some .int)) {h : wSt} {i0 : Nat} {v3 : Int32} {v4 : Int32} (hi0 : i0 < 25) {KE : (Unit) ⊕ (Int32) → Prop} (hX0 : KE ((.inl ())) → wM p l e (wR 1) s m args below meth c 0 0 (wE below args s D dA b0 ad S0 F) 6 D dA b0 ad S0 31 [none, none, none, none, none, none] [] h) (hT : ∀ (x : Int32), KE ((.inr x)) → F (some (.int x)) h) : ∀ (n : Nat) (v5 : Int32), wok (wit (fun v : (Int32) => fJ1_indexOfChar_4cfef_l7 h i0 v3 v4 v) n v5) KE → wM p l e (wR 1) s m args below meth c 0 0 (wE below args s D dA b0 ad S0 F) 6 D dA b0 ad S0 7 [some (.ref (200000 + i0)), none, none, some (.int v3), some (.int v4), some (.int v5)] [] h := by
  have key := wit_M (b := (fun v : (Int32) => fJ1_indexOfChar_4cfef_l7 h i0 v3 v4 v)) (KE := KE) (G := fun v => wM p l e (wR 1) s m args below meth c 0 0 (wE below args s D dA b0 ad S0 F) 6 D dA b0 ad S0 7 [some (.ref (200000 + i0)), none, none, some (.int v3), some (.int v4), some (.int v)] [] h) (fun v K hN hE hf => pJ1_indexOfChar_4cfef_l7b X hr hi0 (fun n5 hz => hN n5 hz) (fun  hz => hX0  (hE _ hz)) (fun z0 hz => hT z0 (hE _ hz)) hf)
  exact fun n v5 hf => key n v5 hf
set_option maxRecDepth 4000 in
theorem pJ1_indexOfChar_4cfef_b0 (X : wCx p s m args meth c RJ1 cJ1_indexOfChar_4cfef 6 D dA b0 ad) (hr : meth.sig.returnType = (some .int)) {h : wSt} {i0 : Nat} {x1 : Int32} {x2 : Int32} {x3 : Int32} (hi0 : i0 < 25) {K : Int32 → Prop} (hT : ∀ (x : Int32), K x → F (some (.int x)) h) (hf : wok (fJ1_indexOfChar_4cfef h i0 x1 x2 x3) K) : wM p l e (wR 1) s m args below meth c 0 0 (wE below args s D dA b0 ad S0 F) 6 D dA b0 ad S0 0 [some (.ref (200000 + i0)), some (.int x1), some (.int x2), some (.int x3), none, none] [] h := by
  unfold fJ1_indexOfChar_4cfef at hf
  refine w_iload_n X dJ1_indexOfChar_4cfef_0 rfl rfl rfl ?_
  refine w_i2b X dJ1_indexOfChar_4cfef_1 rfl ?_
  refine w_istore X dJ1_indexOfChar_4cfef_2 rfl rfl (Nat.le_of_ble_eq_true rfl) (ls' := [some (.ref (200000 + i0)), some (.int x1), some (.int x2), some (.int x3), some (.int x1.toInt8.toInt32), none]) rfl ?_
  refine w_iload_n X dJ1_indexOfChar_4cfef_4 rfl rfl rfl ?_
  refine w_istore X dJ1_indexOfChar_4cfef_5 rfl rfl (Nat.le_of_ble_eq_true rfl) (ls' := [some (.ref (200000 + i0)), some (.int x1), some (.int x2), some (.int x3), some (.int x1.toInt8.toInt32), some (.int x2)]) rfl ?_
  refine w_fg (ls2 := [some (.ref (200000 + i0)), none, none, some (.int x3), some (.int x1.toInt8.toInt32), some (.int x2)]) ⟨rfl, rfl, rfl, rfl, trivial⟩ ?_
  obtain ⟨ye22, hye22, hf⟩ := wok_b hf
  refine pJ1_indexOfChar_4cfef_l7 X hr hi0 (KE := fun z => ye22 = z) ?_ ?_ 3000 _ ⟨ye22, hye22, rfl⟩
  · intro hz
    subst hz
    refine w_iconst X dJ1_indexOfChar_4cfef_31 rfl ci_m1 ?_
    exact w_iret X dJ1_indexOfChar_4cfef_32 hr (hT _ (wok_s hf))
  · intro z hz
    subst hz
    exact hT _ (wok_s hf)
set_option maxRecDepth 4000 in
theorem kJ1_indexOfChar_4cfef (l : Launch) {h : wSt} {i0 : Nat} {x1 : Int32} {x2 : Int32} {x3 : Int32} (hi0 : i0 < 25) {res : Int32} (hf : fJ1_indexOfChar_4cfef h i0 x1 x2 x3 = some res) : wC l yJ1_indexOfChar_4cfef cJ1_indexOfChar_4cfef 6 (some .int) 1 S0 [.ref (200000 + i0), .int x1, .int x2, .int x3] h (wFI (fun a b => res = a ∧ h = b)) := by
  refine w_meth2 2 (by decide) (Nat.le_of_ble_eq_true rfl) (ls := [some (.ref (200000 + i0)), some (.int x1), some (.int x2), some (.int x3), none, none]) rfl ?_
  intro p e s m args below meth c D dA b0 ad X hr
  exact pJ1_indexOfChar_4cfef_b0 X hr hi0 (K := fun z => res = z) (fun x hz => ⟨x, rfl, hz, rfl⟩) ⟨res, hf, rfl⟩
set_option maxRecDepth 4000 in
theorem pJ1_indexOf_4cfef_b0 (X : wCx p s m args meth c RJ1 cJ1_indexOf_4cfef 4 D dA b0 ad) (hr : meth.sig.returnType = (some .int)) {h : wSt} {i0 : Nat} {x1 : Int32} {x2 : Int32} {x3 : Int32} (hi0 : i0 < 25) {K : Int32 → Prop} (hT : ∀ (x : Int32), K x → F (some (.int x)) h) (hf : wok (fJ1_indexOf_4cfef h i0 x1 x2 x3) K) : wM p l e (wR 2) s m args below meth c 0 0 (wE below args s D dA b0 ad S0 F) 4 D dA b0 ad S0 0 [some (.ref (200000 + i0)), some (.int x1), some (.int x2), some (.int x3)] [] h := by
  unfold fJ1_indexOf_4cfef at hf
  refine w_iload_n X dJ1_indexOf_4cfef_0 rfl rfl rfl ?_
  obtain ⟨yr21, eyr21, hf⟩ := wok_b hf
  refine w_callS X dJ1_indexOf_4cfef_1 rfl sl_J1_88 (kJ1_canEncode_9a6ad l  eyr21) (As := [.int x1]) (st := []) rfl rfl (Nat.le_of_ble_eq_true rfl) ⟨Nat.le_of_ble_eq_true rfl, Nat.le_of_ble_eq_true rfl⟩ ⟨Nat.zero_le _, Nat.zero_le _⟩ (fun r h2 hF => ?_)
  obtain ⟨_, rfl, rfl, rfl⟩ := hF
  show wM p l e (wR 2) s m args below meth c 0 0 (wE below args s D dA b0 ad S0 F) 4 D dA b0 ad S0 4 [some (.ref (200000 + i0)), some (.int x1), some (.int x2), some (.int x3)] [.int (wb yr21)] h
  refine w_if_ne X dJ1_indexOf_4cfef_4 rfl (t := 9) rfl (fun hc => ?_) (fun hc => ?_)
  · have hf := wok_t hf (wb_n0 hc)
    refine w_iload_n X dJ1_indexOf_4cfef_9 rfl rfl rfl ?_
    refine w_iconst X dJ1_indexOf_4cfef_10 rfl ci_0 ?_
    refine w_mmax X dJ1_indexOf_4cfef_11 rfl wd_421 wd_422 wd_15 wd_423 (Nat.le_of_ble_eq_true rfl) (Nat.le_of_ble_eq_true rfl) (Nat.zero_le _) (Nat.zero_le _) ?_
    refine w_istore_n X dJ1_indexOf_4cfef_14 rfl rfl rfl (Nat.le_of_ble_eq_true rfl) (ls' := [some (.ref (200000 + i0)), some (.int x1), some (.int (wmx x2 (0 : Int32))), some (.int x3)]) rfl ?_
    refine w_iload_n X dJ1_indexOf_4cfef_15 rfl rfl rfl ?_
    refine w_aload_n X dJ1_indexOf_4cfef_16 rfl rfl rfl ?_
    refine w_slen X dJ1_indexOf_4cfef_17 rfl hi0 ?_
    refine w_mmin X dJ1_indexOf_4cfef_18 rfl wd_424 wd_425 wd_15 wd_426 (Nat.le_of_ble_eq_true rfl) (Nat.le_of_ble_eq_true rfl) (Nat.zero_le _) (Nat.zero_le _) ?_
    refine w_istore_n X dJ1_indexOf_4cfef_21 rfl rfl rfl (Nat.le_of_ble_eq_true rfl) (ls' := [some (.ref (200000 + i0)), some (.int x1), some (.int (wmx x2 (0 : Int32))), some (.int (wmn x3 (wslen i0)))]) rfl ?_
    refine w_iload_n X dJ1_indexOf_4cfef_22 rfl rfl rfl ?_
    refine w_iload_n X dJ1_indexOf_4cfef_23 rfl rfl rfl ?_
    refine w_icmp_lt X dJ1_indexOf_4cfef_24 rfl (t := 29) rfl (fun hc => ?_) (fun hc => ?_)
    · have hf := wok_t hf hc
      refine w_aload_n X dJ1_indexOf_4cfef_29 rfl rfl rfl ?_
      refine w_iload_n X dJ1_indexOf_4cfef_30 rfl rfl rfl ?_
      refine w_iload_n X dJ1_indexOf_4cfef_31 rfl rfl rfl ?_
      refine w_iload_n X dJ1_indexOf_4cfef_32 rfl rfl rfl ?_
      obtain ⟨yr22, eyr22, hf⟩ := wok_b hf
      refine w_callS X dJ1_indexOf_4cfef_33 rfl sl_J1_95 (kJ1_indexOfChar_4cfef l hi0 eyr22) (As := [.ref (200000 + i0), .int x1, .int (wmx x2 (0 : Int32)), .int (wmn x3 (wslen i0))]) (st := []) rfl rfl (Nat.le_of_ble_eq_true rfl) ⟨Nat.le_of_ble_eq_true rfl, Nat.le_of_ble_eq_true rfl⟩ ⟨Nat.zero_le _, Nat.zero_le _⟩ (fun r h2 hF => ?_)
      obtain ⟨_, rfl, rfl, rfl⟩ := hF
      show wM p l e (wR 2) s m args below meth c 0 0 (wE below args s D dA b0 ad S0 F) 4 D dA b0 ad S0 36 [some (.ref (200000 + i0)), some (.int x1), some (.int (wmx x2 (0 : Int32))), some (.int (wmn x3 (wslen i0)))] [.int yr22] h
      exact w_iret X dJ1_indexOf_4cfef_36 hr (hT _ (wok_s hf))
    · have hf := wok_f hf hc
      refine w_iconst X dJ1_indexOf_4cfef_27 rfl ci_m1 ?_
      exact w_iret X dJ1_indexOf_4cfef_28 hr (hT _ (wok_s hf))
  · have hf := wok_f hf (wb_0 hc)
    refine w_iconst X dJ1_indexOf_4cfef_7 rfl ci_m1 ?_
    exact w_iret X dJ1_indexOf_4cfef_8 hr (hT _ (wok_s hf))
set_option maxRecDepth 4000 in
theorem kJ1_indexOf_4cfef (l : Launch) {h : wSt} {i0 : Nat} {x1 : Int32} {x2 : Int32} {x3 : Int32} (hi0 : i0 < 25) {res : Int32} (hf : fJ1_indexOf_4cfef h i0 x1 x2 x3 = some res) : wC l yJ1_indexOf_4cfef cJ1_indexOf_4cfef 4 (some .int) 2 S0 [.ref (200000 + i0), .int x1, .int x2, .int x3] h (wFI (fun a b => res = a ∧ h = b)) := by
  refine w_meth2 0 (by decide) (Nat.le_of_ble_eq_true rfl) (ls := [some (.ref (200000 + i0)), some (.int x1), some (.int x2), some (.int x3)]) rfl ?_
  intro p e s m args below meth c D dA b0 ad X hr
  exact pJ1_indexOf_4cfef_b0 X hr hi0 (K := fun z => res = z) (fun x hz => ⟨x, rfl, hz, rfl⟩) ⟨res, hf, rfl⟩
set_option maxRecDepth 4000 in
theorem pJ0_indexOf_7cf53_b0 (X : wCx p s m args meth c RJ0 cJ0_indexOf_7cf53 3 D dA b0 ad) (hr : meth.sig.returnType = (some .int)) {h : wSt} {i : Nat} {x0 : Int32} {x1 : Int32} (hi : i < 25) {K : Int32 → Prop} (hT : ∀ (x : Int32), K x → F (some (.int x)) h) (hf : wok (fJ0_indexOf_7cf53 h i x0 x1) K) : wM p l e (wR 3) s m args below meth c 0 0 (wE below args s D dA b0 ad S0 F) 3 D dA b0 ad S0 0 [some (.ref (100000 + i)), some (.int x0), some (.int x1)] [] h := by
  unfold fJ0_indexOf_7cf53 at hf
  refine w_aload_n X dJ0_indexOf_7cf53_0 rfl rfl rfl ?_
  obtain ⟨yr21, eyr21, hf⟩ := wok_b hf
  refine w_callVS X dJ0_indexOf_7cf53_1 rfl vs_J0_492 (kJ0_isLatin1_aae02 l hi eyr21) hi (As := []) (st := []) rfl rfl (Nat.le_of_ble_eq_true rfl) ⟨Nat.le_of_ble_eq_true rfl, Nat.le_of_ble_eq_true rfl⟩ ⟨Nat.zero_le _, Nat.zero_le _⟩ (fun r h2 hF => ?_)
  obtain ⟨_, rfl, rfl, rfl⟩ := hF
  show wM p l e (wR 3) s m args below meth c 0 0 (wE below args s D dA b0 ad S0 F) 3 D dA b0 ad S0 4 [some (.ref (100000 + i)), some (.int x0), some (.int x1)] [.int (wb yr21)] h
  refine w_if_eq X dJ0_indexOf_7cf53_4 rfl (t := 23) rfl (fun hc => ?_) (fun hc => ?_)
  · have hf := wok_f hf (wb_0 hc)
    refine w_aload_n X dJ0_indexOf_7cf53_23 rfl rfl rfl ?_
    refine w_sval X dJ0_indexOf_7cf53_24 rfl wd_1816 hi ?_
    refine w_iload_n X dJ0_indexOf_7cf53_27 rfl rfl rfl ?_
    refine w_iload_n X dJ0_indexOf_7cf53_28 rfl rfl rfl ?_
    refine w_aload_n X dJ0_indexOf_7cf53_29 rfl rfl rfl ?_
    obtain ⟨yr22, eyr22, hf⟩ := wok_b hf
    refine w_callVS X dJ0_indexOf_7cf53_30 rfl vs_J0_505 (kJ0_length_8abf5 l hi eyr22) hi (As := []) (st := [.int x1, .int x0, .ref (200000 + i)]) rfl rfl (Nat.le_of_ble_eq_true rfl) ⟨Nat.le_of_ble_eq_true rfl, Nat.le_of_ble_eq_true rfl⟩ ⟨Nat.zero_le _, Nat.zero_le _⟩ (fun r h2 hF => ?_)
    obtain ⟨_, rfl, rfl, rfl⟩ := hF
    show wM p l e (wR 3) s m args below meth c 0 0 (wE below args s D dA b0 ad S0 F) 3 D dA b0 ad S0 33 [some (.ref (100000 + i)), some (.int x0), some (.int x1)] [.int yr22, .int x1, .int x0, .ref (200000 + i)] h
    exact wok_n hf
  · have hf := wok_t hf (wb_n0 hc)
    refine w_aload_n X dJ0_indexOf_7cf53_7 rfl rfl rfl ?_
    refine w_sval X dJ0_indexOf_7cf53_8 rfl wd_1816 hi ?_
    refine w_iload_n X dJ0_indexOf_7cf53_11 rfl rfl rfl ?_
    refine w_iload_n X dJ0_indexOf_7cf53_12 rfl rfl rfl ?_
    refine w_aload_n X dJ0_indexOf_7cf53_13 rfl rfl rfl ?_
    obtain ⟨yr23, eyr23, hf⟩ := wok_b hf
    refine w_callVS X dJ0_indexOf_7cf53_14 rfl vs_J0_505 (kJ0_length_8abf5 l hi eyr23) hi (As := []) (st := [.int x1, .int x0, .ref (200000 + i)]) rfl rfl (Nat.le_of_ble_eq_true rfl) ⟨Nat.le_of_ble_eq_true rfl, Nat.le_of_ble_eq_true rfl⟩ ⟨Nat.zero_le _, Nat.zero_le _⟩ (fun r h2 hF => ?_)
    obtain ⟨_, rfl, rfl, rfl⟩ := hF
    show wM p l e (wR 3) s m args below meth c 0 0 (wE below args s D dA b0 ad S0 F) 3 D dA b0 ad S0 17 [some (.ref (100000 + i)), some (.int x0), some (.int x1)] [.int yr23, .int x1, .int x0, .ref (200000 + i)] h
    obtain ⟨yr24, eyr24, hf⟩ := wok_b hf
    refine w_callS X dJ0_indexOf_7cf53_17 rfl sl_J0_637 (kJ1_indexOf_4cfef l hi eyr24) (As := [.ref (200000 + i), .int x0, .int x1, .int yr23]) (st := []) rfl rfl (Nat.le_of_ble_eq_true rfl) ⟨Nat.le_of_ble_eq_true rfl, Nat.le_of_ble_eq_true rfl⟩ ⟨Nat.zero_le _, Nat.zero_le _⟩ (fun r h2 hF => ?_)
    obtain ⟨_, rfl, rfl, rfl⟩ := hF
    show wM p l e (wR 3) s m args below meth c 0 0 (wE below args s D dA b0 ad S0 F) 3 D dA b0 ad S0 20 [some (.ref (100000 + i)), some (.int x0), some (.int x1)] [.int yr24] h
    refine w_goto X dJ0_indexOf_7cf53_20 (t := 36) rfl ?_
    exact w_iret X dJ0_indexOf_7cf53_36 hr (hT _ (wok_s hf))
set_option maxRecDepth 4000 in
theorem kJ0_indexOf_7cf53 (l : Launch) {h : wSt} {i : Nat} {x0 : Int32} {x1 : Int32} (hi : i < 25) {res : Int32} (hf : fJ0_indexOf_7cf53 h i x0 x1 = some res) : wC l yJ0_indexOf_7cf53 cJ0_indexOf_7cf53 3 (some .int) 3 S0 [.ref (100000 + i), .int x0, .int x1] h (wFI (fun a b => res = a ∧ h = b)) := by
  refine w_meth2 0 (by decide) (Nat.le_of_ble_eq_true rfl) (ls := [some (.ref (100000 + i)), some (.int x0), some (.int x1)]) rfl ?_
  intro p e s m args below meth c D dA b0 ad X hr
  exact pJ0_indexOf_7cf53_b0 X hr hi (K := fun z => res = z) (fun x hz => ⟨x, rfl, hz, rfl⟩) ⟨res, hf, rfl⟩
set_option maxRecDepth 4000 in
theorem pJ0_indexOf_0f7a4_b0 (X : wCx p s m args meth c RJ0 cJ0_indexOf_0f7a4 2 D dA b0 ad) (hr : meth.sig.returnType = (some .int)) {h : wSt} {i : Nat} {x0 : Int32} (hi : i < 25) {K : Int32 → Prop} (hT : ∀ (x : Int32), K x → F (some (.int x)) h) (hf : wok (fJ0_indexOf_0f7a4 h i x0) K) : wM p l e (wR 4) s m args below meth c 0 0 (wE below args s D dA b0 ad S0 F) 2 D dA b0 ad S0 0 [some (.ref (100000 + i)), some (.int x0)] [] h := by
  unfold fJ0_indexOf_0f7a4 at hf
  refine w_aload_n X dJ0_indexOf_0f7a4_0 rfl rfl rfl ?_
  refine w_iload_n X dJ0_indexOf_0f7a4_1 rfl rfl rfl ?_
  refine w_iconst X dJ0_indexOf_0f7a4_2 rfl ci_0 ?_
  obtain ⟨yr21, eyr21, hf⟩ := wok_b hf
  refine w_callVS X dJ0_indexOf_0f7a4_3 rfl vs_J0_633 (kJ0_indexOf_7cf53 l hi eyr21) hi (As := [.int x0, .int 0]) (st := []) rfl rfl (Nat.le_of_ble_eq_true rfl) ⟨Nat.le_of_ble_eq_true rfl, Nat.le_of_ble_eq_true rfl⟩ ⟨Nat.zero_le _, Nat.zero_le _⟩ (fun r h2 hF => ?_)
  obtain ⟨_, rfl, rfl, rfl⟩ := hF
  show wM p l e (wR 4) s m args below meth c 0 0 (wE below args s D dA b0 ad S0 F) 2 D dA b0 ad S0 6 [some (.ref (100000 + i)), some (.int x0)] [.int yr21] h
  exact w_iret X dJ0_indexOf_0f7a4_6 hr (hT _ (wok_s hf))
set_option maxRecDepth 4000 in
theorem kJ0_indexOf_0f7a4 (l : Launch) {h : wSt} {i : Nat} {x0 : Int32} (hi : i < 25) {res : Int32} (hf : fJ0_indexOf_0f7a4 h i x0 = some res) : wC l yJ0_indexOf_0f7a4 cJ0_indexOf_0f7a4 2 (some .int) 4 S0 [.ref (100000 + i), .int x0] h (wFI (fun a b => res = a ∧ h = b)) := by
  refine w_meth2 0 (by decide) (Nat.le_of_ble_eq_true rfl) (ls := [some (.ref (100000 + i)), some (.int x0)]) rfl ?_
  intro p e s m args below meth c D dA b0 ad X hr
  exact pJ0_indexOf_0f7a4_b0 X hr hi (K := fun z => res = z) (fun x hz => ⟨x, rfl, hz, rfl⟩) ⟨res, hf, rfl⟩
set_option maxRecDepth 4000 in
theorem pJ1_charAt_3b067_b0 (X : wCx p s m args meth c RJ1 cJ1_charAt_3b067 2 D dA b0 ad) (hr : meth.sig.returnType = (some .char)) {h : wSt} {i0 : Nat} {x1 : Int32} (hi0 : i0 < 25) {K : Int32 → Prop} (hT : ∀ (x : Int32), K x → F (some (.int x)) h) (hf : wok (fJ1_charAt_3b067 h i0 x1) K) : wM p l e (wR 3) s m args below meth c 0 0 (wE below args s D dA b0 ad S0 F) 2 D dA b0 ad S0 0 [some (.ref (200000 + i0)), some (.int x1)] [] h := by
  unfold fJ1_charAt_3b067 at hf
  refine w_iload_n X dJ1_charAt_3b067_0 rfl rfl rfl ?_
  refine w_aload_n X dJ1_charAt_3b067_1 rfl rfl rfl ?_
  refine w_slen X dJ1_charAt_3b067_2 rfl hi0 ?_
  obtain ⟨yr21, eyr21, hf⟩ := wok_b hf
  refine w_callS X dJ1_charAt_3b067_3 rfl sl_J1_9 (kJ0_checkIndex_df160 l  eyr21) (As := [.int x1, .int (wslen i0)]) (st := []) rfl rfl (Nat.le_of_ble_eq_true rfl) ⟨Nat.le_of_ble_eq_true rfl, Nat.le_of_ble_eq_true rfl⟩ ⟨Nat.zero_le _, Nat.zero_le _⟩ (fun r h2 hF => ?_)
  obtain ⟨rfl, rfl⟩ := hF
  show wM p l e (wR 3) s m args below meth c 0 0 (wE below args s D dA b0 ad S0 F) 2 D dA b0 ad S0 6 [some (.ref (200000 + i0)), some (.int x1)] [] h
  refine w_aload_n X dJ1_charAt_3b067_6 rfl rfl rfl ?_
  refine w_iload_n X dJ1_charAt_3b067_7 rfl rfl rfl ?_
  obtain ⟨yhg22, hf⟩ := wok_g hf
  refine w_sbld X dJ1_charAt_3b067_8 rfl (j := x1.toNatClampNeg) rfl hi0 yhg22 ?_
  refine w_sipush X dJ1_charAt_3b067_9 rfl cs_255 ?_
  refine w_iand X dJ1_charAt_3b067_12 rfl ?_
  refine w_i2c X dJ1_charAt_3b067_13 rfl ?_
  obtain ⟨yhg23, hf⟩ := wok_g hf
  exact w_nret X dJ1_charAt_3b067_14 hr yhg23 (hT _ (wok_s hf))
set_option maxRecDepth 4000 in
theorem kJ1_charAt_3b067 (l : Launch) {h : wSt} {i0 : Nat} {x1 : Int32} (hi0 : i0 < 25) {res : Int32} (hf : fJ1_charAt_3b067 h i0 x1 = some res) : wC l yJ1_charAt_3b067 cJ1_charAt_3b067 2 (some .char) 3 S0 [.ref (200000 + i0), .int x1] h (wFI (fun a b => res = a ∧ h = b)) := by
  refine w_meth2 0 (by decide) (Nat.le_of_ble_eq_true rfl) (ls := [some (.ref (200000 + i0)), some (.int x1)]) rfl ?_
  intro p e s m args below meth c D dA b0 ad X hr
  exact pJ1_charAt_3b067_b0 X hr hi0 (K := fun z => res = z) (fun x hz => ⟨x, rfl, hz, rfl⟩) ⟨res, hf, rfl⟩
set_option maxRecDepth 4000 in
theorem pJ0_charAt_5068e_b0 (X : wCx p s m args meth c RJ0 cJ0_charAt_5068e 2 D dA b0 ad) (hr : meth.sig.returnType = (some .char)) {h : wSt} {i : Nat} {x0 : Int32} (hi : i < 25) {K : Int32 → Prop} (hT : ∀ (x : Int32), K x → F (some (.int x)) h) (hf : wok (fJ0_charAt_5068e h i x0) K) : wM p l e (wR 4) s m args below meth c 0 0 (wE below args s D dA b0 ad S0 F) 2 D dA b0 ad S0 0 [some (.ref (100000 + i)), some (.int x0)] [] h := by
  unfold fJ0_charAt_5068e at hf
  refine w_aload_n X dJ0_charAt_5068e_0 rfl rfl rfl ?_
  obtain ⟨yr21, eyr21, hf⟩ := wok_b hf
  refine w_callVS X dJ0_charAt_5068e_1 rfl vs_J0_492 (kJ0_isLatin1_aae02 l hi eyr21) hi (As := []) (st := []) rfl rfl (Nat.le_of_ble_eq_true rfl) ⟨Nat.le_of_ble_eq_true rfl, Nat.le_of_ble_eq_true rfl⟩ ⟨Nat.zero_le _, Nat.zero_le _⟩ (fun r h2 hF => ?_)
  obtain ⟨_, rfl, rfl, rfl⟩ := hF
  show wM p l e (wR 4) s m args below meth c 0 0 (wE below args s D dA b0 ad S0 F) 2 D dA b0 ad S0 4 [some (.ref (100000 + i)), some (.int x0)] [.int (wb yr21)] h
  refine w_if_eq X dJ0_charAt_5068e_4 rfl (t := 16) rfl (fun hc => ?_) (fun hc => ?_)
  · have hf := wok_f hf (wb_0 hc)
    refine w_aload_n X dJ0_charAt_5068e_16 rfl rfl rfl ?_
    refine w_sval X dJ0_charAt_5068e_17 rfl wd_1816 hi ?_
    refine w_iload_n X dJ0_charAt_5068e_20 rfl rfl rfl ?_
    exact wok_n hf
  · have hf := wok_t hf (wb_n0 hc)
    refine w_aload_n X dJ0_charAt_5068e_7 rfl rfl rfl ?_
    refine w_sval X dJ0_charAt_5068e_8 rfl wd_1816 hi ?_
    refine w_iload_n X dJ0_charAt_5068e_11 rfl rfl rfl ?_
    obtain ⟨yr22, eyr22, hf⟩ := wok_b hf
    refine w_callS X dJ0_charAt_5068e_12 rfl sl_J0_495 (kJ1_charAt_3b067 l hi eyr22) (As := [.ref (200000 + i), .int x0]) (st := []) rfl rfl (Nat.le_of_ble_eq_true rfl) ⟨Nat.le_of_ble_eq_true rfl, Nat.le_of_ble_eq_true rfl⟩ ⟨Nat.zero_le _, Nat.zero_le _⟩ (fun r h2 hF => ?_)
    obtain ⟨_, rfl, rfl, rfl⟩ := hF
    show wM p l e (wR 4) s m args below meth c 0 0 (wE below args s D dA b0 ad S0 F) 2 D dA b0 ad S0 15 [some (.ref (100000 + i)), some (.int x0)] [.int yr22] h
    obtain ⟨yhg23, hf⟩ := wok_g hf
    exact w_nret X dJ0_charAt_5068e_15 hr yhg23 (hT _ (wok_s hf))
set_option maxRecDepth 4000 in
theorem kJ0_charAt_5068e (l : Launch) {h : wSt} {i : Nat} {x0 : Int32} (hi : i < 25) {res : Int32} (hf : fJ0_charAt_5068e h i x0 = some res) : wC l yJ0_charAt_5068e cJ0_charAt_5068e 2 (some .char) 4 S0 [.ref (100000 + i), .int x0] h (wFI (fun a b => res = a ∧ h = b)) := by
  refine w_meth2 0 (by decide) (Nat.le_of_ble_eq_true rfl) (ls := [some (.ref (100000 + i)), some (.int x0)]) rfl ?_
  intro p e s m args below meth c D dA b0 ad X hr
  exact pJ0_charAt_5068e_b0 X hr hi (K := fun z => res = z) (fun x hz => ⟨x, rfl, hz, rfl⟩) ⟨res, hf, rfl⟩
end WX

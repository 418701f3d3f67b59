/-! THE LAW'S CASE OF THE LECTERN -/
section WX95
variable {p : Program} {l : Launch} {e : Env} {R : Room} {s : State} {m : MethodId} {args : Array Value} {below : List Frame} {meth : Method} {c : Code} {ck cn : Nat} {Q : State → Prop} {D : va_G} {dA : Nat → ClassId} {b0 : Nat} {ad : Nat → Nat}
set_option maxRecDepth 10000 in
set_option maxHeartbeats 4000000 in
theorem pL_law_32 (X : wCx p s m args meth c RL cL_law 7 D dA b0 ad) (hl : l.stackTraces = false) (hZ1 : vx_Zq Bundle.tN "UNASSIGNED_STACK" Bundle.steD (wA b0) s s.heap) (hZ2 : vx_Zq Bundle.tN "SUPPRESSED_SENTINEL" Bundle.listD (wA b0) s s.heap) (hB : ∀ w ∈ xB, va_Nw w s) {h h3 : wSt} {xs : Nat → Int32} {L : Nat} {v4 r2 : Int32} {res : Option Int32} (hsc : wSc s ad b0 L xs) (hR : 200 ≤ R.frames ∧ 13000 ≤ R.locals ∧ ck + 10 ≤ R.cells ∧ cn + 100 ≤ R.slots) (hc0 : ¬ (Int32.ofNat L - 7) < v4) (y0 : wib v4 L) (y1 : wib (v4 + 1) L) (y2 : wib (v4 + 2) L) (y3 : wib (v4 + 3) L) (y4 : wib (v4 + 4) L) (hk : ((xs v4.toNatClampNeg) &&& 63) = 32) (e1 : fX10_rests h (xs (v4 + 1).toNatClampNeg) (xs (v4 + 2).toNatClampNeg) (xs (v4 + 3).toNatClampNeg) (xs (v4 + 4).toNatClampNeg) = some res) (e2 : fX11_rests (gLh h res) (xs (v4 + 1).toNatClampNeg) (xs (v4 + 2).toNatClampNeg) (xs (v4 + 3).toNatClampNeg) (xs (v4 + 4).toNatClampNeg) = some (r2, h3)) (e3 : h3.1 188 0 = gLr res) (e4 : ∀ v, res = some v → r2 = v ∧ h3.2 233 0 = v.toInt64) (hN : wM p l e R s m args below meth c (ck + 1) (cn + 8) Q 7 D dA b0 ad S0 23 [some (.ref 99999), some (.ref 0), some (.ref 188), some (.ref 233), some (.int (v4 + 7)), none, none] [] h3) : wM p l e R s m args below meth c ck cn Q 7 D dA b0 ad S0 23 [some (.ref 99999), some (.ref 0), some (.ref 188), some (.ref 233), some (.int v4), none, none] [] h := by
  refine w_iload X dL_law_23 rfl rfl ?_
  refine w_aload_n X dL_law_25 rfl rfl rfl ?_
  refine w_slen0 X dL_law_26 rfl hsc ?_
  refine w_bipush X dL_law_27 rfl cb_7 ?_
  refine w_isub X dL_law_29 rfl ?_
  refine w_icmp_gt X dL_law_30 rfl (t := 1483) rfl (fun hc => absurd hc hc0) (fun hc => ?_)
  refine w_aload_n X dL_law_33 rfl rfl rfl ?_
  refine w_iload X dL_law_34 rfl rfl ?_
  refine w_sld X dL_law_36 rfl hsc (j := v4.toNatClampNeg) rfl y0 ?_
  refine w_bipush X dL_law_37 rfl cb_63 ?_
  refine w_iand X dL_law_39 rfl ?_
  refine w_swIn X dL_law_40 (t := 1258) (off := 1218) rfl (by rw [hk]; decide) (by rw [hk]; decide) (by rw [hk]; rfl) ?_
  refine w_aload_n X dL_law_1258 rfl rfl rfl ?_
  refine w_aload_n X dL_law_1259 rfl rfl rfl ?_
  refine w_iload X dL_law_1260 rfl rfl ?_
  refine w_iconst X dL_law_1262 rfl ci_1 ?_
  refine w_iadd X dL_law_1263 rfl ?_
  refine w_sld X dL_law_1264 rfl hsc (j := (v4 + 1).toNatClampNeg) rfl y1 ?_
  refine w_aload_n X dL_law_1265 rfl rfl rfl ?_
  refine w_iload X dL_law_1266 rfl rfl ?_
  refine w_iconst X dL_law_1268 rfl ci_2 ?_
  refine w_iadd X dL_law_1269 rfl ?_
  refine w_sld X dL_law_1270 rfl hsc (j := (v4 + 2).toNatClampNeg) rfl y2 ?_
  refine w_aload_n X dL_law_1271 rfl rfl rfl ?_
  refine w_iload X dL_law_1272 rfl rfl ?_
  refine w_iconst X dL_law_1274 rfl ci_3 ?_
  refine w_iadd X dL_law_1275 rfl ?_
  refine w_sld X dL_law_1276 rfl hsc (j := (v4 + 3).toNatClampNeg) rfl y3 ?_
  refine w_aload_n X dL_law_1277 rfl rfl rfl ?_
  refine w_iload X dL_law_1278 rfl rfl ?_
  refine w_iconst X dL_law_1280 rfl ci_4 ?_
  refine w_iadd X dL_law_1281 rfl ?_
  refine w_sld X dL_law_1282 rfl hsc (j := (v4 + 4).toNatClampNeg) rfl y4 ?_
  refine w_aload_n X dL_law_1283 rfl rfl rfl ?_
  refine w_callLR X hl hZ1 hZ2 hB e1 ⟨by omega, by omega, by omega, by omega⟩ ?_
  refine w_istore X dL_law_1287 rfl rfl (Nat.le_of_ble_eq_true rfl) (ls' := [some (.ref 99999), some (.ref 0), some (.ref 188), some (.ref 233), some (.int v4), some (.int (gLr res)), none]) rfl ?_
  refine w_aload_n X dL_law_1289 rfl rfl rfl ?_
  refine w_aload_n X dL_law_1290 rfl rfl rfl ?_
  refine w_iload X dL_law_1291 rfl rfl ?_
  refine w_iconst X dL_law_1293 rfl ci_1 ?_
  refine w_iadd X dL_law_1294 rfl ?_
  refine w_sld X dL_law_1295 rfl hsc (j := (v4 + 1).toNatClampNeg) rfl y1 ?_
  refine w_aload_n X dL_law_1296 rfl rfl rfl ?_
  refine w_iload X dL_law_1297 rfl rfl ?_
  refine w_iconst X dL_law_1299 rfl ci_2 ?_
  refine w_iadd X dL_law_1300 rfl ?_
  refine w_sld X dL_law_1301 rfl hsc (j := (v4 + 2).toNatClampNeg) rfl y2 ?_
  refine w_aload_n X dL_law_1302 rfl rfl rfl ?_
  refine w_iload X dL_law_1303 rfl rfl ?_
  refine w_iconst X dL_law_1305 rfl ci_3 ?_
  refine w_iadd X dL_law_1306 rfl ?_
  refine w_sld X dL_law_1307 rfl hsc (j := (v4 + 3).toNatClampNeg) rfl y3 ?_
  refine w_aload_n X dL_law_1308 rfl rfl rfl ?_
  refine w_iload X dL_law_1309 rfl rfl ?_
  refine w_iconst X dL_law_1311 rfl ci_4 ?_
  refine w_iadd X dL_law_1312 rfl ?_
  refine w_sld X dL_law_1313 rfl hsc (j := (v4 + 4).toNatClampNeg) rfl y4 ?_
  refine w_callV X dL_law_1314 rfl vl_L_162 (kX11_rests l e2) S0_188 (As := [.int (xs (v4 + 1).toNatClampNeg), .int (xs (v4 + 2).toNatClampNeg), .int (xs (v4 + 3).toNatClampNeg), .int (xs (v4 + 4).toNatClampNeg)]) (st := []) rfl rfl (Nat.le_of_ble_eq_true rfl) ⟨by omega, by omega⟩ ⟨by omega, by omega⟩ (fun r h2 hF => ?_)
  obtain ⟨_, rfl, rfl, rfl⟩ := hF
  show wM p l e R s m args below meth c (ck + 1) (cn + 6) Q 7 D dA b0 ad S0 1317 [some (.ref 99999), some (.ref 0), some (.ref 188), some (.ref 233), some (.int v4), some (.int (gLr res)), none] [.int r2] h3
  refine w_istore X dL_law_1317 rfl rfl (Nat.le_of_ble_eq_true rfl) (ls' := [some (.ref 99999), some (.ref 0), some (.ref 188), some (.ref 233), some (.int v4), some (.int (gLr res)), some (.int r2)]) rfl ?_
  refine w_aload_n X dL_law_1319 rfl rfl rfl ?_
  refine w_callV X dL_law_1320 rfl vl_L_163 (kX11_thrown l (res := h3.1 188 0) rfl) S0_188 (As := []) (st := []) rfl rfl (Nat.le_of_ble_eq_true rfl) ⟨by omega, by omega⟩ ⟨by omega, by omega⟩ (fun r h2 hF => ?_)
  obtain ⟨_, rfl, rfl, rfl⟩ := hF
  show wM p l e R s m args below meth c (ck + 1) (cn + 6) Q 7 D dA b0 ad S0 1323 [some (.ref 99999), some (.ref 0), some (.ref 188), some (.ref 233), some (.int v4), some (.int (gLr res)), some (.int r2)] [.int (h3.1 188 0)] h3
  refine w_iload X dL_law_1323 rfl rfl ?_
  refine w_icmp_eq X dL_law_1325 rfl (t := 1330) rfl (fun _ => ?_) (fun hc => absurd e3 hc)
  refine w_iload X dL_law_1330 rfl rfl ?_
  have fin : wM p l e R s m args below meth c (ck + 1) (cn + 6) Q 7 D dA b0 ad S0 1347 [some (.ref 99999), some (.ref 0), some (.ref 188), some (.ref 233), some (.int v4), some (.int (gLr res)), some (.int r2)] [] h3 := by
    refine w_goto X dL_law_1347 (t := 1477) rfl ?_
    refine w_fg (ls2 := [some (.ref 99999), some (.ref 0), some (.ref 188), some (.ref 233), some (.int v4), none, none]) ⟨rfl, rfl, rfl, rfl, rfl, trivial⟩ ?_
    refine w_iinc X dL_law_1477 rfl (v := (v4 + 7)) rfl rfl (Nat.le_of_ble_eq_true rfl) (cinc_7 _) (ls' := [some (.ref 99999), some (.ref 0), some (.ref 188), some (.ref 233), some (.int (v4 + 7)), none, none]) rfl ?_
    refine w_goto X dL_law_1480 (t := 23) rfl ?_
    exact w_wid (Nat.le_refl _) (by omega) hN
  refine w_if_ne X dL_law_1332 rfl (t := 1347) rfl (fun _ => fin) (fun hz => ?_)
  have hs : ∃ v, res = some v := by
    cases res with
    | none => exact absurd hz (by unfold gLr; decide)
    | some v => exact ⟨v, rfl⟩
  obtain ⟨v, hv⟩ := hs
  obtain ⟨e5, e6⟩ := e4 v hv
  refine w_aload_n X dL_law_1335 rfl rfl rfl ?_
  refine w_iconst X dL_law_1336 rfl ci_0 ?_
  refine w_lald X dL_law_1337 rfl (j := 0) rfl S0_233 (by unfold vp_in; decide) ?_
  refine w_iload X dL_law_1338 rfl rfl ?_
  refine w_i2l X dL_law_1340 rfl ?_
  exact w_lcmp_eq X dL_law_1341 dL_law_1342 rfl (t := 1347) rfl (fun _ => fin) (fun hc => absurd (by rw [e6, e5]) hc)
end WX95

/-! ===== the law: run ===== -/
set_option maxHeartbeats 4000000 in
set_option maxRecDepth 100000 in
theorem law_run {p : Program} {l : Launch} {e : Env} {s : State} {m : MethodId} {below : List Frame} {meth : Method} {c : Code} {dC : Nat → ClassId} {dI : Nat → Nat → Nat} {g : Nat → Nat} {ty : Nat → ClassId} {b L qo : Nat} {xs : Nat → Int32} {Q : State → Prop} (hlt : l.stackTraces = false) (C0 : lX p c s m b (dC, dI) ty) (hX : va_X b L xs s s.heap) (hbl : b < s.heap.size) (hL : L ≤ 3072)
    {pl : Nat → Option Nat} {ac : Int64} {ft md : Int32} {Z : cZ} {P : cQ} {Y : rY} {pa kp : Nat → Int32} {I : rI} {tl : Nat → Int32} {wr tw : Int32} {o : Nat → Int64} {H : Heap} {locs : List Loc} {ls : Array Slot} {n j : Nat} (hn : n ≤ 3072) (hj : j + 6 ≤ L)
    (hV : lV (dC, dI) g ty qo (lA s) H (pl, ac, ft, md, Z, P) ac (Y, pa, kp, I, tl, wr, tw) o) (hB : bSt pl P md Z Y pa I tl) (hS : va_S (lA s) s.heap H locs) (hl : lv_has ls 8 [(0, .ref b), (1, .ref (g 0)), (2, .ref (g 8)), (3, .ref qo), (4, .int (nI j))])
    (K : ∀ (M' : lMt) (B' : lRt) (o' : Nat → Int64) (H' : Heap) (locs' : List Loc) (ls' : Array Slot), lV (dC, dI) g ty qo (lA s) H' M' M'.2.1 B' o' → lJ M' B' → va_S (lA s) s.heap H' locs' → lv_has ls' 8 [(0, .ref b), (1, .ref (g 0)), (2, .ref (g 8)), (3, .ref qo), (4, .int (nI j))] → W p l e room_1 s m #[Value.ref b] below meth c H' locs' (lCe M'.2.2.2.1 B'.1 (n + 1)) (lSl M'.2.2.2.1 B'.1 (n + 1)) Q (F0 m 378 ls' [])) :
    W p l e room_1 s m #[Value.ref b] below meth c H locs (lCe md Y n) (lSl md Y n) Q (F0 m 271 ls []) := by
  obtain ⟨hx, hb, hml, hown, hg, hK, hT, hTx, hN, hZ⟩ := C0
  have hA : ∀ q, s.heap.size ≤ q → lA s q := fun _ h => h
  have hbA : ¬ lA s b := Nat.not_le.mpr hbl
  have hKm := hK.sub (tys' := cTy ty) [0, 1, 2] rfl
  obtain ⟨⟨⟨⟨ρ, a1⟩, a2, a3, a4, a5⟩, hC⟩, hz0, h4⟩ := id hB
  have b1 := bt_L hB
  have b2 := md_6000 a5.1 a5.2
  have b3 := lw_rc
  have b4 := lw_rs
  obtain ⟨hPL, hDL⟩ := lV_L hV
  have hF := cc_free hDL hS hA
  refine lv_aload_n hx hb dL_law_271 rfl (lv_at hl 1 rfl) ?_
  refine lv_aload_n hx hb dL_law_272 rfl (lv_at hl 0 rfl) ?_
  refine lv_iload hx hb dL_law_273 (lv_at hl 4 rfl) ?_
  refine lv_iconst (v := 1) hx hb dL_law_275 (by decide) ?_
  refine lv_iadd hx hb dL_law_276 ?_
  refine va_sld hx hb hX hbl hbA hS (sc_in (k := 1) (by omega) hL) dL_law_277 ?_
  refine lv_aload_n hx hb dL_law_278 rfl (lv_at hl 0 rfl) ?_
  refine lv_iload hx hb dL_law_279 (lv_at hl 4 rfl) ?_
  refine lv_iconst (v := 2) hx hb dL_law_281 (by decide) ?_
  refine lv_iadd hx hb dL_law_282 ?_
  refine va_sld hx hb hX hbl hbA hS (sc_in (k := 2) (by omega) hL) dL_law_283 ?_
  refine lv_aload_n hx hb dL_law_284 rfl (lv_at hl 3 rfl) ?_
  refine hX_i (n := 4) (As := [.ref (g 0), .int (xs (nI j + 1).toNatClampNeg), .int (xs (nI j + 2).toNatClampNeg), .ref qo]) (rest := []) (ws := lW g ty qo o (pl, ac, ft, md, Z, P)) (wo := fun u : ((Nat → Option Nat) × Int64 × Int32 × Int32 × cZ × cQ) × (Nat → Int64) => lW g ty qo u.2 u.1) (f := fun u : ((Nat → Option Nat) × Int64 × Int32 × Int32 × cZ × cQ) × (Nat → Int64) => 18 * (u.1.2.2.2.1.toNatClampNeg - md.toNatClampNeg) + 1) (g := fun u : ((Nat → Option Nat) × Int64 × Int32 × Int32 × cZ × cQ) × (Nat → Int64) => 101 * (u.1.2.2.2.1.toNatClampNeg - md.toNatClampNeg) + 8) hx hb hml hown hg hT hTx hN hZ (c_L_run l dC dI g ty H.size (hsum H) pl ac ft md Z P qo o (xs (nI j + 1).toNatClampNeg) (xs (nI j + 2).toNatClampNeg) a2 hC.2.2 a5 hlt) (ch_cw hg wM_L_53 wH_L_run wI_L wS_L_run (by decide +kernel) ⟨Nat.le_of_ble_eq_true rfl, Nat.le_of_ble_eq_true rfl⟩) hKm hPL hDL hS hA rfl hl.1 rfl (Nat.le_of_ble_eq_true rfl) dL_law_285 ⟨by show lCe md Y n + (18 * (6000 - md.toNatClampNeg) + 1) ≤ room_1.cells; unfold lCe; omega, by show lSl md Y n + (101 * (6000 - md.toNatClampNeg) + 8) ≤ room_1.slots; unfold lSl; omega⟩ (fun k u H1 locs1 hp hP1 hD1 hk1 hS => ?_)
  obtain ⟨M', o'⟩ := u
  have hV := lV_m hV hF hP1 hD1 hk1
  generalize H1 = H at hV hS ⊢
  clear hP1 hD1 hk1 hF hPL hDL
  obtain ⟨⟨N, F, hms, hgd, hres⟩, hmd, b5⟩ := lo_run (M' := M') (o' := o') a2 hC.2.2 a5 hp
  refine W.widen (k := lCe M'.2.2.2.1 Y (n + 1)) (n := lSl M'.2.2.2.1 Y (n + 1)) (by show lCe md Y n + (18 * (M'.2.2.2.1.toNatClampNeg - md.toNatClampNeg) + 1) ≤ _; unfold lCe; omega) (by show lSl md Y n + (101 * (M'.2.2.2.1.toNatClampNeg - md.toNatClampNeg) + 8) ≤ _; unfold lSl; omega) ?_
  refine lv_istore (lv' := [(5, .int k), (0, .ref b), (1, .ref (g 0)), (2, .ref (g 8)), (3, .ref qo), (4, .int (nI j))]) hx hb dL_law_288 hl (by decide) rfl (fun ls hl => ?_)
  refine lv_aload_n hx hb dL_law_290 rfl (lv_at hl 3 rfl) ?_
  refine lv_aload_n hx hb dL_law_291 rfl (lv_at hl 1 rfl) ?_
  refine lv_iload hx hb dL_law_292 (lv_at hl 5 rfl) ?_
  refine lv_iconst (v := 1) hx hb dL_law_294 (by decide) ?_
  refine lv_iadd hx hb dL_law_295 ?_
  refine va_sld hx hb hX hbl hbA hS (sc_in (k := 1) (by omega) hL) dL_law_296 ?_
  refine lv_aload_n hx hb dL_law_297 rfl (lv_at hl 1 rfl) ?_
  refine lv_iload hx hb dL_law_298 (lv_at hl 5 rfl) ?_
  refine lv_iconst (v := 2) hx hb dL_law_300 (by decide) ?_
  refine lv_iadd hx hb dL_law_301 ?_
  refine va_sld hx hb hX hbl hbA hS (sc_in (k := 2) (by omega) hL) dL_law_302 ?_
  have hF := cc_free hV.2.1.2.2 hS hA
  refine hV_i (C := RX12) (n := 2) (As := [.int (xs (nI j + 1).toNatClampNeg), .int (xs (nI j + 2).toNatClampNeg)]) (rest := []) (ws := lWr g ty ac (Y, pa, kp, I, tl, wr, tw)) (wo := fun u : rY × (Nat → Int32) × (Nat → Int32) × rI × (Nat → Int32) × Int64 × Int32 × Int32 => lWr g ty u.2.2.2.2.2.1 (u.1, u.2.1, u.2.2.1, u.2.2.2.1, u.2.2.2.2.1, u.2.2.2.2.2.2.1, u.2.2.2.2.2.2.2)) (f := fun u : rY × (Nat → Int32) × (Nat → Int32) × rI × (Nat → Int32) × Int64 × Int32 × Int32 => u.1.2.2.2.2.2.2.2.1 - Y.2.2.2.2.2.2.2.1) (g := fun u : rY × (Nat → Int32) × (Nat → Int32) × rI × (Nat → Int32) × Int64 × Int32 × Int32 => 10 * (u.1.2.2.2.2.2.2.2.1 - Y.2.2.2.2.2.2.2.1) + 2 * (u.1.2.2.2.2.2.2.2.2.1 - Y.2.2.2.2.2.2.2.2.1)) hx hb hml hown hg hT (c_X12_run l dC dI g ty H.size (hsum H) Y pa kp 0 I tl ac wr tw pl P md Z N F (xs (nI j + 1).toNatClampNeg) (xs (nI j + 2).toNatClampNeg) hB hms hgd rfl rNr_holds) (cv_of hg wM_L_56 wN_X12_run wL_X12_X12_run wK_X12_run wI_X12 (by decide +kernel) ⟨Nat.le_of_ble_eq_true rfl, Nat.le_of_ble_eq_true rfl⟩) hK hV.1.2.2 hV.2.1.2.2 hS hA (va_recv hK hV.1.2.2 (ci := 14) (q0 := 0) rfl rfl) rfl hl.1 rfl (Nat.le_of_ble_eq_true rfl) dL_law_303 ⟨by show lCe _ _ _ + (96000 - Y.2.2.2.2.2.2.2.1) ≤ room_1.cells; unfold lCe; omega, by show lSl _ _ _ + (10 * (96000 - Y.2.2.2.2.2.2.2.1) + 2 * (1542237 - Y.2.2.2.2.2.2.2.2.1)) ≤ room_1.slots; unfold lSl; omega⟩ (fun rz u H1 locs1 hp hP1 hD1 hk1 hS => ?_)
  obtain ⟨r', Y', pa', kp', I', tl', ac', wr', tw', rfl, rfl, ho, hLL, b6⟩ := hp
  have hV := lV_r (ac' := ac') (B' := (Y', pa', kp', I', tl', wr', tw')) hV hF hP1 hD1 hk1
  generalize H1 = H at hV hS ⊢
  clear hP1 hD1 hk1 hF
  obtain ⟨hr1, hac, hr2, hr3⟩ := hres ho
  refine W.widen (k := lCe M'.2.2.2.1 Y' (n + 1)) (n := lSl M'.2.2.2.1 Y' (n + 1)) (by show lCe _ _ _ + (Y'.2.2.2.2.2.2.2.1 - Y.2.2.2.2.2.2.2.1) ≤ _; unfold lCe; omega) (by show lSl _ _ _ + (10 * (Y'.2.2.2.2.2.2.2.1 - Y.2.2.2.2.2.2.2.1) + 2 * (Y'.2.2.2.2.2.2.2.2.1 - Y.2.2.2.2.2.2.2.2.1)) ≤ _; unfold lSl; omega) ?_
  refine lv_istore (lv' := [(6, .int r'), (5, .int k), (0, .ref b), (1, .ref (g 0)), (2, .ref (g 8)), (3, .ref qo), (4, .int (nI j))]) hx hb dL_law_306 hl (by decide) rfl (fun ls hl => ?_)
  have hF := cc_free hV.2.1.2.2 hS hA
  refine lv_aload_n hx hb dL_law_308 rfl (lv_at hl 4 rfl) ?_
  refine kV_i (C := RX12) (n := 0) (As := []) (rest := []) (ws := lWr g ty ac' (Y', pa', kp', I', tl', wr', tw')) (wo := fun _ : Unit => lWr g ty ac' (Y', pa', kp', I', tl', wr', tw')) hx hb hml hown hg hT (c_X12_thrown l dC dI g ty H.size Y' pa' kp' 0 I' tl' ac' wr' tw') (cv_of hg wM_L_45 wN_X12_thrown wL_X12_X12_thrown wK_X12_thrown wI_X12 (by decide +kernel) ⟨Nat.le_of_ble_eq_true rfl, Nat.le_of_ble_eq_true rfl⟩) hK hV.1.2.2 hV.2.1.2.2 hS hA (va_recv hK hV.1.2.2 (ci := 14) (q0 := 0) rfl rfl) rfl hl.1 rfl (Nat.le_of_ble_eq_true rfl) dL_law_309 ⟨by show lCe _ _ _ + 0 ≤ room_1.cells; unfold lCe; omega, by show lSl _ _ _ + 0 ≤ room_1.slots; unfold lSl; omega⟩ (fun rt u9 H1 locs1 hp hP1 hD1 hk1 hS => ?_)
  have hV := lV_r hV hF hP1 hD1 hk1
  generalize H1 = H at hV hS ⊢
  clear hP1 hD1 hk1 hF
  have hp : I'.2.2.2.2.2 = rt := hp
  refine lv_iload hx hb dL_law_312 (lv_at hl 1 rfl) ?_
  refine lv_icmp_eq (tgt := 319) hx hb dL_law_314 (by decide) (fun c1 => ?_) (fun c1 => absurd (hp.symm.trans hr2) c1)
  refine lv_iload hx hb dL_law_319 (lv_at hl 1 rfl) ?_
  refine lv_if_ne (tgt := 336) hx hb dL_law_321 (by decide) (fun c2 => ?_) (fun c2 => ?_)
  · refine lv_goto (tgt := 378) hx hb dL_law_336 (by decide) ?_
    exact K M' (Y', pa', kp', I', tl', wr', tw') o' _ _ _ (hac ▸ hV) hr1 hS (lv_sub hl [2, 3, 4, 5, 6] rfl)
  · refine lv_aload_n hx hb dL_law_324 rfl (lv_at hl 5 rfl) ?_
    refine lv_iconst (v := 0) hx hb dL_law_325 (by decide) ?_
    refine va_lald hx hb hK hV.1.1 0 2 rfl rfl (by show ¬ ((0 : Int32) < 0 ∨ 1 ≤ (0 : Int32).toNatClampNeg); decide) dL_law_326 ?_
    refine lv_iload hx hb dL_law_327 (lv_at hl 0 rfl) ?_
    refine lv_i2l hx hb dL_law_329 rfl ?_
    refine W.lcmp hx hb dL_law_330 ?_
    refine lv_if_eq (tgt := 336) hx hb dL_law_331 (by decide) (fun c3 => ?_) (fun c3 => absurd ((lg_cmp_eq _ _).mpr (hr3 c2)) c3)
    refine lv_goto (tgt := 378) hx hb dL_law_336 (by decide) ?_
    exact K M' (Y', pa', kp', I', tl', wr', tw') o' _ _ _ (hac ▸ hV) hr1 hS (lv_sub hl [2, 3, 4, 5, 6] rfl)

/-! ===== the law: load, acc, count ===== -/
set_option maxHeartbeats 4000000 in
set_option maxRecDepth 100000 in
theorem law_load {p : Program} {l : Launch} {e : Env} {s : State} {m : MethodId} {below : List Frame} {meth : Method} {c : Code} {dC : Nat → ClassId} {dI : Nat → Nat → Nat} {g : Nat → Nat} {ty : Nat → ClassId} {b L qo : Nat} {xs : Nat → Int32} {Q : State → Prop} (hlt : l.stackTraces = false) (C0 : lX p c s m b (dC, dI) ty) (hX : va_X b L xs s s.heap) (hbl : b < s.heap.size) (hL : L ≤ 3072)
    {pl : Nat → Option Nat} {ac : Int64} {ft md : Int32} {Z : cZ} {P : cQ} {Y : rY} {pa kp : Nat → Int32} {I : rI} {tl : Nat → Int32} {wr tw : Int32} {o : Nat → Int64} {H : Heap} {locs : List Loc} {ls : Array Slot} {n j : Nat} (hn : n ≤ 3072) (hj : j + 6 ≤ L)
    (hV : lV (dC, dI) g ty qo (lA s) H (pl, ac, ft, md, Z, P) ac (Y, pa, kp, I, tl, wr, tw) o) (hB : bSt pl P md Z Y pa I tl) (hS : va_S (lA s) s.heap H locs) (hl : lv_has ls 8 [(0, .ref b), (1, .ref (g 0)), (2, .ref (g 8)), (3, .ref qo), (4, .int (nI j))])
    (K : ∀ (M' : lMt) (B' : lRt) (o' : Nat → Int64) (H' : Heap) (locs' : List Loc) (ls' : Array Slot), lV (dC, dI) g ty qo (lA s) H' M' M'.2.1 B' o' → lJ M' B' → va_S (lA s) s.heap H' locs' → lv_has ls' 8 [(0, .ref b), (1, .ref (g 0)), (2, .ref (g 8)), (3, .ref qo), (4, .int (nI j))] → W p l e room_1 s m #[Value.ref b] below meth c H' locs' (lCe M'.2.2.2.1 B'.1 (n + 1)) (lSl M'.2.2.2.1 B'.1 (n + 1)) Q (F0 m 378 ls' [])) :
    W p l e room_1 s m #[Value.ref b] below meth c H locs (lCe md Y n) (lSl md Y n) Q (F0 m 167 ls []) := by
  obtain ⟨hx, hb, hml, hown, hg, hK, hT, hTx, hN, hZ⟩ := C0
  have hA : ∀ q, s.heap.size ≤ q → lA s q := fun _ h => h
  have hbA : ¬ lA s b := Nat.not_le.mpr hbl
  have hKm := hK.sub (tys' := cTy ty) [0, 1, 2] rfl
  obtain ⟨⟨⟨⟨ρ, a1⟩, a2, a3, a4, a5⟩, hC⟩, hz0, h4⟩ := id hB
  have b1 := bt_L hB
  have b2 := md_6000 a5.1 a5.2
  have b3 := lw_rc
  have b4 := lw_rs
  obtain ⟨hPL, hDL⟩ := lV_L hV
  have hF := cc_free hDL hS hA
  refine lv_aload_n hx hb dL_law_167 rfl (lv_at hl 1 rfl) ?_
  refine lv_aload_n hx hb dL_law_168 rfl (lv_at hl 0 rfl) ?_
  refine lv_iload hx hb dL_law_169 (lv_at hl 4 rfl) ?_
  refine lv_iconst (v := 1) hx hb dL_law_171 (by decide) ?_
  refine lv_iadd hx hb dL_law_172 ?_
  refine va_sld hx hb hX hbl hbA hS (sc_in (k := 1) (by omega) hL) dL_law_173 ?_
  refine lv_aload_n hx hb dL_law_174 rfl (lv_at hl 0 rfl) ?_
  refine lv_iload hx hb dL_law_175 (lv_at hl 4 rfl) ?_
  refine lv_iconst (v := 2) hx hb dL_law_177 (by decide) ?_
  refine lv_iadd hx hb dL_law_178 ?_
  refine va_sld hx hb hX hbl hbA hS (sc_in (k := 2) (by omega) hL) dL_law_179 ?_
  refine lv_aload_n hx hb dL_law_180 rfl (lv_at hl 0 rfl) ?_
  refine lv_iload hx hb dL_law_181 (lv_at hl 4 rfl) ?_
  refine lv_iconst (v := 3) hx hb dL_law_183 (by decide) ?_
  refine lv_iadd hx hb dL_law_184 ?_
  refine va_sld hx hb hX hbl hbA hS (sc_in (k := 3) (by omega) hL) dL_law_185 ?_
  refine lv_aload_n hx hb dL_law_186 rfl (lv_at hl 0 rfl) ?_
  refine lv_iload hx hb dL_law_187 (lv_at hl 4 rfl) ?_
  refine lv_iconst (v := 4) hx hb dL_law_189 (by decide) ?_
  refine lv_iadd hx hb dL_law_190 ?_
  refine va_sld hx hb hX hbl hbA hS (sc_in (k := 4) (by omega) hL) dL_law_191 ?_
  refine lv_aload_n hx hb dL_law_192 rfl (lv_at hl 0 rfl) ?_
  refine lv_iload hx hb dL_law_193 (lv_at hl 4 rfl) ?_
  refine lv_iconst (v := 5) hx hb dL_law_195 (by decide) ?_
  refine lv_iadd hx hb dL_law_196 ?_
  refine va_sld hx hb hX hbl hbA hS (sc_in (k := 5) (by omega) hL) dL_law_197 ?_
  refine lv_aload_n hx hb dL_law_198 rfl (lv_at hl 3 rfl) ?_
  refine kX_i (n := 7) (As := [.ref (g 0), .int (xs (nI j + 1).toNatClampNeg), .int (xs (nI j + 2).toNatClampNeg), .int (xs (nI j + 3).toNatClampNeg), .int (xs (nI j + 4).toNatClampNeg), .int (xs (nI j + 5).toNatClampNeg), .ref qo]) (rest := []) (ws := lW g ty qo o (pl, ac, ft, md, Z, P)) (wo := fun u : ((Nat → Option Nat) × Int64 × Int32 × Int32 × cZ × cQ) × (Nat → Int64) => lW g ty qo u.2 u.1) hx hb hml hown hg hT hTx hN hZ (c_L_load l dC dI g ty H.size (hsum H) pl ac ft md Z P qo o (xs (nI j + 1).toNatClampNeg) (xs (nI j + 2).toNatClampNeg) (xs (nI j + 3).toNatClampNeg) (xs (nI j + 4).toNatClampNeg) (xs (nI j + 5).toNatClampNeg) hlt) (ch_cw hg wM_L_49 wH_L_load wI_L wS_L_load (by decide +kernel) ⟨Nat.le_of_ble_eq_true rfl, Nat.le_of_ble_eq_true rfl⟩) hKm hPL hDL hS hA rfl hl.1 rfl (Nat.le_of_ble_eq_true rfl) dL_law_199 ⟨by show lCe md Y n + 1 ≤ room_1.cells; unfold lCe; omega, by show lSl md Y n + 8 ≤ room_1.slots; unfold lSl; omega⟩ (fun k u H1 locs1 hp hP1 hD1 hk1 hS => ?_)
  obtain ⟨M', o'⟩ := u
  have hV := lV_m hV hF hP1 hD1 hk1
  generalize H1 = H at hV hS ⊢
  clear hP1 hD1 hk1 hF hPL hDL
  obtain ⟨hmd, hac, hres⟩ := lo_load hp
  refine W.widen (k := lCe M'.2.2.2.1 Y (n + 1)) (n := lSl M'.2.2.2.1 Y (n + 1)) (by show lCe md Y n + 1 ≤ _; rw [hmd]; unfold lCe; omega) (by show lSl md Y n + 8 ≤ _; rw [hmd]; unfold lSl; omega) ?_
  refine lv_istore (lv' := [(5, .int k), (0, .ref b), (1, .ref (g 0)), (2, .ref (g 8)), (3, .ref qo), (4, .int (nI j))]) hx hb dL_law_202 hl (by decide) rfl (fun ls hl => ?_)
  refine lv_aload_n hx hb dL_law_204 rfl (lv_at hl 3 rfl) ?_
  refine lv_aload_n hx hb dL_law_205 rfl (lv_at hl 1 rfl) ?_
  refine lv_iload hx hb dL_law_206 (lv_at hl 5 rfl) ?_
  refine lv_iconst (v := 1) hx hb dL_law_208 (by decide) ?_
  refine lv_iadd hx hb dL_law_209 ?_
  refine va_sld hx hb hX hbl hbA hS (sc_in (k := 1) (by omega) hL) dL_law_210 ?_
  refine lv_aload_n hx hb dL_law_211 rfl (lv_at hl 1 rfl) ?_
  refine lv_iload hx hb dL_law_212 (lv_at hl 5 rfl) ?_
  refine lv_iconst (v := 2) hx hb dL_law_214 (by decide) ?_
  refine lv_iadd hx hb dL_law_215 ?_
  refine va_sld hx hb hX hbl hbA hS (sc_in (k := 2) (by omega) hL) dL_law_216 ?_
  refine lv_aload_n hx hb dL_law_217 rfl (lv_at hl 1 rfl) ?_
  refine lv_iload hx hb dL_law_218 (lv_at hl 5 rfl) ?_
  refine lv_iconst (v := 3) hx hb dL_law_220 (by decide) ?_
  refine lv_iadd hx hb dL_law_221 ?_
  refine va_sld hx hb hX hbl hbA hS (sc_in (k := 3) (by omega) hL) dL_law_222 ?_
  refine lv_aload_n hx hb dL_law_223 rfl (lv_at hl 1 rfl) ?_
  refine lv_iload hx hb dL_law_224 (lv_at hl 5 rfl) ?_
  refine lv_iconst (v := 4) hx hb dL_law_226 (by decide) ?_
  refine lv_iadd hx hb dL_law_227 ?_
  refine va_sld hx hb hX hbl hbA hS (sc_in (k := 4) (by omega) hL) dL_law_228 ?_
  refine lv_aload_n hx hb dL_law_229 rfl (lv_at hl 1 rfl) ?_
  refine lv_iload hx hb dL_law_230 (lv_at hl 5 rfl) ?_
  refine lv_iconst (v := 5) hx hb dL_law_232 (by decide) ?_
  refine lv_iadd hx hb dL_law_233 ?_
  refine va_sld hx hb hX hbl hbA hS (sc_in (k := 5) (by omega) hL) dL_law_234 ?_
  have hF := cc_free hV.2.1.2.2 hS hA
  have b5 : M'.2.2.2.1.toNatClampNeg ≤ 6001 := by rw [hmd]; omega
  refine kV_i (C := RX12) (n := 5) (As := [.int (xs (nI j + 1).toNatClampNeg), .int (xs (nI j + 2).toNatClampNeg), .int (xs (nI j + 3).toNatClampNeg), .int (xs (nI j + 4).toNatClampNeg), .int (xs (nI j + 5).toNatClampNeg)]) (rest := []) (ws := lWr g ty ac (Y, pa, kp, I, tl, wr, tw)) (wo := fun u : rI => lWr g ty ac (Y, pa, kp, u, tl, wr, tw)) hx hb hml hown hg hT (c_X12_load l dC dI g ty H.size Y pa kp 0 I tl ac wr tw (xs (nI j + 1).toNatClampNeg) (xs (nI j + 2).toNatClampNeg) (xs (nI j + 3).toNatClampNeg) (xs (nI j + 4).toNatClampNeg) (xs (nI j + 5).toNatClampNeg)) (cv_of hg wM_L_52 wN_X12_load wL_X12_X12_load wK_X12_load wI_X12 (by decide +kernel) ⟨Nat.le_of_ble_eq_true rfl, Nat.le_of_ble_eq_true rfl⟩) hK hV.1.2.2 hV.2.1.2.2 hS hA (va_recv hK hV.1.2.2 (ci := 14) (q0 := 0) rfl rfl) rfl hl.1 rfl (Nat.le_of_ble_eq_true rfl) dL_law_235 ⟨by show lCe _ _ _ + 0 ≤ room_1.cells; unfold lCe; omega, by show lSl _ _ _ + 0 ≤ room_1.slots; unfold lSl; omega⟩ (fun r' I' H1 locs1 hp hP1 hD1 hk1 hS => ?_)
  have hV := lV_r hV hF hP1 hD1 hk1
  generalize H1 = H at hV hS ⊢
  clear hP1 hD1 hk1 hF
  obtain ⟨hr1, hr2, hr3⟩ := hres hB hp
  refine lv_istore (lv' := [(6, .int r'), (5, .int k), (0, .ref b), (1, .ref (g 0)), (2, .ref (g 8)), (3, .ref qo), (4, .int (nI j))]) hx hb dL_law_238 hl (by decide) rfl (fun ls hl => ?_)
  have hF := cc_free hV.2.1.2.2 hS hA
  refine lv_aload_n hx hb dL_law_240 rfl (lv_at hl 4 rfl) ?_
  refine kV_i (C := RX12) (n := 0) (As := []) (rest := []) (ws := lWr g ty ac (Y, pa, kp, I', tl, wr, tw)) (wo := fun _ : Unit => lWr g ty ac (Y, pa, kp, I', tl, wr, tw)) hx hb hml hown hg hT (c_X12_thrown l dC dI g ty H.size Y pa kp 0 I' tl ac wr tw) (cv_of hg wM_L_45 wN_X12_thrown wL_X12_X12_thrown wK_X12_thrown wI_X12 (by decide +kernel) ⟨Nat.le_of_ble_eq_true rfl, Nat.le_of_ble_eq_true rfl⟩) hK hV.1.2.2 hV.2.1.2.2 hS hA (va_recv hK hV.1.2.2 (ci := 14) (q0 := 0) rfl rfl) rfl hl.1 rfl (Nat.le_of_ble_eq_true rfl) dL_law_241 ⟨by show lCe _ _ _ + 0 ≤ room_1.cells; unfold lCe; omega, by show lSl _ _ _ + 0 ≤ room_1.slots; unfold lSl; omega⟩ (fun rt u9 H1 locs1 hp hP1 hD1 hk1 hS => ?_)
  have hV := lV_r hV hF hP1 hD1 hk1
  generalize H1 = H at hV hS ⊢
  clear hP1 hD1 hk1 hF
  have hp : I'.2.2.2.2.2 = rt := hp
  refine lv_iload hx hb dL_law_244 (lv_at hl 1 rfl) ?_
  refine lv_icmp_eq (tgt := 251) hx hb dL_law_246 (by decide) (fun c1 => ?_) (fun c1 => absurd (hp.symm.trans hr2) c1)
  refine lv_iload hx hb dL_law_251 (lv_at hl 1 rfl) ?_
  refine lv_if_ne (tgt := 268) hx hb dL_law_253 (by decide) (fun c2 => ?_) (fun c2 => ?_)
  · refine lv_goto (tgt := 378) hx hb dL_law_268 (by decide) ?_
    exact K M' (Y, pa, kp, I', tl, wr, tw) o' _ _ _ (hac ▸ hV) hr1 hS (lv_sub hl [2, 3, 4, 5, 6] rfl)
  · refine lv_aload_n hx hb dL_law_256 rfl (lv_at hl 5 rfl) ?_
    refine lv_iconst (v := 0) hx hb dL_law_257 (by decide) ?_
    refine va_lald hx hb hK hV.1.1 0 2 rfl rfl (by show ¬ ((0 : Int32) < 0 ∨ 1 ≤ (0 : Int32).toNatClampNeg); decide) dL_law_258 ?_
    refine lv_iload hx hb dL_law_259 (lv_at hl 0 rfl) ?_
    refine lv_i2l hx hb dL_law_261 rfl ?_
    refine W.lcmp hx hb dL_law_262 ?_
    refine lv_if_eq (tgt := 268) hx hb dL_law_263 (by decide) (fun c3 => ?_) (fun c3 => absurd ((lg_cmp_eq _ _).mpr (hr3 c2)) c3)
    refine lv_goto (tgt := 378) hx hb dL_law_268 (by decide) ?_
    exact K M' (Y, pa, kp, I', tl, wr, tw) o' _ _ _ (hac ▸ hV) hr1 hS (lv_sub hl [2, 3, 4, 5, 6] rfl)
set_option maxHeartbeats 4000000 in
set_option maxRecDepth 100000 in
theorem law_acc {p : Program} {l : Launch} {e : Env} {s : State} {m : MethodId} {below : List Frame} {meth : Method} {c : Code} {dC : Nat → ClassId} {dI : Nat → Nat → Nat} {g : Nat → Nat} {ty : Nat → ClassId} {b L qo : Nat} {xs : Nat → Int32} {Q : State → Prop} (hlt : l.stackTraces = false) (C0 : lX p c s m b (dC, dI) ty) (hX : va_X b L xs s s.heap) (hbl : b < s.heap.size) (hL : L ≤ 3072)
    {pl : Nat → Option Nat} {ac : Int64} {ft md : Int32} {Z : cZ} {P : cQ} {Y : rY} {pa kp : Nat → Int32} {I : rI} {tl : Nat → Int32} {wr tw : Int32} {o : Nat → Int64} {H : Heap} {locs : List Loc} {ls : Array Slot} {n j : Nat} (hn : n ≤ 3072) (hj : j + 6 ≤ L)
    (hV : lV (dC, dI) g ty qo (lA s) H (pl, ac, ft, md, Z, P) ac (Y, pa, kp, I, tl, wr, tw) o) (hB : bSt pl P md Z Y pa I tl) (hS : va_S (lA s) s.heap H locs) (hl : lv_has ls 8 [(0, .ref b), (1, .ref (g 0)), (2, .ref (g 8)), (3, .ref qo), (4, .int (nI j))])
    (K : ∀ (M' : lMt) (B' : lRt) (o' : Nat → Int64) (H' : Heap) (locs' : List Loc) (ls' : Array Slot), lV (dC, dI) g ty qo (lA s) H' M' M'.2.1 B' o' → lJ M' B' → va_S (lA s) s.heap H' locs' → lv_has ls' 8 [(0, .ref b), (1, .ref (g 0)), (2, .ref (g 8)), (3, .ref qo), (4, .int (nI j))] → W p l e room_1 s m #[Value.ref b] below meth c H' locs' (lCe M'.2.2.2.1 B'.1 (n + 1)) (lSl M'.2.2.2.1 B'.1 (n + 1)) Q (F0 m 378 ls' [])) :
    W p l e room_1 s m #[Value.ref b] below meth c H locs (lCe md Y n) (lSl md Y n) Q (F0 m 339 ls []) := by
  obtain ⟨hx, hb, hml, hown, hg, hK, hT, hTx, hN, hZ⟩ := C0
  have hA : ∀ q, s.heap.size ≤ q → lA s q := fun _ h => h
  have hbA : ¬ lA s b := Nat.not_le.mpr hbl
  have hKm := hK.sub (tys' := cTy ty) [0, 1, 2] rfl
  obtain ⟨⟨⟨⟨ρ, a1⟩, a2, a3, a4, a5⟩, hC⟩, hz0, h4⟩ := id hB
  have b1 := bt_L hB
  have b2 := md_6000 a5.1 a5.2
  have b3 := lw_rc
  have b4 := lw_rs
  have hF := cc_free hV.2.1.2.1 hS hA
  refine lv_aload_n hx hb dL_law_339 rfl (lv_at hl 1 rfl) ?_
  refine kV_l (C := RX11) (n := 0) (As := []) (rest := []) (ws := lWm g ty (pl, ac, ft, md, Z, P)) (wo := fun _ : Unit => lWm g ty (pl, ac, ft, md, Z, P)) hx hb hml hown hg hT (c_X11_acc l dC dI g ty H.size pl ac ft md Z P) (cv_of hg wM_L_57 wN_X11_acc wL_X11_X11_acc wK_X11_acc wI_X11 (by decide +kernel) ⟨Nat.le_of_ble_eq_true rfl, Nat.le_of_ble_eq_true rfl⟩) hKm hV.1.2.1 hV.2.1.2.1 hS hA (va_recv hK hV.1.2.1 (ci := 13) (q0 := 0) rfl rfl) rfl hl.1 rfl (Nat.le_of_ble_eq_true rfl) dL_law_340 ⟨by show lCe _ _ _ + 0 ≤ room_1.cells; unfold lCe; omega, by show lSl _ _ _ + 0 ≤ room_1.slots; unfold lSl; omega⟩ (fun r1 u9 H1 locs1 hp hP1 hD1 hk1 hS => ?_)
  have hV := lV_n hV hF hP1 hD1 hk1
  generalize H1 = H at hV hS ⊢
  clear hP1 hD1 hk1 hF
  have hp : ac = r1 := hp
  subst hp
  have hF := cc_free hV.2.1.2.2 hS hA
  refine lv_aload_n hx hb dL_law_343 rfl (lv_at hl 2 rfl) ?_
  refine kV_l (C := RX12) (n := 0) (As := []) (rest := [.long ac]) (ws := lWr g ty ac (Y, pa, kp, I, tl, wr, tw)) (wo := fun u : rI => lWr g ty ac (Y, pa, kp, u, tl, wr, tw)) hx hb hml hown hg hT (c_X12_acc l dC dI g ty H.size Y pa kp 0 I tl ac wr tw) (cv_of hg wM_L_61 wN_X12_acc wL_X12_X12_acc wK_X12_acc wI_X12 (by decide +kernel) ⟨Nat.le_of_ble_eq_true rfl, Nat.le_of_ble_eq_true rfl⟩) hK hV.1.2.2 hV.2.1.2.2 hS hA (va_recv hK hV.1.2.2 (ci := 14) (q0 := 0) rfl rfl) rfl hl.1 rfl (Nat.le_of_ble_eq_true rfl) dL_law_344 ⟨by show lCe _ _ _ + 0 ≤ room_1.cells; unfold lCe; omega, by show lSl _ _ _ + 0 ≤ room_1.slots; unfold lSl; omega⟩ (fun r2 I' H1 locs1 hp hP1 hD1 hk1 hS => ?_)
  have hV := lV_r hV hF hP1 hD1 hk1
  generalize H1 = H at hV hS ⊢
  clear hP1 hD1 hk1 hF
  obtain ⟨rfl, rfl⟩ := hp
  refine W.lcmp hx hb dL_law_347 ?_
  refine lv_if_eq (tgt := 378) hx hb dL_law_348 (by decide) (fun c3 => ?_) (fun c3 => absurd ((lg_cmp_eq _ _).mpr rfl) c3)
  refine W.widen (k := lCe md Y (n + 1)) (n := lSl md Y (n + 1)) (by show lCe _ _ _ + 0 + 0 ≤ _; unfold lCe; omega) (by show lSl _ _ _ + 0 + 0 ≤ _; unfold lSl; omega) ?_
  exact K (pl, ac, ft, md, Z, P) (Y, pa, kp, (I.1, I.2.1, I.2.2.1, I.2.2.2.1, I.2.2.2.2.1, 0), tl, wr, tw) o _ _ _ hV (bs_thr hB 0) hS hl
set_option maxHeartbeats 4000000 in
set_option maxRecDepth 100000 in
theorem law_count {p : Program} {l : Launch} {e : Env} {s : State} {m : MethodId} {below : List Frame} {meth : Method} {c : Code} {dC : Nat → ClassId} {dI : Nat → Nat → Nat} {g : Nat → Nat} {ty : Nat → ClassId} {b L qo : Nat} {xs : Nat → Int32} {Q : State → Prop} (hlt : l.stackTraces = false) (C0 : lX p c s m b (dC, dI) ty) (hX : va_X b L xs s s.heap) (hbl : b < s.heap.size) (hL : L ≤ 3072)
    {pl : Nat → Option Nat} {ac : Int64} {ft md : Int32} {Z : cZ} {P : cQ} {Y : rY} {pa kp : Nat → Int32} {I : rI} {tl : Nat → Int32} {wr tw : Int32} {o : Nat → Int64} {H : Heap} {locs : List Loc} {ls : Array Slot} {n j : Nat} (hn : n ≤ 3072) (hj : j + 6 ≤ L)
    (hV : lV (dC, dI) g ty qo (lA s) H (pl, ac, ft, md, Z, P) ac (Y, pa, kp, I, tl, wr, tw) o) (hB : bSt pl P md Z Y pa I tl) (hS : va_S (lA s) s.heap H locs) (hl : lv_has ls 8 [(0, .ref b), (1, .ref (g 0)), (2, .ref (g 8)), (3, .ref qo), (4, .int (nI j))])
    (K : ∀ (M' : lMt) (B' : lRt) (o' : Nat → Int64) (H' : Heap) (locs' : List Loc) (ls' : Array Slot), lV (dC, dI) g ty qo (lA s) H' M' M'.2.1 B' o' → lJ M' B' → va_S (lA s) s.heap H' locs' → lv_has ls' 8 [(0, .ref b), (1, .ref (g 0)), (2, .ref (g 8)), (3, .ref qo), (4, .int (nI j))] → W p l e room_1 s m #[Value.ref b] below meth c H' locs' (lCe M'.2.2.2.1 B'.1 (n + 1)) (lSl M'.2.2.2.1 B'.1 (n + 1)) Q (F0 m 378 ls' [])) :
    W p l e room_1 s m #[Value.ref b] below meth c H locs (lCe md Y n) (lSl md Y n) Q (F0 m 353 ls []) := by
  obtain ⟨hx, hb, hml, hown, hg, hK, hT, hTx, hN, hZ⟩ := C0
  have hA : ∀ q, s.heap.size ≤ q → lA s q := fun _ h => h
  have hbA : ¬ lA s b := Nat.not_le.mpr hbl
  have hKm := hK.sub (tys' := cTy ty) [0, 1, 2] rfl
  obtain ⟨⟨⟨⟨ρ, a1⟩, a2, a3, a4, a5⟩, hC⟩, hz0, h4⟩ := id hB
  have b1 := bt_L hB
  have b2 := md_6000 a5.1 a5.2
  have b3 := lw_rc
  have b4 := lw_rs
  have hF := cc_free hV.2.1.2.1 hS hA
  refine lv_aload_n hx hb dL_law_353 rfl (lv_at hl 1 rfl) ?_
  refine lv_aload_n hx hb dL_law_354 rfl (lv_at hl 0 rfl) ?_
  refine lv_iload hx hb dL_law_355 (lv_at hl 4 rfl) ?_
  refine lv_iconst (v := 1) hx hb dL_law_357 (by decide) ?_
  refine lv_iadd hx hb dL_law_358 ?_
  refine va_sld hx hb hX hbl hbA hS (sc_in (k := 1) (by omega) hL) dL_law_359 ?_
  refine kV_i (C := RX11) (n := 1) (As := [.int (xs (nI j + 1).toNatClampNeg)]) (rest := []) (ws := lWm g ty (pl, ac, ft, md, Z, P)) (wo := fun _ : Unit => lWm g ty (pl, ac, ft, md, Z, P)) hx hb hml hown hg hT (c_X11_count l dC dI g ty H.size pl ac ft md Z P (xs (nI j + 1).toNatClampNeg)) (cv_of hg wM_L_62 wN_X11_count wL_X11_X11_count wK_X11_count wI_X11 (by decide +kernel) ⟨Nat.le_of_ble_eq_true rfl, Nat.le_of_ble_eq_true rfl⟩) hKm hV.1.2.1 hV.2.1.2.1 hS hA (va_recv hK hV.1.2.1 (ci := 13) (q0 := 0) rfl rfl) rfl hl.1 rfl (Nat.le_of_ble_eq_true rfl) dL_law_360 ⟨by show lCe _ _ _ + 0 ≤ room_1.cells; unfold lCe; omega, by show lSl _ _ _ + 0 ≤ room_1.slots; unfold lSl; omega⟩ (fun r1 u9 H1 locs1 hp1 hP1 hD1 hk1 hS => ?_)
  have hV := lV_n hV hF hP1 hD1 hk1
  generalize H1 = H at hV hS ⊢
  clear hP1 hD1 hk1 hF
  have hF := cc_free hV.2.1.2.2 hS hA
  refine lv_aload_n hx hb dL_law_363 rfl (lv_at hl 2 rfl) ?_
  refine lv_aload_n hx hb dL_law_364 rfl (lv_at hl 0 rfl) ?_
  refine lv_iload hx hb dL_law_365 (lv_at hl 4 rfl) ?_
  refine lv_iconst (v := 1) hx hb dL_law_367 (by decide) ?_
  refine lv_iadd hx hb dL_law_368 ?_
  refine va_sld hx hb hX hbl hbA hS (sc_in (k := 1) (by omega) hL) dL_law_369 ?_
  refine kV_i (C := RX12) (n := 1) (As := [.int (xs (nI j + 1).toNatClampNeg)]) (rest := [.int r1]) (ws := lWr g ty ac (Y, pa, kp, I, tl, wr, tw)) (wo := fun u : rI => lWr g ty ac (Y, pa, kp, u, tl, wr, tw)) hx hb hml hown hg hT (c_X12_count l dC dI g ty H.size Y pa kp 0 I tl ac wr tw (xs (nI j + 1).toNatClampNeg)) (cv_of hg wM_L_66 wN_X12_count wL_X12_X12_count wK_X12_count wI_X12 (by decide +kernel) ⟨Nat.le_of_ble_eq_true rfl, Nat.le_of_ble_eq_true rfl⟩) hK hV.1.2.2 hV.2.1.2.2 hS hA (va_recv hK hV.1.2.2 (ci := 14) (q0 := 0) rfl rfl) rfl hl.1 rfl (Nat.le_of_ble_eq_true rfl) dL_law_370 ⟨by show lCe _ _ _ + 0 ≤ room_1.cells; unfold lCe; omega, by show lSl _ _ _ + 0 ≤ room_1.slots; unfold lSl; omega⟩ (fun r2 I' H1 locs1 hp hP1 hD1 hk1 hS => ?_)
  have hV := lV_r hV hF hP1 hD1 hk1
  generalize H1 = H at hV hS ⊢
  clear hP1 hD1 hk1 hF
  have he : r1 = r2 := bs_count hB hp1 (hp.imp (fun q => ⟨q.1, q.2.2⟩) (fun q => ⟨q.1, q.2.2⟩))
  have hI : I' = (I.1, I.2.1, I.2.2.1, I.2.2.2.1, I.2.2.2.2.1, 0) := hp.elim (fun q => q.2.1.symm) (fun q => q.2.1.symm)
  subst hI
  refine lv_icmp_eq (tgt := 378) hx hb dL_law_373 (by decide) (fun c1 => ?_) (fun c1 => absurd he c1)
  refine W.widen (k := lCe md Y (n + 1)) (n := lSl md Y (n + 1)) (by show lCe _ _ _ + 0 + 0 ≤ _; unfold lCe; omega) (by show lSl _ _ _ + 0 + 0 ≤ _; unfold lSl; omega) ?_
  exact K (pl, ac, ft, md, Z, P) (Y, pa, kp, (I.1, I.2.1, I.2.2.1, I.2.2.2.1, I.2.2.2.2.1, 0), tl, wr, tw) o _ _ _ hV (bs_thr hB 0) hS hl

/-! ===== the law: op ===== -/
set_option maxHeartbeats 4000000 in
set_option maxRecDepth 100000 in
theorem law_op {p : Program} {l : Launch} {e : Env} {s : State} {m : MethodId} {below : List Frame} {meth : Method} {c : Code} {dC : Nat → ClassId} {dI : Nat → Nat → Nat} {g : Nat → Nat} {ty : Nat → ClassId} {b L qo : Nat} {xs : Nat → Int32} {Q : State → Prop} (hlt : l.stackTraces = false) (C0 : lX p c s m b (dC, dI) ty) (hX : va_X b L xs s s.heap) (hbl : b < s.heap.size) (hL : L ≤ 3072)
    {pl : Nat → Option Nat} {ac : Int64} {ft md : Int32} {Z : cZ} {P : cQ} {Y : rY} {pa kp : Nat → Int32} {I : rI} {tl : Nat → Int32} {wr tw : Int32} {o : Nat → Int64} {H : Heap} {locs : List Loc} {ls : Array Slot} {n j : Nat} (hn : n ≤ 3072) (hj : j + 6 ≤ L)
    (hV : lV (dC, dI) g ty qo (lA s) H (pl, ac, ft, md, Z, P) ac (Y, pa, kp, I, tl, wr, tw) o) (hB : bSt pl P md Z Y pa I tl) (hS : va_S (lA s) s.heap H locs) (hl : lv_has ls 8 [(0, .ref b), (1, .ref (g 0)), (2, .ref (g 8)), (3, .ref qo), (4, .int (nI j))])
    (K : ∀ (M' : lMt) (B' : lRt) (o' : Nat → Int64) (H' : Heap) (locs' : List Loc) (ls' : Array Slot), lV (dC, dI) g ty qo (lA s) H' M' M'.2.1 B' o' → lJ M' B' → va_S (lA s) s.heap H' locs' → lv_has ls' 8 [(0, .ref b), (1, .ref (g 0)), (2, .ref (g 8)), (3, .ref qo), (4, .int (nI j))] → W p l e room_1 s m #[Value.ref b] below meth c H' locs' (lCe M'.2.2.2.1 B'.1 (n + 1)) (lSl M'.2.2.2.1 B'.1 (n + 1)) Q (F0 m 378 ls' [])) :
    W p l e room_1 s m #[Value.ref b] below meth c H locs (lCe md Y n) (lSl md Y n) Q (F0 m 76 ls []) := by
  obtain ⟨hx, hb, hml, hown, hg, hK, hT, hTx, hN, hZ⟩ := C0
  have hA : ∀ q, s.heap.size ≤ q → lA s q := fun _ h => h
  have hbA : ¬ lA s b := Nat.not_le.mpr hbl
  have hKm := hK.sub (tys' := cTy ty) [0, 1, 2] rfl
  obtain ⟨⟨⟨⟨ρ, a1⟩, a2, a3, a4, a5⟩, hC⟩, hz0, h4⟩ := id hB
  have b1 := bt_L hB
  have b2 := md_6000 a5.1 a5.2
  have b3 := lw_rc
  have b4 := lw_rs
  obtain ⟨hPL, hDL⟩ := lV_L hV
  have hF := cc_free hDL hS hA
  obtain ⟨k0, hk1, hk0, hkm⟩ := mk_k0 (w := (xs (nI j + 1).toNatClampNeg)) (a := (xs (nI j + 2).toNatClampNeg)) (b := (xs (nI j + 3).toNatClampNeg)) (c := (xs (nI j + 4).toNatClampNeg)) a5
  refine lv_aload_n hx hb dL_law_76 rfl (lv_at hl 1 rfl) ?_
  refine lv_aload_n hx hb dL_law_77 rfl (lv_at hl 0 rfl) ?_
  refine lv_iload hx hb dL_law_78 (lv_at hl 4 rfl) ?_
  refine lv_iconst (v := 1) hx hb dL_law_80 (by decide) ?_
  refine lv_iadd hx hb dL_law_81 ?_
  refine va_sld hx hb hX hbl hbA hS (sc_in (k := 1) (by omega) hL) dL_law_82 ?_
  refine lv_aload_n hx hb dL_law_83 rfl (lv_at hl 0 rfl) ?_
  refine lv_iload hx hb dL_law_84 (lv_at hl 4 rfl) ?_
  refine lv_iconst (v := 2) hx hb dL_law_86 (by decide) ?_
  refine lv_iadd hx hb dL_law_87 ?_
  refine va_sld hx hb hX hbl hbA hS (sc_in (k := 2) (by omega) hL) dL_law_88 ?_
  refine lv_aload_n hx hb dL_law_89 rfl (lv_at hl 0 rfl) ?_
  refine lv_iload hx hb dL_law_90 (lv_at hl 4 rfl) ?_
  refine lv_iconst (v := 3) hx hb dL_law_92 (by decide) ?_
  refine lv_iadd hx hb dL_law_93 ?_
  refine va_sld hx hb hX hbl hbA hS (sc_in (k := 3) (by omega) hL) dL_law_94 ?_
  refine lv_aload_n hx hb dL_law_95 rfl (lv_at hl 0 rfl) ?_
  refine lv_iload hx hb dL_law_96 (lv_at hl 4 rfl) ?_
  refine lv_iconst (v := 4) hx hb dL_law_98 (by decide) ?_
  refine lv_iadd hx hb dL_law_99 ?_
  refine va_sld hx hb hX hbl hbA hS (sc_in (k := 4) (by omega) hL) dL_law_100 ?_
  refine lv_aload_n hx hb dL_law_101 rfl (lv_at hl 3 rfl) ?_
  refine kX_i (n := 6) (As := [.ref (g 0), .int (xs (nI j + 1).toNatClampNeg), .int (xs (nI j + 2).toNatClampNeg), .int (xs (nI j + 3).toNatClampNeg), .int (xs (nI j + 4).toNatClampNeg), .ref qo]) (rest := []) (ws := lW g ty qo o (pl, ac, ft, md, Z, P)) (wo := fun u : ((Nat → Option Nat) × Int64 × Int32 × Int32 × cZ × cQ) × (Nat → Int64) => lW g ty qo u.2 u.1) hx hb hml hown hg hT hTx hN hZ (c_L_op l dC dI g ty H.size (hsum H) pl ac ft md Z P qo o k0 (xs (nI j + 1).toNatClampNeg) (xs (nI j + 2).toNatClampNeg) (xs (nI j + 3).toNatClampNeg) (xs (nI j + 4).toNatClampNeg) a2 hk0 hlt) (ch_cw hg wM_L_39 wH_L_op wI_L wS_L_op (by decide +kernel) ⟨Nat.le_of_ble_eq_true rfl, Nat.le_of_ble_eq_true rfl⟩) hKm hPL hDL hS hA rfl hl.1 rfl (Nat.le_of_ble_eq_true rfl) dL_law_102 ⟨by show lCe md Y n + (18 * k0 + 1) ≤ room_1.cells; unfold lCe; omega, by show lSl md Y n + (101 * k0 + 8) ≤ room_1.slots; unfold lSl; omega⟩ (fun k u H1 locs1 hp hP1 hD1 hk1 hS => ?_)
  obtain ⟨M', o'⟩ := u
  have hV := lV_m hV hF hP1 hD1 hk1
  generalize H1 = H at hV hS ⊢
  clear hP1 hD1 hk1 hF hPL hDL
  obtain ⟨r9, u9, hq, hmd, hac, hres⟩ := lo_op a2 hp
  have hw := wq_answerOf a2 hq
  have hm9 := hkm _ hw.2.2.1 hw.2.2.2
  rw [← hmd] at hm9
  refine W.widen (k := lCe M'.2.2.2.1 Y (n + 1)) (n := lSl M'.2.2.2.1 Y (n + 1)) (by show lCe md Y n + (18 * k0 + 1) ≤ _; unfold lCe; omega) (by show lSl md Y n + (101 * k0 + 8) ≤ _; unfold lSl; omega) ?_
  refine lv_istore (lv' := [(5, .int k), (0, .ref b), (1, .ref (g 0)), (2, .ref (g 8)), (3, .ref qo), (4, .int (nI j))]) hx hb dL_law_105 hl (by decide) rfl (fun ls hl => ?_)
  refine lv_aload_n hx hb dL_law_107 rfl (lv_at hl 3 rfl) ?_
  refine lv_aload_n hx hb dL_law_108 rfl (lv_at hl 1 rfl) ?_
  refine lv_iload hx hb dL_law_109 (lv_at hl 5 rfl) ?_
  refine lv_iconst (v := 1) hx hb dL_law_111 (by decide) ?_
  refine lv_iadd hx hb dL_law_112 ?_
  refine va_sld hx hb hX hbl hbA hS (sc_in (k := 1) (by omega) hL) dL_law_113 ?_
  refine lv_aload_n hx hb dL_law_114 rfl (lv_at hl 1 rfl) ?_
  refine lv_iload hx hb dL_law_115 (lv_at hl 5 rfl) ?_
  refine lv_iconst (v := 2) hx hb dL_law_117 (by decide) ?_
  refine lv_iadd hx hb dL_law_118 ?_
  refine va_sld hx hb hX hbl hbA hS (sc_in (k := 2) (by omega) hL) dL_law_119 ?_
  refine lv_aload_n hx hb dL_law_120 rfl (lv_at hl 1 rfl) ?_
  refine lv_iload hx hb dL_law_121 (lv_at hl 5 rfl) ?_
  refine lv_iconst (v := 3) hx hb dL_law_123 (by decide) ?_
  refine lv_iadd hx hb dL_law_124 ?_
  refine va_sld hx hb hX hbl hbA hS (sc_in (k := 3) (by omega) hL) dL_law_125 ?_
  refine lv_aload_n hx hb dL_law_126 rfl (lv_at hl 1 rfl) ?_
  refine lv_iload hx hb dL_law_127 (lv_at hl 5 rfl) ?_
  refine lv_iconst (v := 4) hx hb dL_law_129 (by decide) ?_
  refine lv_iadd hx hb dL_law_130 ?_
  refine va_sld hx hb hX hbl hbA hS (sc_in (k := 4) (by omega) hL) dL_law_131 ?_
  have hF := cc_free hV.2.1.2.2 hS hA
  have b5 : M'.2.2.2.1.toNatClampNeg ≤ 6001 := by omega
  refine hV_l (C := RX12) (n := 4) (As := [.int (xs (nI j + 1).toNatClampNeg), .int (xs (nI j + 2).toNatClampNeg), .int (xs (nI j + 3).toNatClampNeg), .int (xs (nI j + 4).toNatClampNeg)]) (rest := []) (ws := lWr g ty ac (Y, pa, kp, I, tl, wr, tw)) (wo := fun u : rY × (Nat → Int32) × (Nat → Int32) × rI × (Nat → Int32) × Int32 × Int32 => lWr g ty ac u) (f := fun u : rY × (Nat → Int32) × (Nat → Int32) × rI × (Nat → Int32) × Int32 × Int32 => u.1.2.2.2.2.2.2.2.1 - Y.2.2.2.2.2.2.2.1) (g := fun u : rY × (Nat → Int32) × (Nat → Int32) × rI × (Nat → Int32) × Int32 × Int32 => 10 * (u.1.2.2.2.2.2.2.2.1 - Y.2.2.2.2.2.2.2.1) + 2 * (u.1.2.2.2.2.2.2.2.2.1 - Y.2.2.2.2.2.2.2.2.1)) hx hb hml hown hg hT (c_X12_op l dC dI g ty H.size (hsum H) Y pa kp 0 I tl ac wr tw ρ pl P md Z r9 u9 (xs (nI j + 1).toNatClampNeg) (xs (nI j + 2).toNatClampNeg) (xs (nI j + 3).toNatClampNeg) (xs (nI j + 4).toNatClampNeg) a1 a2 rfl a3 a4 a5 hq rNr_holds) (cv_of hg wM_L_44 wN_X12_op wL_X12_X12_op wK_X12_op wI_X12 (by decide +kernel) ⟨Nat.le_of_ble_eq_true rfl, Nat.le_of_ble_eq_true rfl⟩) hK hV.1.2.2 hV.2.1.2.2 hS hA (va_recv hK hV.1.2.2 (ci := 14) (q0 := 0) rfl rfl) rfl hl.1 rfl (Nat.le_of_ble_eq_true rfl) dL_law_132 ⟨by show lCe _ _ _ + (96000 - Y.2.2.2.2.2.2.2.1) ≤ room_1.cells; unfold lCe; omega, by show lSl _ _ _ + (10 * (96000 - Y.2.2.2.2.2.2.2.1) + 2 * (1542237 - Y.2.2.2.2.2.2.2.2.1)) ≤ room_1.slots; unfold lSl; omega⟩ (fun rz u H1 locs1 hp hP1 hD1 hk1 hS => ?_)
  obtain ⟨r', Y', pa', kp', I', tl', wr', tw', rfl, rfl, ho⟩ := hp
  have hV := lV_r hV hF hP1 hD1 hk1
  generalize H1 = H at hV hS ⊢
  clear hP1 hD1 hk1 hF
  obtain ⟨hr1, hr2, hr3⟩ := hres hB ho
  have hLL := ho.2.2.1
  have b6 := bt_L hr1
  refine W.widen (k := lCe M'.2.2.2.1 Y' (n + 1)) (n := lSl M'.2.2.2.1 Y' (n + 1)) (by show lCe _ _ _ + (Y'.2.2.2.2.2.2.2.1 - Y.2.2.2.2.2.2.2.1) ≤ _; unfold lCe; omega) (by show lSl _ _ _ + (10 * (Y'.2.2.2.2.2.2.2.1 - Y.2.2.2.2.2.2.2.1) + 2 * (Y'.2.2.2.2.2.2.2.2.1 - Y.2.2.2.2.2.2.2.2.1)) ≤ _; unfold lSl; omega) ?_
  refine lv_lstore (lv' := [(6, .long r'), (5, .int k), (0, .ref b), (1, .ref (g 0)), (2, .ref (g 8)), (3, .ref qo), (4, .int (nI j))]) hx hb dL_law_135 hl (by decide) rfl (fun ls hl => ?_)
  have hF := cc_free hV.2.1.2.2 hS hA
  refine lv_aload_n hx hb dL_law_137 rfl (lv_at hl 4 rfl) ?_
  refine kV_i (C := RX12) (n := 0) (As := []) (rest := []) (ws := lWr g ty ac (Y', pa', kp', I', tl', wr', tw')) (wo := fun _ : Unit => lWr g ty ac (Y', pa', kp', I', tl', wr', tw')) hx hb hml hown hg hT (c_X12_thrown l dC dI g ty H.size Y' pa' kp' 0 I' tl' ac wr' tw') (cv_of hg wM_L_45 wN_X12_thrown wL_X12_X12_thrown wK_X12_thrown wI_X12 (by decide +kernel) ⟨Nat.le_of_ble_eq_true rfl, Nat.le_of_ble_eq_true rfl⟩) hK hV.1.2.2 hV.2.1.2.2 hS hA (va_recv hK hV.1.2.2 (ci := 14) (q0 := 0) rfl rfl) rfl hl.1 rfl (Nat.le_of_ble_eq_true rfl) dL_law_138 ⟨by show lCe _ _ _ + 0 ≤ room_1.cells; unfold lCe; omega, by show lSl _ _ _ + 0 ≤ room_1.slots; unfold lSl; omega⟩ (fun rt u9 H1 locs1 hp hP1 hD1 hk1 hS => ?_)
  have hV := lV_r hV hF hP1 hD1 hk1
  generalize H1 = H at hV hS ⊢
  clear hP1 hD1 hk1 hF
  have hp : I'.2.2.2.2.2 = rt := hp
  refine lv_iload hx hb dL_law_141 (lv_at hl 1 rfl) ?_
  refine lv_icmp_eq (tgt := 148) hx hb dL_law_143 (by decide) (fun c1 => ?_) (fun c1 => absurd (hp.symm.trans hr2) c1)
  refine lv_iload hx hb dL_law_148 (lv_at hl 1 rfl) ?_
  refine lv_if_ne (tgt := 164) hx hb dL_law_150 (by decide) (fun c2 => ?_) (fun c2 => ?_)
  · refine lv_goto (tgt := 378) hx hb dL_law_164 (by decide) ?_
    exact K M' (Y', pa', kp', I', tl', wr', tw') o' _ _ _ (hac ▸ hV) hr1 hS (lv_sub hl [2, 3, 4, 5, 6] rfl)
  · refine lv_aload_n hx hb dL_law_153 rfl (lv_at hl 5 rfl) ?_
    refine lv_iconst (v := 0) hx hb dL_law_154 (by decide) ?_
    refine va_lald hx hb hK hV.1.1 0 2 rfl rfl (by show ¬ ((0 : Int32) < 0 ∨ 1 ≤ (0 : Int32).toNatClampNeg); decide) dL_law_155 ?_
    refine lv_lload hx hb dL_law_156 (lv_at hl 0 rfl) ?_
    refine W.lcmp hx hb dL_law_158 ?_
    refine lv_if_eq (tgt := 164) hx hb dL_law_159 (by decide) (fun c3 => ?_) (fun c3 => absurd ((lg_cmp_eq _ _).mpr (hr3 c2)) c3)
    refine lv_goto (tgt := 378) hx hb dL_law_164 (by decide) ?_
    exact K M' (Y', pa', kp', I', tl', wr', tw') o' _ _ _ (hac ▸ hV) hr1 hS (lv_sub hl [2, 3, 4, 5, 6] rfl)

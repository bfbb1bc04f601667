/-! ===== the law, from its entry ===== -/
set_option maxHeartbeats 4000000 in
set_option maxRecDepth 100000 in
theorem whole_start {p : Program} {e : Env} {s : State} {m : MethodId} {below : List Frame} {meth : Method} {c : Code} (l : Launch) (hlt : l.stackTraces = false) {b L : Nat} {xs : Nat → Int32} (hL : L ≤ 3072) (C0 : lw_At p s m meth c b L xs) : W p l e room_1 s m #[Value.ref b] below meth c s.heap [] 0 0 (lw_Z below #[Value.ref b] s) (entryFrame m ([Value.ref b] : List Value).toArray 8) := by
  obtain ⟨hx, hb, hr, hml, hown, hts, hX, hbl, hlocks, hgv⟩ := id C0
  have hs := flat_of_before _ hgv
  have hg : ∀ w ∈ gT, w.before #[Value.ref b] s = true := fun w h => hts w (List.mem_filter.mp h).1
  obtain ⟨dC, dI, ty, hK⟩ := wd_K hts
  have hT := wd_T hts hs
  have hTx := wd_Tx hts
  have hN := wd_N hs
  have hZ := wd_Z hts hs
  have hKm := hK.sub (tys' := cTy ty) [0, 1, 2] rfl
  have hown : s.vm.findClass RL = some m.cls := hown
  have hA : ∀ q, s.heap.size ≤ q → lA s q := fun _ h => h
  have hS : va_S (lA s) s.heap s.heap [] := va_S.rf
  have hP : va_P (dC, dI) vwCl [] s.heap := fun k q h => by simp at h
  have hD : va_D (lA s) [] := ⟨fun i j p q h => by simp at h, fun k q h => by simp at h⟩
  have hl := lv_entry ([.ref b]) (n := 8) (Nat.le_of_ble_eq_true rfl)
  rw [lg_entry_eq]
  generalize (lg_sl ([.ref b]) ++ List.replicate (8 - (lg_sl ([.ref b])).length) Slot.unset).toArray = ls at hl ⊢
  have hl : lv_has ls 8 [(0, .ref b)] := hl
  refine va_new (ci := 13) (fs := [.null, .null, .null, .long 0, .int 0, .int 0, .int 0, .int 0, .int 0, .int 0, .int 0, .int 0]) (C := RX11) (T := TX11) (N := 12) hx hb hg inG11 tyX11 tyX11_ok hown (hg _ wC_L_8) (hg _ wT_X11) (hg _ wI_X11) hK hP hD hS hA rfl (fun j hj => by rcases (show j = 0 ∨ j = 1 ∨ j = 2 ∨ j = 3 ∨ j = 4 ∨ j = 5 ∨ j = 6 ∨ j = 7 ∨ j = 8 ∨ j = 9 ∨ j = 10 ∨ j = 11 by omega) with rfl | rfl | rfl | rfl | rfl | rfl | rfl | rfl | rfl | rfl | rfl | rfl <;> rfl) (Nat.le_trans (show 1 ≤ 400000 by decide) lw_rc) (Nat.le_trans (show 12 ≤ 5000000 by decide) lw_rs) dL_law_0 (fun q0 H hP hD hS => ?_)
  have hP : va_P (dC, dI) vwCl ([(q0, .inr (13, [.null, .null, .null, .long 0, .int 0, .int 0, .int 0, .int 0, .int 0, .int 0, .int 0, .int 0]))] : va_W) H := hP
  have hD : va_D (lA s) ([(q0, .inr (13, [.null, .null, .null, .long 0, .int 0, .int 0, .int 0, .int 0, .int 0, .int 0, .int 0, .int 0]))] : va_W) := hD
  refine lv_dup hx hb dL_law_3 rfl ?_
  have hF := cc_free hD hS hA
  refine kN_v (n := 0) (As := []) (rest := [.ref q0]) (wo := fun u : (Nat → Nat) × (Nat → Int32) => cW (fun k => if k = 0 then q0 else if k = 1 then u.1 0 else if k = 2 then u.1 1 else if k = 3 then u.1 2 else if k = 4 then u.1 3 else if k = 5 then u.1 4 else if k = 6 then u.1 5 else u.1 6) ty (fun _ => none) 0 (-1) 0 (u.2, 0, 0, 0, 0, 0, 0, fun _ => 0, fun _ => 0, fun _ => 0, fun _ => 0, 0) ([], fun _ => 0, fun _ => 0, fun _ => 0, fun _ => none, fun _ => 0, fun _ _ => 0, fun _ _ => none)) hx hb hml hown hg hT (c_X11_init l dC dI ty H.size q0) (cb_of hg wM_L_35 wK_X11_init wI_X11 (by decide +kernel) ⟨Nat.le_of_ble_eq_true rfl, Nat.le_of_ble_eq_true rfl⟩) rfl wN_X11_init hKm hP hD hS hA rfl hl.1 rfl (Nat.le_of_ble_eq_true rfl) dL_law_4 ⟨Nat.le_trans (show 8 ≤ 400000 by decide) lw_rc, Nat.le_trans (show 1873 ≤ 5000000 by decide) lw_rs⟩ (fun u1 H1 locs1 hz hP1 hD1 hk1 hS => ?_)
  have hD1 := fr_D hD1 hF
  clear hP hD hF hk1
  refine lv_astore_n (lv' := [(1, .ref q0), (0, .ref b)]) hx hb dL_law_7 rfl hl (by decide) rfl (fun ls hl => ?_)
  refine va_new (ci := 14) (fs := [.null, .null, .null, .null, .null, .null, .int 0, .int 0, .null, .null, .null, .null, .null, .long 0, .int 0, .int 0, .int 0, .null, .null, .int 0, .int 0]) (C := RX12) (T := TX12) (N := 21) hx hb hg inG12 tyX12 tyX12_ok hown (hg _ wC_L_36) (hg _ wT_X12) (hg _ wI_X12) hK hP1 hD1 hS hA rfl (fun j hj => by rcases (show j = 0 ∨ j = 1 ∨ j = 2 ∨ j = 3 ∨ j = 4 ∨ j = 5 ∨ j = 6 ∨ j = 7 ∨ j = 8 ∨ j = 9 ∨ j = 10 ∨ j = 11 ∨ j = 12 ∨ j = 13 ∨ j = 14 ∨ j = 15 ∨ j = 16 ∨ j = 17 ∨ j = 18 ∨ j = 19 ∨ j = 20 by omega) with rfl | rfl | rfl | rfl | rfl | rfl | rfl | rfl | rfl | rfl | rfl | rfl | rfl | rfl | rfl | rfl | rfl | rfl | rfl | rfl | rfl <;> rfl) (Nat.le_trans (show 9 ≤ 400000 by decide) lw_rc) (Nat.le_trans (show 1894 ≤ 5000000 by decide) lw_rs) dL_law_8 (fun q8 H hP hD hS => ?_)
  obtain ⟨hP1, hP2⟩ := spl_P hP
  obtain ⟨hD1, hD2, hj⟩ := spl_D hD
  have hP2 : va_P (dC, dI) vwCl ([(q8, .inr (14, [.null, .null, .null, .null, .null, .null, .int 0, .int 0, .null, .null, .null, .null, .null, .long 0, .int 0, .int 0, .int 0, .null, .null, .int 0, .int 0]))] : va_W) H := hP2
  have hD2 : va_D (lA s) ([(q8, .inr (14, [.null, .null, .null, .null, .null, .null, .int 0, .int 0, .null, .null, .null, .null, .null, .long 0, .int 0, .int 0, .int 0, .null, .null, .int 0, .int 0]))] : va_W) := hD2
  refine lv_dup hx hb dL_law_11 rfl ?_
  have hF := cc_free hD2 hS hA
  refine kN_v (n := 0) (As := []) (rest := [.ref q8]) (wo := fun u : (Nat → Nat) × (Nat → Int32) => rW (fun k => if k = 8 then q8 else if k = 9 then u.1 6 else if k = 10 then u.1 7 else if k = 11 then u.1 8 else if k = 12 then u.1 9 else if k = 13 then u.1 10 else if k = 14 then u.1 11 else u.1 12) ty (fun _ => 0, fun _ => 0, fun _ => 0, fun _ => 0, fun _ => 0, fun _ => 0, u.1, 1500, 24000, 1, 0) (fun _ => 0) (fun _ => 0) 0 (u.2, fun _ => 0, fun _ => 0, fun _ => 0, 0, 0) (fun _ => 0) 0 0 0) hx hb hml hown hg hT (c_X12_init l dC dI ty H.size q8) (cb_of hg wM_L_38 wK_X12_init wI_X12 (by decide +kernel) ⟨Nat.le_of_ble_eq_true rfl, Nat.le_of_ble_eq_true rfl⟩) rfl wN_X12_init hK hP2 hD2 hS hA rfl hl.1 rfl (Nat.le_of_ble_eq_true rfl) dL_law_12 ⟨Nat.le_trans (show 22 ≤ 400000 by decide) lw_rc, Nat.le_trans (show 34458 ≤ 5000000 by decide) lw_rs⟩ (fun u2 H2 locs2 hw hP3 hD3 hk2 hS => ?_)
  have hP1o := hP1
  have hP1 := fr_keep hP1 hj.sy hk2
  have hj := (fr_dj hP1o hj.sy hD3).sy
  have hD3 := fr_D hD3 hF
  refine lv_astore_n (lv' := [(2, .ref q8), (1, .ref q0), (0, .ref b)]) hx hb dL_law_15 rfl hl (by decide) rfl (fun ls hl => ?_)
  refine lv_iconst (v := 1) hx hb dL_law_16 (by decide) ?_
  have hP := hP1.app hP3
  have hD := app_D hD1 hD3 hj
  refine va_newa (atype := .long) (ty := .long) (a0 := (1, .inr (.inl (fun _ => (0 : Int64))))) hx hb (hg _ wA_long) rfl hK hP hD hS hA (fun _ => rfl) (by decide) rfl (by decide) (Nat.le_trans (show 23 ≤ 400000 by decide) lw_rc) (Nat.le_trans (show 34459 ≤ 5000000 by decide) lw_rs) dL_law_17 (fun qo cA H3 hK2 hP hD hS => ?_)
  have hcA : cA = ty 2 := ck_uni hK2 2 rfl (fun _ h9 => by cases h9)
  subst hcA
  obtain ⟨hPc, hPo⟩ := spl_P hP
  obtain ⟨hPm, hPr⟩ := spl_P hPc
  obtain ⟨hDc, hDo, j1⟩ := spl_D hD
  obtain ⟨hDm, hDr, j2⟩ := spl_D hDc
  obtain ⟨j3, j4⟩ : dj _ _ ∧ dj _ _ := ⟨fun i j p q hi hj => j1 i j p q (sp_l hi) hj, fun i j p q hi hj => j1 _ j p q (sp_r hi) hj⟩
  refine lv_astore_n (lv' := [(3, .ref qo), (2, .ref q8), (1, .ref q0), (0, .ref b)]) hx hb dL_law_19 rfl hl (by decide) rfl (fun ls hl => ?_)
  refine lv_iconst (v := 0) hx hb dL_law_20 (by decide) ?_
  refine lv_istore (lv' := [(4, .int 0), (3, .ref qo), (2, .ref q8), (1, .ref q0), (0, .ref b)]) hx hb dL_law_21 hl (by decide) rfl (fun ls hl => ?_)
  refine W.widen (k := lCe 0 (fun _ => 0, fun _ => 0, fun _ => 0, fun _ => 0, fun _ => 0, fun _ => 0, u2.1, 1500, 24000, 1, 0) 0) (n := lSl 0 (fun _ => 0, fun _ => 0, fun _ => 0, fun _ => 0, fun _ => 0, fun _ => 0, u2.1, 1500, 24000, 1, 0) 0) (by show 23 ≤ _; unfold lCe; omega) (by show 34459 ≤ _; unfold lSl; omega) ?_
  have hV : lV (dC, dI) (fun k => if k < 8 then (fun k => if k = 0 then q0 else if k = 1 then u1.1 0 else if k = 2 then u1.1 1 else if k = 3 then u1.1 2 else if k = 4 then u1.1 3 else if k = 5 then u1.1 4 else if k = 6 then u1.1 5 else u1.1 6) k else (fun k => if k = 8 then q8 else if k = 9 then u2.1 6 else if k = 10 then u2.1 7 else if k = 11 then u2.1 8 else if k = 12 then u2.1 9 else if k = 13 then u2.1 10 else if k = 14 then u2.1 11 else u2.1 12) k) ty qo (lA s) H3 ((fun _ => none), 0, (-1), 0, (u1.2, 0, 0, 0, 0, 0, 0, fun _ => 0, fun _ => 0, fun _ => 0, fun _ => 0, 0), ([], fun _ => 0, fun _ => 0, fun _ => 0, fun _ => none, fun _ => 0, fun _ _ => 0, fun _ _ => none)) 0 ((fun _ => 0, fun _ => 0, fun _ => 0, fun _ => 0, fun _ => 0, fun _ => 0, u2.1, 1500, 24000, 1, 0), (fun _ => 0), (fun _ => 0), (u2.2, fun _ => 0, fun _ => 0, fun _ => 0, 0, 0), (fun _ => 0), 0, 0) (fun _ => 0) := ⟨⟨hPo, hPm, hPr⟩, ⟨hDo, hDm, hDr⟩, j3.sy, j4.sy, j2⟩
  exact law_loop hlt ⟨hx, hb, hml, hown, hg, hK, hT, hTx, hN, hZ⟩ hX hbl hL hr hlocks (L + 6) 0 _ _ _ _ _ _ (by omega) (by omega) hV (bs_start hw hz) hS (lv_sub hl [4, 3, 2, 1, 0] rfl)

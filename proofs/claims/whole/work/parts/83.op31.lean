set_option maxHeartbeats 800000 in
set_option maxRecDepth 100000 in
theorem c_X12_others_31 (l : Launch) (dC : Nat → ClassId) (dI : Nat → Nat → Nat) (g : Nat → Nat) (ty : Nat → ClassId) (sz : Nat) (Y : rY) (pa : Nat → Int32) (kp : Nat → Int32) (ks : Int32) (I : rI) (tl : Nat → Int32) (ac : Int64) (wr : Int32) (tw : Int32) (ρ : Nat → Nat) (pl : Nat → Option Nat) (P : cQ) (md : Int32) (Z : cZ) (rz9 : Int64) (u9 : Int32 × cQ) (a0 : Int32) (b0 : Int32) (c0 : Int32) (pre0 : rR Y.2.2.2.2.2.2.2.2.2.1 Y pa ρ pl P) (pre1 : cWF pl P) (pre2 : ks = 0) (pre3 : rCnt Y md) (pre4 : tl 5 = md) (pre5 : 0 ≤ md ∧ md ≤ 6000) (pre6 : tw = 0) (pre7 : q_X11_copy a0 b0 c0 pl ac (-1) md Z P rz9 u9) : Met l yX12_others (Cond.code yX12_others cX12_others 5 (some .long) :: gT) ({ frames := 3, cells := 0, slots := 0, locals := 74 }) (cP (dC, dI) (rTy ty) (rW g ty Y pa kp ks I tl ac wr tw) sz [.ref (g 8), .int 31, .int a0, .int b0, .int c0]) (va_Ql (fun (rz : Int64) (u : rY × (Nat → Int32) × (Nat → Int32) × (Nat → Int32) × Int32 × Int32) => ∃ (r' : Int64) (Y' : rY) (pa' kp' tl' : Nat → Int32) (wr' tw' : Int32), r' = rz ∧ (Y', pa', kp', tl', wr', tw') = u ∧ rAns u9.1 rz9 pl u9.2 md tl Y r' Y' pa' tl' wr' tw') (cB (dC, dI) (fun u : rY × (Nat → Int32) × (Nat → Int32) × (Nat → Int32) × Int32 × Int32 => rW g ty u.1 u.2.1 u.2.2.1 ks I u.2.2.2.1 ac u.2.2.2.2.1 u.2.2.2.2.2) (va_A (rW g ty Y pa kp ks I tl ac wr tw) sz)) (va_A (rW g ty Y pa kp ks I tl ac wr tw) sz)) 0 0 (va_A (rW g ty Y pa kp ks I tl ac wr tw) sz) := by
  refine cc_of (Qa := fun A => va_Ql (fun (rz : Int64) (u : rY × (Nat → Int32) × (Nat → Int32) × (Nat → Int32) × Int32 × Int32) => ∃ (r' : Int64) (Y' : rY) (pa' kp' tl' : Nat → Int32) (wr' tw' : Int32), r' = rz ∧ (Y', pa', kp', tl', wr', tw') = u ∧ rAns u9.1 rz9 pl u9.2 md tl Y r' Y' pa' tl' wr' tw') (cB (dC, dI) (fun u : rY × (Nat → Int32) × (Nat → Int32) × (Nat → Int32) × Int32 × Int32 => rW g ty u.1 u.2.1 u.2.2.1 ks I u.2.2.2.1 ac u.2.2.2.2.1 u.2.2.2.2.2) A) A) (by decide) (Nat.le_of_ble_eq_true rfl) ?_
  intro p e s m below meth c A hx hb hr hml hown hg hlk hmn hP hK hD hT hS hA hsz ls hl
  have hown : s.vm.findClass RX12 = some m.cls := hown
  have hl : lv_has ls 5 [(0, .ref (g 8)), (1, .int 31), (2, .int a0), (3, .int b0), (4, .int c0)] := hl
  refine lv_iload_n hx hb dX12_others_0 rfl (lv_at hl 1 rfl) ?_
  refine lv_tableOut (tgt := 218) hx hb dX12_others_1 (by decide) (by decide) ?_
  refine lv_aload_n hx hb dX12_others_218 rfl (lv_at hl 0 rfl) ?_
  refine lv_iload_n hx hb dX12_others_219 rfl (lv_at hl 2 rfl) ?_
  refine lv_iload_n hx hb dX12_others_220 rfl (lv_at hl 3 rfl) ?_
  refine lv_iload hx hb dX12_others_221 (lv_at hl 4 rfl) ?_
  refine lv_bipush (v := 16) hx hb dX12_others_223 (by decide) ?_
  refine lv_ishr hx hb dX12_others_225 ?_
  refine lv_i2b (v := ((c0 >>> (16 &&& 31)).toInt8.toInt32)) hx hb dX12_others_226 rfl ?_
  refine lv_iload hx hb dX12_others_227 (lv_at hl 4 rfl) ?_
  refine lv_bipush (v := 8) hx hb dX12_others_229 (by decide) ?_
  refine lv_ishr hx hb dX12_others_231 ?_
  refine lv_i2b (v := ((c0 >>> (8 &&& 31)).toInt8.toInt32)) hx hb dX12_others_232 rfl ?_
  refine lv_iload hx hb dX12_others_233 (lv_at hl 4 rfl) ?_
  refine lv_i2b (v := (c0.toInt8.toInt32)) hx hb dX12_others_235 rfl ?_
  refine cV_l (C := RX12) (n := 5) (rest := []) hx hb hml hown hg hT (c_X12_copied l dC dI g ty s.heap.size Y pa kp ks I tl ac wr tw ρ pl P md Z rz9 u9 a0 b0 ((c0 >>> (16 &&& 31)).toInt8.toInt32) ((c0 >>> (8 &&& 31)).toInt8.toInt32) (c0.toInt8.toInt32) (by exact pre0) (by exact pre1) (by exact pre2) (by exact pre3) (by exact pre4) (by exact pre5) (by exact pre6) (by exact cp_flat pre7) (by exact ⟨_, rfl⟩) (by exact ⟨_, rfl⟩) (by exact ⟨_, rfl⟩)) (cv_of hg wM_X12_158 wN_X12_copied wL_X12_X12_copied wK_X12_copied wI_X12 (by decide +kernel) ⟨Nat.le_of_ble_eq_true rfl, Nat.le_of_ble_eq_true rfl⟩) hK hP hD hS hA (va_recv hK hP (ci := 14) (q0 := 0) rfl rfl) rfl hl.1 rfl (Nat.le_of_ble_eq_true rfl) dX12_others_236 ⟨Nat.le_of_ble_eq_true rfl, Nat.le_of_ble_eq_true rfl⟩ (fun r_2 u_3 H locs q_1 hP hD hS => ?_)
  obtain ⟨r'_4, Y'_5, pa'_6, kp'_7, tl'_8, wr'_9, tw'_10, rfl, rfl, f_11⟩ := q_1
  have hP : va_P (dC, dI) vwCl (rW g ty Y'_5 pa'_6 kp'_7 ks I tl'_8 ac wr'_9 tw'_10) H := hP
  have hD : va_D A (rW g ty Y'_5 pa'_6 kp'_7 ks I tl'_8 ac wr'_9 tw'_10) := hD
  refine cr_l (wo := fun u : rY × (Nat → Int32) × (Nat → Int32) × (Nat → Int32) × Int32 × Int32 => rW g ty u.1 u.2.1 u.2.2.1 ks I u.2.2.2.1 ac u.2.2.2.2.1 u.2.2.2.2.2) ((Y'_5, pa'_6, kp'_7, tl'_8, wr'_9, tw'_10)) hx hb hr hlk hS hP hD ?_ dX12_others_239
  exact ⟨r'_4, Y'_5, pa'_6, kp'_7, tl'_8, wr'_9, tw'_10, rfl, rfl, (by assumption)⟩

theorem sb7 (b : Int32) : vp_in (b &&& 7) 16 := by
  have h := i32_inR (pk_andIn b (m := 7) 3 (by decide) (by decide))
  exact i32_in h.1 (Nat.lt_of_lt_of_le h.2 (by decide))
theorem sb15 (b : Int32) : vp_in (b &&& 15) 16 := pk_andIn b (m := 15) 4 (by decide) (by decide)
theorem lt16 (s : Int32) (h : 0 ≤ s ∧ s.toNatClampNeg < 16) : vp_in s 16 := i32_in h.1 h.2
theorem tw_0 {tw : Int32} {Q : Int32 → Prop} (h : tw = 0) (q : Q 0) : Q tw := h ▸ q
theorem ll_lk {n : Int32} {ρ : Nat → Nat} {v : Int64} {o o' : Option Nat} (h : rLl n ρ v o) (e : o = o') : rLk n ρ v.toInt32 o' := by
  obtain ⟨x, rfl, hk⟩ := h
  rw [i64_32]
  exact e ▸ hk
theorem ll_some {n : Int32} {ρ : Nat → Nat} {v : Int64} {o : Option Nat} {q : Nat} (h : rLl n ρ v o) (e : o = some q) : 0 < v.toInt32 ∧ v.toInt32 < n ∧ ρ v.toInt32.toNatClampNeg = q := by
  rcases ll_lk h e with ⟨_, h⟩ | ⟨a, b, c⟩
  · cases h
  · exact ⟨a, b, (Option.some.inj c).symm⟩
theorem ll_none {n : Int32} {ρ : Nat → Nat} {v : Int64} {o : Option Nat} (h : rLl n ρ v o) (e : o = none) : v.toInt32 = 0 := by
  rcases ll_lk h e with ⟨h, _⟩ | ⟨_, _, c⟩
  · exact h
  · cases c
set_option maxHeartbeats 800000 in
set_option maxRecDepth 100000 in
theorem c_X12_indexN (l : Launch) (dC : Nat → ClassId) (dI : Nat → Nat → Nat) (g : Nat → Nat) (ty : Nat → ClassId) (sz : Nat) (Y : rY) (pa : Nat → Int32) (kp : Nat → Int32) (ks : Int32) (I : rI) (tl : Nat → Int32) (ac : Int64) (wr : Int32) (tw : Int32) (N0 : Nat) (t0 : Int32) (i0 : Int32) (pre0 : vp_in t0 Y.2.2.2.2.2.2.2.1) (pre1 : 0 ≤ Y.2.2.1 t0.toNatClampNeg) (pre2 : rMn Y t0.toNatClampNeg = N0) : Met l yX12_index (Cond.code yX12_index cX12_index 3 (some .boolean) :: gT) ({ frames := 1, cells := 0, slots := 0, locals := 21 }) (cP (dC, dI) (rTy ty) (rW g ty Y pa kp ks I tl ac wr tw) sz [.ref (g 8), .int t0, .int i0]) (va_Qi (fun (rz : Int32) (u : Int32) => (0 = rz ∧ 2 = u ∧ ¬ vp_in i0 N0) ∨ (1 = rz ∧ wr = u ∧ vp_in i0 N0)) (cB (dC, dI) (fun u : Int32 => rW g ty Y pa kp ks I tl ac u tw) (va_A (rW g ty Y pa kp ks I tl ac wr tw) sz)) (va_A (rW g ty Y pa kp ks I tl ac wr tw) sz)) 0 0 (va_A (rW g ty Y pa kp ks I tl ac wr tw) sz) := by
  refine cc_of (Qa := fun A => va_Qi (fun (rz : Int32) (u : Int32) => (0 = rz ∧ 2 = u ∧ ¬ vp_in i0 N0) ∨ (1 = rz ∧ wr = u ∧ vp_in i0 N0)) (cB (dC, dI) (fun u : Int32 => rW g ty Y pa kp ks I tl ac u tw) A) A) (by decide) (Nat.le_of_ble_eq_true rfl) ?_
  intro p e s m below meth c A hx hb hr hml hown hg hlk hmn hP hK hD hT hS hA hsz ls hl
  have hown : s.vm.findClass RX12 = some m.cls := hown
  have hl : lv_has ls 3 [(0, .ref (g 8)), (1, .int t0), (2, .int i0)] := hl
  refine lv_iload_n hx hb dX12_index_0 rfl (lv_at hl 2 rfl) ?_
  refine lv_if_lt (tgt := 14) hx hb dX12_index_1 (by decide) (fun c_1 => ?_) (fun c_1 => ?_)
  · show _
    refine lv_aload_n hx hb dX12_index_14 rfl (lv_at hl 0 rfl) ?_
    refine lv_iconst (v := 2) hx hb dX12_index_15 (by decide) ?_
    refine cV_i (C := RX12) (n := 1) (rest := []) hx hb hml hown hg hT (c_X12_fails l dC dI g ty s.heap.size Y pa kp ks I tl ac wr tw 2 ) (cv_of hg wM_X12_79 wN_X12_fails wL_X12_X12_fails wK_X12_fails wI_X12 (by decide +kernel) ⟨Nat.le_of_ble_eq_true rfl, Nat.le_of_ble_eq_true rfl⟩) hK hP hD hS hA (va_recv hK hP (ci := 14) (q0 := 0) rfl rfl) rfl hl.1 rfl (Nat.le_of_ble_eq_true rfl) dX12_index_16 ⟨Nat.le_of_ble_eq_true rfl, Nat.le_of_ble_eq_true rfl⟩ (fun r_3 u_4 H locs q_2 hP hD hS => ?_)
    obtain ⟨rfl, rfl⟩ := q_2
    have hP : va_P (dC, dI) vwCl (rW g ty Y pa kp ks I tl ac 2 tw) H := hP
    have hD : va_D A (rW g ty Y pa kp ks I tl ac 2 tw) := hD
    refine lv_if_eq (tgt := 26) hx hb dX12_index_19 (by decide) (fun _ => ?_) (fun c9 => absurd (by decide) c9) 
    refine lv_iconst (v := 0) hx hb dX12_index_26 (by decide) ?_
    refine cr_z (wo := fun u : Int32 => rW g ty Y pa kp ks I tl ac u tw) (2) hx hb hr hlk hS hP hD rfl ?_ dX12_index_27
    exact Or.inl ⟨rfl, rfl, (by first | assumption | exact pre2 ▸ ix_lo (by assumption) | exact pre2 ▸ ix_no (by assumption) | exact pre2 ▸ ix_in (by assumption) (by assumption))⟩
  · show _
    refine lv_iload_n hx hb dX12_index_4 rfl (lv_at hl 2 rfl) ?_
    refine lv_aload_n hx hb dX12_index_5 rfl (lv_at hl 0 rfl) ?_
    refine va_get (D := (dC, dI)) (ci := 14) (v := .ref (Y.2.2.2.2.2.2.1 2)) (C := RX12) (T := TX12) (N := 21) hx hb hg inG12 hown hK hP 0 rfl rfl 2 (by decide) (hg _ wF_X12_16) (fun _ h9 => h9) rfl dX12_index_6 ?_
    refine lv_iload_n hx hb dX12_index_9 rfl (lv_at hl 1 rfl) ?_
    refine va_iald hx hb hK hP 3 0 rfl rfl (by first | assumption | exact pre2 ▸ ix_lo (by assumption) | exact pre2 ▸ ix_no (by assumption) | exact pre2 ▸ ix_in (by assumption) (by assumption)) dX12_index_10 ?_
    refine lv_icmp_lt (tgt := 22) hx hb dX12_index_11 (by decide) (fun c_5 => ?_) (fun c_5 => ?_)
    · show _
      refine lv_iconst (v := 1) hx hb dX12_index_22 (by decide) ?_
      refine lv_goto (tgt := 27) hx hb dX12_index_23 (by decide) ?_
      refine cr_z (wo := fun u : Int32 => rW g ty Y pa kp ks I tl ac u tw) (wr) hx hb hr hlk hS hP hD rfl ?_ dX12_index_27
      exact Or.inr ⟨rfl, rfl, (by first | assumption | exact pre2 ▸ ix_lo (by assumption) | exact pre2 ▸ ix_no (by assumption) | exact pre2 ▸ ix_in (by assumption) (by assumption))⟩
    · show _
      refine lv_aload_n hx hb dX12_index_14 rfl (lv_at hl 0 rfl) ?_
      refine lv_iconst (v := 2) hx hb dX12_index_15 (by decide) ?_
      refine cV_i (C := RX12) (n := 1) (rest := []) hx hb hml hown hg hT (c_X12_fails l dC dI g ty s.heap.size Y pa kp ks I tl ac wr tw 2 ) (cv_of hg wM_X12_79 wN_X12_fails wL_X12_X12_fails wK_X12_fails wI_X12 (by decide +kernel) ⟨Nat.le_of_ble_eq_true rfl, Nat.le_of_ble_eq_true rfl⟩) hK hP hD hS hA (va_recv hK hP (ci := 14) (q0 := 0) rfl rfl) rfl hl.1 rfl (Nat.le_of_ble_eq_true rfl) dX12_index_16 ⟨Nat.le_of_ble_eq_true rfl, Nat.le_of_ble_eq_true rfl⟩ (fun r_7 u_8 H locs q_6 hP hD hS => ?_)
      obtain ⟨rfl, rfl⟩ := q_6
      have hP : va_P (dC, dI) vwCl (rW g ty Y pa kp ks I tl ac 2 tw) H := hP
      have hD : va_D A (rW g ty Y pa kp ks I tl ac 2 tw) := hD
      refine lv_if_eq (tgt := 26) hx hb dX12_index_19 (by decide) (fun _ => ?_) (fun c9 => absurd (by decide) c9) 
      refine lv_iconst (v := 0) hx hb dX12_index_26 (by decide) ?_
      refine cr_z (wo := fun u : Int32 => rW g ty Y pa kp ks I tl ac u tw) (2) hx hb hr hlk hS hP hD rfl ?_ dX12_index_27
      exact Or.inl ⟨rfl, rfl, (by first | assumption | exact pre2 ▸ ix_lo (by assumption) | exact pre2 ▸ ix_no (by assumption) | exact pre2 ▸ ix_in (by assumption) (by assumption))⟩
set_option maxHeartbeats 800000 in
set_option maxRecDepth 100000 in
theorem c_X12_rows_1 (l : Launch) (dC : Nat → ClassId) (dI : Nat → Nat → Nat) (g : Nat → Nat) (ty : Nat → ClassId) (sz : Nat) (Y : rY) (pa : Nat → Int32) (kp : Nat → Int32) (ks : Int32) (I : rI) (tl : Nat → Int32) (ac : Int64) (wr : Int32) (tw : Int32) (ρ : Nat → Nat) (pl : Nat → Option Nat) (P : cQ) (md : Int32) (Z : cZ) (rz9 : Int64) (u9 : Int32) (a0 : Int32) (b0 : Int32) (c0 : Int32) (pre0 : rR Y.2.2.2.2.2.2.2.2.2.1 Y pa ρ pl P) (pre1 : cWF pl P) (pre2 : ks = 0) (pre3 : rCnt Y md) (pre4 : tl 5 = md) (pre5 : 0 ≤ md ∧ md ≤ 6000) (pre6 : tw = 0) (pre7 : q_X11_rowCell a0 b0 c0 pl ac (-1) md Z P rz9 u9) : Met l yX12_rows (Cond.code yX12_rows cX12_rows 8 (some .long) :: gT) ({ frames := 3, cells := 0, slots := 0, locals := 82 }) (cP (dC, dI) (rTy ty) (rW g ty Y pa kp ks I tl ac wr tw) sz [.ref (g 8), .int 1, .int a0, .int b0, .int c0]) (va_Ql (fun (rz : Int64) (u : rY × (Nat → Int32) × (Nat → Int32) × (Nat → Int32) × Int32 × Int32) => ∃ (r' : Int64) (Y' : rY) (pa' kp' tl' : Nat → Int32) (wr' tw' : Int32), r' = rz ∧ (Y', pa', kp', tl', wr', tw') = u ∧ rAns u9 rz9 pl P md tl Y r' Y' pa' tl' wr' tw') (cB (dC, dI) (fun u : rY × (Nat → Int32) × (Nat → Int32) × (Nat → Int32) × Int32 × Int32 => rW g ty u.1 u.2.1 u.2.2.1 ks I u.2.2.2.1 ac u.2.2.2.2.1 u.2.2.2.2.2) (va_A (rW g ty Y pa kp ks I tl ac wr tw) sz)) (va_A (rW g ty Y pa kp ks I tl ac wr tw) sz)) 0 0 (va_A (rW g ty Y pa kp ks I tl ac wr tw) sz) := by
  refine cc_of (Qa := fun A => va_Ql (fun (rz : Int64) (u : rY × (Nat → Int32) × (Nat → Int32) × (Nat → Int32) × Int32 × Int32) => ∃ (r' : Int64) (Y' : rY) (pa' kp' tl' : Nat → Int32) (wr' tw' : Int32), r' = rz ∧ (Y', pa', kp', tl', wr', tw') = u ∧ rAns u9 rz9 pl P md tl Y r' Y' pa' tl' wr' tw') (cB (dC, dI) (fun u : rY × (Nat → Int32) × (Nat → Int32) × (Nat → Int32) × Int32 × Int32 => rW g ty u.1 u.2.1 u.2.2.1 ks I u.2.2.2.1 ac u.2.2.2.2.1 u.2.2.2.2.2) A) A) (by decide) (Nat.le_of_ble_eq_true rfl) ?_
  intro p e s m below meth c A hx hb hr hml hown hg hlk hmn hP hK hD hT hS hA hsz ls hl
  have hown : s.vm.findClass RX12 = some m.cls := hown
  have rel := pre0
  have wf := pre1
  have hcnt := pre3
  have htl := pre4
  rcases pre7 with ⟨rfl, rfl, g2⟩ | ⟨t, rfl, rfl, g2, g3, g4⟩ | ⟨rfl, rfl, g2, g3⟩ | ⟨t, r, rfl, rfl, g2, g3, g4, g5, g6⟩ | ⟨t, r, rfl, rfl, g2, g3, g4, g5, g6⟩
  · show _
    have hl : lv_has ls 8 [(0, .ref (g 8)), (1, .int 1), (2, .int a0), (3, .int b0), (4, .int c0)] := hl
    refine lv_iload_n hx hb dX12_rows_0 rfl (lv_at hl 3 rfl) ?_
    refine lv_bipush (v := 7) hx hb dX12_rows_1 (by decide) ?_
    refine lv_iand hx hb dX12_rows_3 ?_
    refine lv_istore (lv' := [(5, .int (b0 &&& 7)), (0, .ref (g 8)), (1, .int 1), (2, .int a0), (3, .int b0), (4, .int c0)]) hx hb dX12_rows_4 hl (by decide) rfl (fun ls hl => ?_)
    refine lv_iload_n hx hb dX12_rows_6 rfl (lv_at hl 2 rfl) ?_
    refine lv_tableIn (off := 110) (tgt := 117) hx hb dX12_rows_7 (by decide) (by decide) (by decide) (by decide) ?_
    refine lv_aload_n hx hb dX12_rows_117 rfl (lv_at hl 1 rfl) ?_
    refine lv_iload_n hx hb dX12_rows_118 rfl (lv_at hl 3 rfl) ?_
    refine lv_iload hx hb dX12_rows_119 (lv_at hl 0 rfl) ?_
    refine cV_i (C := RX12) (n := 2) (rest := []) hx hb hml hown hg hT (c_X12_thing l dC dI g ty s.heap.size Y pa kp ks I tl ac wr tw ρ pl P a0 (b0 &&& 7) (by exact rel) (by exact wf) (by exact sb7 _)) (cv_of hg wM_X12_131 wN_X12_thing wL_X12_X12_thing wK_X12_thing wI_X12 (by decide +kernel) ⟨Nat.le_of_ble_eq_true rfl, Nat.le_of_ble_eq_true rfl⟩) hK hP hD hS hA (va_recv hK hP (ci := 14) (q0 := 0) rfl rfl) rfl hl.1 rfl (Nat.le_of_ble_eq_true rfl) dX12_rows_121 ⟨Nat.le_of_ble_eq_true rfl, Nat.le_of_ble_eq_true rfl⟩ (fun r_2 u_3 H locs q_1 hP hD hS => ?_)
    rcases q_1 with ⟨rfl, rfl, f_4⟩ | ⟨t_5, rfl, rfl, f_6, f_7, f_8⟩ | ⟨rfl, rfl, f_9, f_10⟩ | ⟨t_11, rfl, rfl, f_12, f_13, f_14⟩
    · show _
      have hP : va_P (dC, dI) vwCl (rW g ty Y pa kp ks I tl ac 2 tw) H := hP
      have hD : va_D A (rW g ty Y pa kp ks I tl ac 2 tw) := hD
      refine lv_if_eq (tgt := 150) hx hb dX12_rows_124 (by decide) (fun _ => ?_) (fun c9 => absurd (by decide) c9) 
      refine lv_aload_n hx hb dX12_rows_150 rfl (lv_at hl 1 rfl) ?_
      refine cV_l (C := RX12) (n := 0) (rest := []) hx hb hml hown hg hT (c_X12_no l dC dI g ty H.size Y pa kp ks I tl ac 2 tw  ) (cv_of hg wM_X12_107 wN_X12_no wL_X12_X12_no wK_X12_no wI_X12 (by decide +kernel) ⟨Nat.le_of_ble_eq_true rfl, Nat.le_of_ble_eq_true rfl⟩) hK hP hD hS hA (va_recv hK hP (ci := 14) (q0 := 0) rfl rfl) rfl hl.1 rfl (Nat.le_of_ble_eq_true rfl) dX12_rows_151 ⟨Nat.le_of_ble_eq_true rfl, Nat.le_of_ble_eq_true rfl⟩ (fun r_16 u_17 H locs q_15 hP hD hS => ?_)
      obtain ⟨rfl, rfl⟩ := q_15
      have hP : va_P (dC, dI) vwCl (rW g ty Y pa kp ks I tl ac 2 1) H := hP
      have hD : va_D A (rW g ty Y pa kp ks I tl ac 2 1) := hD
      refine cr_l (wo := fun u : rY × (Nat → Int32) × (Nat → Int32) × (Nat → Int32) × Int32 × Int32 => rW g ty u.1 u.2.1 u.2.2.1 ks I u.2.2.2.1 ac u.2.2.2.2.1 u.2.2.2.2.2) ((Y, pa, kp, tl, 2, 1)) hx hb hr hlk hS hP hD ?_ dX12_rows_154
      exact ⟨0, Y, pa, kp, tl, 2, 1, rfl, rfl, (by exact ra_f (f := 2) rel hcnt htl (by decide))⟩
    · show _
      exact absurd f_6 (by assumption)
    · show _
      exact absurd f_9 (by assumption)
    · show _
      exact absurd f_12 (by assumption)
  · show _
    obtain ⟨n1t, n2t, n3t⟩ := rk_some rel g2 g3
    have hnet := (i32_pos n1t).2.1
    have tht := wf.1 _ _ g3
    have hl : lv_has ls 8 [(0, .ref (g 8)), (1, .int 1), (2, .int a0), (3, .int b0), (4, .int c0)] := hl
    refine lv_iload_n hx hb dX12_rows_0 rfl (lv_at hl 3 rfl) ?_
    refine lv_bipush (v := 7) hx hb dX12_rows_1 (by decide) ?_
    refine lv_iand hx hb dX12_rows_3 ?_
    refine lv_istore (lv' := [(5, .int (b0 &&& 7)), (0, .ref (g 8)), (1, .int 1), (2, .int a0), (3, .int b0), (4, .int c0)]) hx hb dX12_rows_4 hl (by decide) rfl (fun ls hl => ?_)
    refine lv_iload_n hx hb dX12_rows_6 rfl (lv_at hl 2 rfl) ?_
    refine lv_tableIn (off := 110) (tgt := 117) hx hb dX12_rows_7 (by decide) (by decide) (by decide) (by decide) ?_
    refine lv_aload_n hx hb dX12_rows_117 rfl (lv_at hl 1 rfl) ?_
    refine lv_iload_n hx hb dX12_rows_118 rfl (lv_at hl 3 rfl) ?_
    refine lv_iload hx hb dX12_rows_119 (lv_at hl 0 rfl) ?_
    refine cV_i (C := RX12) (n := 2) (rest := []) hx hb hml hown hg hT (c_X12_thing l dC dI g ty s.heap.size Y pa kp ks I tl ac wr tw ρ pl P a0 (b0 &&& 7) (by exact rel) (by exact wf) (by exact sb7 _)) (cv_of hg wM_X12_131 wN_X12_thing wL_X12_X12_thing wK_X12_thing wI_X12 (by decide +kernel) ⟨Nat.le_of_ble_eq_true rfl, Nat.le_of_ble_eq_true rfl⟩) hK hP hD hS hA (va_recv hK hP (ci := 14) (q0 := 0) rfl rfl) rfl hl.1 rfl (Nat.le_of_ble_eq_true rfl) dX12_rows_121 ⟨Nat.le_of_ble_eq_true rfl, Nat.le_of_ble_eq_true rfl⟩ (fun r_19 u_20 H locs q_18 hP hD hS => ?_)
    rcases q_18 with ⟨rfl, rfl, f_21⟩ | ⟨t_22, rfl, rfl, f_23, f_24, f_25⟩ | ⟨rfl, rfl, f_26, f_27⟩ | ⟨t_28, rfl, rfl, f_29, f_30, f_31⟩
    · show _
      exact absurd (by assumption) f_21
    · show _
      obtain rfl := Option.some.inj (g3.symm.trans f_24)
      have hP : va_P (dC, dI) vwCl (rW g ty Y pa kp ks I tl ac 3 tw) H := hP
      have hD : va_D A (rW g ty Y pa kp ks I tl ac 3 tw) := hD
      refine lv_if_eq (tgt := 150) hx hb dX12_rows_124 (by decide) (fun _ => ?_) (fun c9 => absurd (by decide) c9) 
      refine lv_aload_n hx hb dX12_rows_150 rfl (lv_at hl 1 rfl) ?_
      refine cV_l (C := RX12) (n := 0) (rest := []) hx hb hml hown hg hT (c_X12_no l dC dI g ty H.size Y pa kp ks I tl ac 3 tw  ) (cv_of hg wM_X12_107 wN_X12_no wL_X12_X12_no wK_X12_no wI_X12 (by decide +kernel) ⟨Nat.le_of_ble_eq_true rfl, Nat.le_of_ble_eq_true rfl⟩) hK hP hD hS hA (va_recv hK hP (ci := 14) (q0 := 0) rfl rfl) rfl hl.1 rfl (Nat.le_of_ble_eq_true rfl) dX12_rows_151 ⟨Nat.le_of_ble_eq_true rfl, Nat.le_of_ble_eq_true rfl⟩ (fun r_33 u_34 H locs q_32 hP hD hS => ?_)
      obtain ⟨rfl, rfl⟩ := q_32
      have hP : va_P (dC, dI) vwCl (rW g ty Y pa kp ks I tl ac 3 1) H := hP
      have hD : va_D A (rW g ty Y pa kp ks I tl ac 3 1) := hD
      refine cr_l (wo := fun u : rY × (Nat → Int32) × (Nat → Int32) × (Nat → Int32) × Int32 × Int32 => rW g ty u.1 u.2.1 u.2.2.1 ks I u.2.2.2.1 ac u.2.2.2.2.1 u.2.2.2.2.2) ((Y, pa, kp, tl, 3, 1)) hx hb hr hlk hS hP hD ?_ dX12_rows_154
      exact ⟨0, Y, pa, kp, tl, 3, 1, rfl, rfl, (by exact ra_f (f := 3) rel hcnt htl (by decide))⟩
    · show _
      exact absurd (g3.symm.trans f_27) (by simp)
    · show _
      obtain rfl := Option.some.inj (g3.symm.trans f_30); exact absurd (g4.symm.trans f_31) (by decide)
  · show _
    have hza0 := rk_none rel g2 g3
    have hl : lv_has ls 8 [(0, .ref (g 8)), (1, .int 1), (2, .int a0), (3, .int b0), (4, .int c0)] := hl
    refine lv_iload_n hx hb dX12_rows_0 rfl (lv_at hl 3 rfl) ?_
    refine lv_bipush (v := 7) hx hb dX12_rows_1 (by decide) ?_
    refine lv_iand hx hb dX12_rows_3 ?_
    refine lv_istore (lv' := [(5, .int (b0 &&& 7)), (0, .ref (g 8)), (1, .int 1), (2, .int a0), (3, .int b0), (4, .int c0)]) hx hb dX12_rows_4 hl (by decide) rfl (fun ls hl => ?_)
    refine lv_iload_n hx hb dX12_rows_6 rfl (lv_at hl 2 rfl) ?_
    refine lv_tableIn (off := 110) (tgt := 117) hx hb dX12_rows_7 (by decide) (by decide) (by decide) (by decide) ?_
    refine lv_aload_n hx hb dX12_rows_117 rfl (lv_at hl 1 rfl) ?_
    refine lv_iload_n hx hb dX12_rows_118 rfl (lv_at hl 3 rfl) ?_
    refine lv_iload hx hb dX12_rows_119 (lv_at hl 0 rfl) ?_
    refine cV_i (C := RX12) (n := 2) (rest := []) hx hb hml hown hg hT (c_X12_thing l dC dI g ty s.heap.size Y pa kp ks I tl ac wr tw ρ pl P a0 (b0 &&& 7) (by exact rel) (by exact wf) (by exact sb7 _)) (cv_of hg wM_X12_131 wN_X12_thing wL_X12_X12_thing wK_X12_thing wI_X12 (by decide +kernel) ⟨Nat.le_of_ble_eq_true rfl, Nat.le_of_ble_eq_true rfl⟩) hK hP hD hS hA (va_recv hK hP (ci := 14) (q0 := 0) rfl rfl) rfl hl.1 rfl (Nat.le_of_ble_eq_true rfl) dX12_rows_121 ⟨Nat.le_of_ble_eq_true rfl, Nat.le_of_ble_eq_true rfl⟩ (fun r_36 u_37 H locs q_35 hP hD hS => ?_)
    rcases q_35 with ⟨rfl, rfl, f_38⟩ | ⟨t_39, rfl, rfl, f_40, f_41, f_42⟩ | ⟨rfl, rfl, f_43, f_44⟩ | ⟨t_45, rfl, rfl, f_46, f_47, f_48⟩
    · show _
      exact absurd (by assumption) f_38
    · show _
      exact absurd (g3.symm.trans f_41) (by simp)
    · show _
      have hP : va_P (dC, dI) vwCl (rW g ty Y pa kp ks I tl ac wr tw) H := hP
      have hD : va_D A (rW g ty Y pa kp ks I tl ac wr tw) := hD
      refine lv_if_eq (tgt := 150) hx hb dX12_rows_124 (by decide) (fun c9 => absurd c9 (by decide)) (fun _ => ?_)
      refine lv_aload_n hx hb dX12_rows_127 rfl (lv_at hl 1 rfl) ?_
      refine lv_iload_n hx hb dX12_rows_128 rfl (lv_at hl 3 rfl) ?_
      refine cV_i (C := RX12) (n := 1) (rest := []) hx hb hml hown hg hT (c_X12_need l dC dI g ty H.size Y pa kp ks I tl ac wr tw a0 (by assumption)) (cv_of hg wM_X12_134 wN_X12_need wL_X12_X12_need wK_X12_need wI_X12 (by decide +kernel) ⟨Nat.le_of_ble_eq_true rfl, Nat.le_of_ble_eq_true rfl⟩) hK hP hD hS hA (va_recv hK hP (ci := 14) (q0 := 0) rfl rfl) rfl hl.1 rfl (Nat.le_of_ble_eq_true rfl) dX12_rows_129 ⟨Nat.le_of_ble_eq_true rfl, Nat.le_of_ble_eq_true rfl⟩ (fun r_50 u_51 H locs q_49 hP hD hS => ?_)
      rcases q_49 with ⟨rfl, rfl, f_52⟩ | ⟨rfl, rfl, f_53⟩
      · show _
        have hP : va_P (dC, dI) vwCl (rW g ty Y pa kp ks I tl ac 1 tw) H := hP
        have hD : va_D A (rW g ty Y pa kp ks I tl ac 1 tw) := hD
        refine lv_if_eq (tgt := 150) hx hb dX12_rows_132 (by decide) (fun _ => ?_) (fun c9 => absurd (by decide) c9) 
        refine lv_aload_n hx hb dX12_rows_150 rfl (lv_at hl 1 rfl) ?_
        refine cV_l (C := RX12) (n := 0) (rest := []) hx hb hml hown hg hT (c_X12_no l dC dI g ty H.size Y pa kp ks I tl ac 1 tw  ) (cv_of hg wM_X12_107 wN_X12_no wL_X12_X12_no wK_X12_no wI_X12 (by decide +kernel) ⟨Nat.le_of_ble_eq_true rfl, Nat.le_of_ble_eq_true rfl⟩) hK hP hD hS hA (va_recv hK hP (ci := 14) (q0 := 0) rfl rfl) rfl hl.1 rfl (Nat.le_of_ble_eq_true rfl) dX12_rows_151 ⟨Nat.le_of_ble_eq_true rfl, Nat.le_of_ble_eq_true rfl⟩ (fun r_55 u_56 H locs q_54 hP hD hS => ?_)
        obtain ⟨rfl, rfl⟩ := q_54
        have hP : va_P (dC, dI) vwCl (rW g ty Y pa kp ks I tl ac 1 1) H := hP
        have hD : va_D A (rW g ty Y pa kp ks I tl ac 1 1) := hD
        refine cr_l (wo := fun u : rY × (Nat → Int32) × (Nat → Int32) × (Nat → Int32) × Int32 × Int32 => rW g ty u.1 u.2.1 u.2.2.1 ks I u.2.2.2.1 ac u.2.2.2.2.1 u.2.2.2.2.2) ((Y, pa, kp, tl, 1, 1)) hx hb hr hlk hS hP hD ?_ dX12_rows_154
        exact ⟨0, Y, pa, kp, tl, 1, 1, rfl, rfl, (by exact ra_f (f := 1) rel hcnt htl (by decide))⟩
      · show _
        exact absurd (by assumption) f_53
    · show _
      exact absurd (g3.symm.trans f_47) (by simp)
  · show _
    obtain ⟨n1t, n2t, n3t⟩ := rk_some rel g2 g3
    have hnet := (i32_pos n1t).2.1
    have tht := wf.1 _ _ g3
    have kt := cIs_0 (ki_row wf tht.1 tht.2 g4)
    have hvt := rv_row rel n1t n2t n3t kt g5
    have hl : lv_has ls 8 [(0, .ref (g 8)), (1, .int 1), (2, .int a0), (3, .int b0), (4, .int c0)] := hl
    refine lv_iload_n hx hb dX12_rows_0 rfl (lv_at hl 3 rfl) ?_
    refine lv_bipush (v := 7) hx hb dX12_rows_1 (by decide) ?_
    refine lv_iand hx hb dX12_rows_3 ?_
    refine lv_istore (lv' := [(5, .int (b0 &&& 7)), (0, .ref (g 8)), (1, .int 1), (2, .int a0), (3, .int b0), (4, .int c0)]) hx hb dX12_rows_4 hl (by decide) rfl (fun ls hl => ?_)
    refine lv_iload_n hx hb dX12_rows_6 rfl (lv_at hl 2 rfl) ?_
    refine lv_tableIn (off := 110) (tgt := 117) hx hb dX12_rows_7 (by decide) (by decide) (by decide) (by decide) ?_
    refine lv_aload_n hx hb dX12_rows_117 rfl (lv_at hl 1 rfl) ?_
    refine lv_iload_n hx hb dX12_rows_118 rfl (lv_at hl 3 rfl) ?_
    refine lv_iload hx hb dX12_rows_119 (lv_at hl 0 rfl) ?_
    refine cV_i (C := RX12) (n := 2) (rest := []) hx hb hml hown hg hT (c_X12_thing l dC dI g ty s.heap.size Y pa kp ks I tl ac wr tw ρ pl P a0 (b0 &&& 7) (by exact rel) (by exact wf) (by exact sb7 _)) (cv_of hg wM_X12_131 wN_X12_thing wL_X12_X12_thing wK_X12_thing wI_X12 (by decide +kernel) ⟨Nat.le_of_ble_eq_true rfl, Nat.le_of_ble_eq_true rfl⟩) hK hP hD hS hA (va_recv hK hP (ci := 14) (q0 := 0) rfl rfl) rfl hl.1 rfl (Nat.le_of_ble_eq_true rfl) dX12_rows_121 ⟨Nat.le_of_ble_eq_true rfl, Nat.le_of_ble_eq_true rfl⟩ (fun r_58 u_59 H locs q_57 hP hD hS => ?_)
    rcases q_57 with ⟨rfl, rfl, f_60⟩ | ⟨t_61, rfl, rfl, f_62, f_63, f_64⟩ | ⟨rfl, rfl, f_65, f_66⟩ | ⟨t_67, rfl, rfl, f_68, f_69, f_70⟩
    · show _
      exact absurd (by assumption) f_60
    · show _
      obtain rfl := Option.some.inj (g3.symm.trans f_63); exact absurd (g4.symm.trans f_64) (by decide)
    · show _
      exact absurd (g3.symm.trans f_66) (by simp)
    · show _
      obtain rfl := Option.some.inj (g3.symm.trans f_69)
      have hP : va_P (dC, dI) vwCl (rW g ty Y pa kp ks I tl ac wr tw) H := hP
      have hD : va_D A (rW g ty Y pa kp ks I tl ac wr tw) := hD
      refine lv_if_eq (tgt := 150) hx hb dX12_rows_124 (by decide) (fun c9 => absurd c9 (by decide)) (fun _ => ?_)
      refine lv_aload_n hx hb dX12_rows_127 rfl (lv_at hl 1 rfl) ?_
      refine lv_iload_n hx hb dX12_rows_128 rfl (lv_at hl 3 rfl) ?_
      refine cV_i (C := RX12) (n := 1) (rest := []) hx hb hml hown hg hT (c_X12_need l dC dI g ty H.size Y pa kp ks I tl ac wr tw a0 (by assumption)) (cv_of hg wM_X12_134 wN_X12_need wL_X12_X12_need wK_X12_need wI_X12 (by decide +kernel) ⟨Nat.le_of_ble_eq_true rfl, Nat.le_of_ble_eq_true rfl⟩) hK hP hD hS hA (va_recv hK hP (ci := 14) (q0 := 0) rfl rfl) rfl hl.1 rfl (Nat.le_of_ble_eq_true rfl) dX12_rows_129 ⟨Nat.le_of_ble_eq_true rfl, Nat.le_of_ble_eq_true rfl⟩ (fun r_72 u_73 H locs q_71 hP hD hS => ?_)
      rcases q_71 with ⟨rfl, rfl, f_74⟩ | ⟨rfl, rfl, f_75⟩
      · show _
        exact absurd f_74 (by assumption)
      · show _
        have hP : va_P (dC, dI) vwCl (rW g ty Y pa kp ks I tl ac wr tw) H := hP
        have hD : va_D A (rW g ty Y pa kp ks I tl ac wr tw) := hD
        refine lv_if_eq (tgt := 150) hx hb dX12_rows_132 (by decide) (fun c9 => absurd c9 (by decide)) (fun _ => ?_)
        refine lv_aload_n hx hb dX12_rows_135 rfl (lv_at hl 1 rfl) ?_
        refine lv_aload_n hx hb dX12_rows_136 rfl (lv_at hl 1 rfl) ?_
        refine va_get (D := (dC, dI)) (ci := 14) (v := .ref (g 9)) (C := RX12) (T := TX12) (N := 21) hx hb hg inG12 hown hK hP 0 rfl rfl 8 (by decide) (hg _ wF_X12_34) (fun _ h9 => h9) rfl dX12_rows_137 ?_
        refine lv_iload_n hx hb dX12_rows_140 rfl (lv_at hl 3 rfl) ?_
        refine va_iald hx hb hK hP 7 0 rfl rfl (by assumption) dX12_rows_141 ?_
        refine lv_iload hx hb dX12_rows_142 (lv_at hl 5 rfl) ?_
        refine cV_i (C := RX12) (n := 2) (rest := []) hx hb hml hown hg hT (c_X12_indexN l dC dI g ty H.size Y pa kp ks I tl ac wr tw (P.2.2.2.2.2.1 r) (pa a0.toNatClampNeg) c0 (by exact hvt.1) (by exact hvt.2.1) (by exact hvt.2.2.1)) (cv_of hg wM_X12_137 wN_X12_index wL_X12_X12_index wK_X12_index wI_X12 (by decide +kernel) ⟨Nat.le_of_ble_eq_true rfl, Nat.le_of_ble_eq_true rfl⟩) hK hP hD hS hA (va_recv hK hP (ci := 14) (q0 := 0) rfl rfl) rfl hl.1 rfl (Nat.le_of_ble_eq_true rfl) dX12_rows_144 ⟨Nat.le_of_ble_eq_true rfl, Nat.le_of_ble_eq_true rfl⟩ (fun r_77 u_78 H locs q_76 hP hD hS => ?_)
        rcases q_76 with ⟨rfl, rfl, f_79⟩ | ⟨rfl, rfl, f_80⟩
        · show _
          have hP : va_P (dC, dI) vwCl (rW g ty Y pa kp ks I tl ac 2 tw) H := hP
          have hD : va_D A (rW g ty Y pa kp ks I tl ac 2 tw) := hD
          refine lv_if_ne (tgt := 155) hx hb dX12_rows_147 (by decide) (fun c9 => absurd (by decide) c9) (fun _ => ?_)
          refine lv_aload_n hx hb dX12_rows_150 rfl (lv_at hl 1 rfl) ?_
          refine cV_l (C := RX12) (n := 0) (rest := []) hx hb hml hown hg hT (c_X12_no l dC dI g ty H.size Y pa kp ks I tl ac 2 tw  ) (cv_of hg wM_X12_107 wN_X12_no wL_X12_X12_no wK_X12_no wI_X12 (by decide +kernel) ⟨Nat.le_of_ble_eq_true rfl, Nat.le_of_ble_eq_true rfl⟩) hK hP hD hS hA (va_recv hK hP (ci := 14) (q0 := 0) rfl rfl) rfl hl.1 rfl (Nat.le_of_ble_eq_true rfl) dX12_rows_151 ⟨Nat.le_of_ble_eq_true rfl, Nat.le_of_ble_eq_true rfl⟩ (fun r_82 u_83 H locs q_81 hP hD hS => ?_)
          obtain ⟨rfl, rfl⟩ := q_81
          have hP : va_P (dC, dI) vwCl (rW g ty Y pa kp ks I tl ac 2 1) H := hP
          have hD : va_D A (rW g ty Y pa kp ks I tl ac 2 1) := hD
          refine cr_l (wo := fun u : rY × (Nat → Int32) × (Nat → Int32) × (Nat → Int32) × Int32 × Int32 => rW g ty u.1 u.2.1 u.2.2.1 ks I u.2.2.2.1 ac u.2.2.2.2.1 u.2.2.2.2.2) ((Y, pa, kp, tl, 2, 1)) hx hb hr hlk hS hP hD ?_ dX12_rows_154
          exact ⟨0, Y, pa, kp, tl, 2, 1, rfl, rfl, (by exact ra_f (f := 2) rel hcnt htl (by decide))⟩
        · show _
          exact absurd f_80 (by assumption)
  · show _
    obtain ⟨n1t, n2t, n3t⟩ := rk_some rel g2 g3
    have hnet := (i32_pos n1t).2.1
    have tht := wf.1 _ _ g3
    have kt := cIs_0 (ki_row wf tht.1 tht.2 g4)
    have hvt := rv_row rel n1t n2t n3t kt g5
    have hl : lv_has ls 8 [(0, .ref (g 8)), (1, .int 1), (2, .int a0), (3, .int b0), (4, .int c0)] := hl
    refine lv_iload_n hx hb dX12_rows_0 rfl (lv_at hl 3 rfl) ?_
    refine lv_bipush (v := 7) hx hb dX12_rows_1 (by decide) ?_
    refine lv_iand hx hb dX12_rows_3 ?_
    refine lv_istore (lv' := [(5, .int (b0 &&& 7)), (0, .ref (g 8)), (1, .int 1), (2, .int a0), (3, .int b0), (4, .int c0)]) hx hb dX12_rows_4 hl (by decide) rfl (fun ls hl => ?_)
    refine lv_iload_n hx hb dX12_rows_6 rfl (lv_at hl 2 rfl) ?_
    refine lv_tableIn (off := 110) (tgt := 117) hx hb dX12_rows_7 (by decide) (by decide) (by decide) (by decide) ?_
    refine lv_aload_n hx hb dX12_rows_117 rfl (lv_at hl 1 rfl) ?_
    refine lv_iload_n hx hb dX12_rows_118 rfl (lv_at hl 3 rfl) ?_
    refine lv_iload hx hb dX12_rows_119 (lv_at hl 0 rfl) ?_
    refine cV_i (C := RX12) (n := 2) (rest := []) hx hb hml hown hg hT (c_X12_thing l dC dI g ty s.heap.size Y pa kp ks I tl ac wr tw ρ pl P a0 (b0 &&& 7) (by exact rel) (by exact wf) (by exact sb7 _)) (cv_of hg wM_X12_131 wN_X12_thing wL_X12_X12_thing wK_X12_thing wI_X12 (by decide +kernel) ⟨Nat.le_of_ble_eq_true rfl, Nat.le_of_ble_eq_true rfl⟩) hK hP hD hS hA (va_recv hK hP (ci := 14) (q0 := 0) rfl rfl) rfl hl.1 rfl (Nat.le_of_ble_eq_true rfl) dX12_rows_121 ⟨Nat.le_of_ble_eq_true rfl, Nat.le_of_ble_eq_true rfl⟩ (fun r_85 u_86 H locs q_84 hP hD hS => ?_)
    rcases q_84 with ⟨rfl, rfl, f_87⟩ | ⟨t_88, rfl, rfl, f_89, f_90, f_91⟩ | ⟨rfl, rfl, f_92, f_93⟩ | ⟨t_94, rfl, rfl, f_95, f_96, f_97⟩
    · show _
      exact absurd (by assumption) f_87
    · show _
      obtain rfl := Option.some.inj (g3.symm.trans f_90); exact absurd (g4.symm.trans f_91) (by decide)
    · show _
      exact absurd (g3.symm.trans f_93) (by simp)
    · show _
      obtain rfl := Option.some.inj (g3.symm.trans f_96)
      have hP : va_P (dC, dI) vwCl (rW g ty Y pa kp ks I tl ac wr tw) H := hP
      have hD : va_D A (rW g ty Y pa kp ks I tl ac wr tw) := hD
      refine lv_if_eq (tgt := 150) hx hb dX12_rows_124 (by decide) (fun c9 => absurd c9 (by decide)) (fun _ => ?_)
      refine lv_aload_n hx hb dX12_rows_127 rfl (lv_at hl 1 rfl) ?_
      refine lv_iload_n hx hb dX12_rows_128 rfl (lv_at hl 3 rfl) ?_
      refine cV_i (C := RX12) (n := 1) (rest := []) hx hb hml hown hg hT (c_X12_need l dC dI g ty H.size Y pa kp ks I tl ac wr tw a0 (by assumption)) (cv_of hg wM_X12_134 wN_X12_need wL_X12_X12_need wK_X12_need wI_X12 (by decide +kernel) ⟨Nat.le_of_ble_eq_true rfl, Nat.le_of_ble_eq_true rfl⟩) hK hP hD hS hA (va_recv hK hP (ci := 14) (q0 := 0) rfl rfl) rfl hl.1 rfl (Nat.le_of_ble_eq_true rfl) dX12_rows_129 ⟨Nat.le_of_ble_eq_true rfl, Nat.le_of_ble_eq_true rfl⟩ (fun r_99 u_100 H locs q_98 hP hD hS => ?_)
      rcases q_98 with ⟨rfl, rfl, f_101⟩ | ⟨rfl, rfl, f_102⟩
      · show _
        exact absurd f_101 (by assumption)
      · show _
        have hP : va_P (dC, dI) vwCl (rW g ty Y pa kp ks I tl ac wr tw) H := hP
        have hD : va_D A (rW g ty Y pa kp ks I tl ac wr tw) := hD
        refine lv_if_eq (tgt := 150) hx hb dX12_rows_132 (by decide) (fun c9 => absurd c9 (by decide)) (fun _ => ?_)
        refine lv_aload_n hx hb dX12_rows_135 rfl (lv_at hl 1 rfl) ?_
        refine lv_aload_n hx hb dX12_rows_136 rfl (lv_at hl 1 rfl) ?_
        refine va_get (D := (dC, dI)) (ci := 14) (v := .ref (g 9)) (C := RX12) (T := TX12) (N := 21) hx hb hg inG12 hown hK hP 0 rfl rfl 8 (by decide) (hg _ wF_X12_34) (fun _ h9 => h9) rfl dX12_rows_137 ?_
        refine lv_iload_n hx hb dX12_rows_140 rfl (lv_at hl 3 rfl) ?_
        refine va_iald hx hb hK hP 7 0 rfl rfl (by assumption) dX12_rows_141 ?_
        refine lv_iload hx hb dX12_rows_142 (lv_at hl 5 rfl) ?_
        refine cV_i (C := RX12) (n := 2) (rest := []) hx hb hml hown hg hT (c_X12_indexN l dC dI g ty H.size Y pa kp ks I tl ac wr tw (P.2.2.2.2.2.1 r) (pa a0.toNatClampNeg) c0 (by exact hvt.1) (by exact hvt.2.1) (by exact hvt.2.2.1)) (cv_of hg wM_X12_137 wN_X12_index wL_X12_X12_index wK_X12_index wI_X12 (by decide +kernel) ⟨Nat.le_of_ble_eq_true rfl, Nat.le_of_ble_eq_true rfl⟩) hK hP hD hS hA (va_recv hK hP (ci := 14) (q0 := 0) rfl rfl) rfl hl.1 rfl (Nat.le_of_ble_eq_true rfl) dX12_rows_144 ⟨Nat.le_of_ble_eq_true rfl, Nat.le_of_ble_eq_true rfl⟩ (fun r_104 u_105 H locs q_103 hP hD hS => ?_)
        rcases q_103 with ⟨rfl, rfl, f_106⟩ | ⟨rfl, rfl, f_107⟩
        · show _
          exact absurd (by assumption) f_106
        · show _
          have hP : va_P (dC, dI) vwCl (rW g ty Y pa kp ks I tl ac wr tw) H := hP
          have hD : va_D A (rW g ty Y pa kp ks I tl ac wr tw) := hD
          refine lv_if_ne (tgt := 155) hx hb dX12_rows_147 (by decide) (fun _ => ?_) (fun c9 => absurd c9 (by decide)) 
          refine lv_iload_n hx hb dX12_rows_155 rfl (lv_at hl 2 rfl) ?_
          refine lv_iconst (v := 1) hx hb dX12_rows_156 (by decide) ?_
          refine lv_icmp_ne (tgt := 173) hx hb dX12_rows_157 (by decide) (fun c9 => absurd (by decide) c9) (fun _ => ?_)
          refine lv_aload_n hx hb dX12_rows_160 rfl (lv_at hl 1 rfl) ?_
          refine lv_aload_n hx hb dX12_rows_161 rfl (lv_at hl 1 rfl) ?_
          refine va_get (D := (dC, dI)) (ci := 14) (v := .ref (g 9)) (C := RX12) (T := TX12) (N := 21) hx hb hg inG12 hown hK hP 0 rfl rfl 8 (by decide) (hg _ wF_X12_34) (fun _ h9 => h9) rfl dX12_rows_162 ?_
          refine lv_iload_n hx hb dX12_rows_165 rfl (lv_at hl 3 rfl) ?_
          refine va_iald hx hb hK hP 7 0 rfl rfl (by assumption) dX12_rows_166 ?_
          refine lv_iload hx hb dX12_rows_167 (lv_at hl 5 rfl) ?_
          refine cV_l (C := RX12) (n := 2) (rest := []) hx hb hml hown hg hT (c_X12_cell l dC dI g ty H.size Y pa kp ks I tl ac wr tw (pa a0.toNatClampNeg) c0 (by exact hvt.1) (by exact (hvt.2.2.2 _ (by assumption)).1)) (cv_of hg wM_X12_140 wN_X12_cell wL_X12_X12_cell wK_X12_cell wI_X12 (by decide +kernel) ⟨Nat.le_of_ble_eq_true rfl, Nat.le_of_ble_eq_true rfl⟩) hK hP hD hS hA (va_recv hK hP (ci := 14) (q0 := 0) rfl rfl) rfl hl.1 rfl (Nat.le_of_ble_eq_true rfl) dX12_rows_169 ⟨Nat.le_of_ble_eq_true rfl, Nat.le_of_ble_eq_true rfl⟩ (fun r_109 u_110 H locs q_108 hP hD hS => ?_)
          obtain rfl := q_108
          have hP : va_P (dC, dI) vwCl (rW g ty Y pa kp ks I tl ac wr tw) H := hP
          have hD : va_D A (rW g ty Y pa kp ks I tl ac wr tw) := hD
          refine cr_l (wo := fun u : rY × (Nat → Int32) × (Nat → Int32) × (Nat → Int32) × Int32 × Int32 => rW g ty u.1 u.2.1 u.2.2.1 ks I u.2.2.2.1 ac u.2.2.2.2.1 u.2.2.2.2.2) ((Y, pa, kp, tl, wr, tw)) hx hb hr hlk hS hP hD ?_ dX12_rows_172
          exact ⟨Y.2.2.2.2.2.1 (Y.2.1 (pa a0.toNatClampNeg).toNatClampNeg + c0).toNatClampNeg, Y, pa, kp, tl, wr, tw, rfl, rfl, (by subst pre6; exact ra_ok rel hcnt htl (hvt.2.2.2 _ (by assumption)).2)⟩
set_option maxHeartbeats 800000 in
set_option maxRecDepth 100000 in
theorem c_X12_rows_3 (l : Launch) (dC : Nat → ClassId) (dI : Nat → Nat → Nat) (g : Nat → Nat) (ty : Nat → ClassId) (sz : Nat) (Y : rY) (pa : Nat → Int32) (kp : Nat → Int32) (ks : Int32) (I : rI) (tl : Nat → Int32) (ac : Int64) (wr : Int32) (tw : Int32) (ρ : Nat → Nat) (pl : Nat → Option Nat) (P : cQ) (md : Int32) (Z : cZ) (rz9 : Int64) (u9 : Int32) (a0 : Int32) (b0 : Int32) (c0 : Int32) (pre0 : rR Y.2.2.2.2.2.2.2.2.2.1 Y pa ρ pl P) (pre1 : cWF pl P) (pre2 : ks = 0) (pre3 : rCnt Y md) (pre4 : tl 5 = md) (pre5 : 0 ≤ md ∧ md ≤ 6000) (pre6 : tw = 0) (pre7 : q_X11_rowLength a0 b0 pl ac (-1) md Z P rz9 u9) : Met l yX12_rows (Cond.code yX12_rows cX12_rows 8 (some .long) :: gT) ({ frames := 3, cells := 0, slots := 0, locals := 82 }) (cP (dC, dI) (rTy ty) (rW g ty Y pa kp ks I tl ac wr tw) sz [.ref (g 8), .int 3, .int a0, .int b0, .int c0]) (va_Ql (fun (rz : Int64) (u : rY × (Nat → Int32) × (Nat → Int32) × (Nat → Int32) × Int32 × Int32) => ∃ (r' : Int64) (Y' : rY) (pa' kp' tl' : Nat → Int32) (wr' tw' : Int32), r' = rz ∧ (Y', pa', kp', tl', wr', tw') = u ∧ rAns u9 rz9 pl P md tl Y r' Y' pa' tl' wr' tw') (cB (dC, dI) (fun u : rY × (Nat → Int32) × (Nat → Int32) × (Nat → Int32) × Int32 × Int32 => rW g ty u.1 u.2.1 u.2.2.1 ks I u.2.2.2.1 ac u.2.2.2.2.1 u.2.2.2.2.2) (va_A (rW g ty Y pa kp ks I tl ac wr tw) sz)) (va_A (rW g ty Y pa kp ks I tl ac wr tw) sz)) 0 0 (va_A (rW g ty Y pa kp ks I tl ac wr tw) sz) := by
  refine cc_of (Qa := fun A => va_Ql (fun (rz : Int64) (u : rY × (Nat → Int32) × (Nat → Int32) × (Nat → Int32) × Int32 × Int32) => ∃ (r' : Int64) (Y' : rY) (pa' kp' tl' : Nat → Int32) (wr' tw' : Int32), r' = rz ∧ (Y', pa', kp', tl', wr', tw') = u ∧ rAns u9 rz9 pl P md tl Y r' Y' pa' tl' wr' tw') (cB (dC, dI) (fun u : rY × (Nat → Int32) × (Nat → Int32) × (Nat → Int32) × Int32 × Int32 => rW g ty u.1 u.2.1 u.2.2.1 ks I u.2.2.2.1 ac u.2.2.2.2.1 u.2.2.2.2.2) A) A) (by decide) (Nat.le_of_ble_eq_true rfl) ?_
  intro p e s m below meth c A hx hb hr hml hown hg hlk hmn hP hK hD hT hS hA hsz ls hl
  have hown : s.vm.findClass RX12 = some m.cls := hown
  have rel := pre0
  have wf := pre1
  have hcnt := pre3
  have htl := pre4
  rcases pre7 with ⟨rfl, rfl, g2⟩ | ⟨t, rfl, rfl, g2, g3, g4⟩ | ⟨rfl, rfl, g2, g3⟩ | ⟨t, r, rfl, rfl, g2, g3, g4, g5⟩
  · show _
    have hl : lv_has ls 8 [(0, .ref (g 8)), (1, .int 3), (2, .int a0), (3, .int b0), (4, .int c0)] := hl
    refine lv_iload_n hx hb dX12_rows_0 rfl (lv_at hl 3 rfl) ?_
    refine lv_bipush (v := 7) hx hb dX12_rows_1 (by decide) ?_
    refine lv_iand hx hb dX12_rows_3 ?_
    refine lv_istore (lv' := [(5, .int (b0 &&& 7)), (0, .ref (g 8)), (1, .int 3), (2, .int a0), (3, .int b0), (4, .int c0)]) hx hb dX12_rows_4 hl (by decide) rfl (fun ls hl => ?_)
    refine lv_iload_n hx hb dX12_rows_6 rfl (lv_at hl 2 rfl) ?_
    refine lv_tableIn (off := 192) (tgt := 199) hx hb dX12_rows_7 (by decide) (by decide) (by decide) (by decide) ?_
    refine lv_aload_n hx hb dX12_rows_199 rfl (lv_at hl 1 rfl) ?_
    refine lv_iload_n hx hb dX12_rows_200 rfl (lv_at hl 3 rfl) ?_
    refine lv_iload hx hb dX12_rows_201 (lv_at hl 0 rfl) ?_
    refine cV_i (C := RX12) (n := 2) (rest := []) hx hb hml hown hg hT (c_X12_thing l dC dI g ty s.heap.size Y pa kp ks I tl ac wr tw ρ pl P a0 (b0 &&& 7) (by exact rel) (by exact wf) (by exact sb7 _)) (cv_of hg wM_X12_131 wN_X12_thing wL_X12_X12_thing wK_X12_thing wI_X12 (by decide +kernel) ⟨Nat.le_of_ble_eq_true rfl, Nat.le_of_ble_eq_true rfl⟩) hK hP hD hS hA (va_recv hK hP (ci := 14) (q0 := 0) rfl rfl) rfl hl.1 rfl (Nat.le_of_ble_eq_true rfl) dX12_rows_203 ⟨Nat.le_of_ble_eq_true rfl, Nat.le_of_ble_eq_true rfl⟩ (fun r_2 u_3 H locs q_1 hP hD hS => ?_)
    rcases q_1 with ⟨rfl, rfl, f_4⟩ | ⟨t_5, rfl, rfl, f_6, f_7, f_8⟩ | ⟨rfl, rfl, f_9, f_10⟩ | ⟨t_11, rfl, rfl, f_12, f_13, f_14⟩
    · show _
      have hP : va_P (dC, dI) vwCl (rW g ty Y pa kp ks I tl ac 2 tw) H := hP
      have hD : va_D A (rW g ty Y pa kp ks I tl ac 2 tw) := hD
      refine lv_if_eq (tgt := 217) hx hb dX12_rows_206 (by decide) (fun _ => ?_) (fun c9 => absurd (by decide) c9) 
      refine lv_aload_n hx hb dX12_rows_217 rfl (lv_at hl 1 rfl) ?_
      refine cV_l (C := RX12) (n := 0) (rest := []) hx hb hml hown hg hT (c_X12_no l dC dI g ty H.size Y pa kp ks I tl ac 2 tw  ) (cv_of hg wM_X12_107 wN_X12_no wL_X12_X12_no wK_X12_no wI_X12 (by decide +kernel) ⟨Nat.le_of_ble_eq_true rfl, Nat.le_of_ble_eq_true rfl⟩) hK hP hD hS hA (va_recv hK hP (ci := 14) (q0 := 0) rfl rfl) rfl hl.1 rfl (Nat.le_of_ble_eq_true rfl) dX12_rows_218 ⟨Nat.le_of_ble_eq_true rfl, Nat.le_of_ble_eq_true rfl⟩ (fun r_16 u_17 H locs q_15 hP hD hS => ?_)
      obtain ⟨rfl, rfl⟩ := q_15
      have hP : va_P (dC, dI) vwCl (rW g ty Y pa kp ks I tl ac 2 1) H := hP
      have hD : va_D A (rW g ty Y pa kp ks I tl ac 2 1) := hD
      refine cr_l (wo := fun u : rY × (Nat → Int32) × (Nat → Int32) × (Nat → Int32) × Int32 × Int32 => rW g ty u.1 u.2.1 u.2.2.1 ks I u.2.2.2.1 ac u.2.2.2.2.1 u.2.2.2.2.2) ((Y, pa, kp, tl, 2, 1)) hx hb hr hlk hS hP hD ?_ dX12_rows_221
      exact ⟨0, Y, pa, kp, tl, 2, 1, rfl, rfl, (by exact ra_f (f := 2) rel hcnt htl (by decide))⟩
    · show _
      exact absurd f_6 (by assumption)
    · show _
      exact absurd f_9 (by assumption)
    · show _
      exact absurd f_12 (by assumption)
  · show _
    obtain ⟨n1t, n2t, n3t⟩ := rk_some rel g2 g3
    have hnet := (i32_pos n1t).2.1
    have tht := wf.1 _ _ g3
    have hl : lv_has ls 8 [(0, .ref (g 8)), (1, .int 3), (2, .int a0), (3, .int b0), (4, .int c0)] := hl
    refine lv_iload_n hx hb dX12_rows_0 rfl (lv_at hl 3 rfl) ?_
    refine lv_bipush (v := 7) hx hb dX12_rows_1 (by decide) ?_
    refine lv_iand hx hb dX12_rows_3 ?_
    refine lv_istore (lv' := [(5, .int (b0 &&& 7)), (0, .ref (g 8)), (1, .int 3), (2, .int a0), (3, .int b0), (4, .int c0)]) hx hb dX12_rows_4 hl (by decide) rfl (fun ls hl => ?_)
    refine lv_iload_n hx hb dX12_rows_6 rfl (lv_at hl 2 rfl) ?_
    refine lv_tableIn (off := 192) (tgt := 199) hx hb dX12_rows_7 (by decide) (by decide) (by decide) (by decide) ?_
    refine lv_aload_n hx hb dX12_rows_199 rfl (lv_at hl 1 rfl) ?_
    refine lv_iload_n hx hb dX12_rows_200 rfl (lv_at hl 3 rfl) ?_
    refine lv_iload hx hb dX12_rows_201 (lv_at hl 0 rfl) ?_
    refine cV_i (C := RX12) (n := 2) (rest := []) hx hb hml hown hg hT (c_X12_thing l dC dI g ty s.heap.size Y pa kp ks I tl ac wr tw ρ pl P a0 (b0 &&& 7) (by exact rel) (by exact wf) (by exact sb7 _)) (cv_of hg wM_X12_131 wN_X12_thing wL_X12_X12_thing wK_X12_thing wI_X12 (by decide +kernel) ⟨Nat.le_of_ble_eq_true rfl, Nat.le_of_ble_eq_true rfl⟩) hK hP hD hS hA (va_recv hK hP (ci := 14) (q0 := 0) rfl rfl) rfl hl.1 rfl (Nat.le_of_ble_eq_true rfl) dX12_rows_203 ⟨Nat.le_of_ble_eq_true rfl, Nat.le_of_ble_eq_true rfl⟩ (fun r_19 u_20 H locs q_18 hP hD hS => ?_)
    rcases q_18 with ⟨rfl, rfl, f_21⟩ | ⟨t_22, rfl, rfl, f_23, f_24, f_25⟩ | ⟨rfl, rfl, f_26, f_27⟩ | ⟨t_28, rfl, rfl, f_29, f_30, f_31⟩
    · show _
      exact absurd (by assumption) f_21
    · show _
      obtain rfl := Option.some.inj (g3.symm.trans f_24)
      have hP : va_P (dC, dI) vwCl (rW g ty Y pa kp ks I tl ac 3 tw) H := hP
      have hD : va_D A (rW g ty Y pa kp ks I tl ac 3 tw) := hD
      refine lv_if_eq (tgt := 217) hx hb dX12_rows_206 (by decide) (fun _ => ?_) (fun c9 => absurd (by decide) c9) 
      refine lv_aload_n hx hb dX12_rows_217 rfl (lv_at hl 1 rfl) ?_
      refine cV_l (C := RX12) (n := 0) (rest := []) hx hb hml hown hg hT (c_X12_no l dC dI g ty H.size Y pa kp ks I tl ac 3 tw  ) (cv_of hg wM_X12_107 wN_X12_no wL_X12_X12_no wK_X12_no wI_X12 (by decide +kernel) ⟨Nat.le_of_ble_eq_true rfl, Nat.le_of_ble_eq_true rfl⟩) hK hP hD hS hA (va_recv hK hP (ci := 14) (q0 := 0) rfl rfl) rfl hl.1 rfl (Nat.le_of_ble_eq_true rfl) dX12_rows_218 ⟨Nat.le_of_ble_eq_true rfl, Nat.le_of_ble_eq_true rfl⟩ (fun r_33 u_34 H locs q_32 hP hD hS => ?_)
      obtain ⟨rfl, rfl⟩ := q_32
      have hP : va_P (dC, dI) vwCl (rW g ty Y pa kp ks I tl ac 3 1) H := hP
      have hD : va_D A (rW g ty Y pa kp ks I tl ac 3 1) := hD
      refine cr_l (wo := fun u : rY × (Nat → Int32) × (Nat → Int32) × (Nat → Int32) × Int32 × Int32 => rW g ty u.1 u.2.1 u.2.2.1 ks I u.2.2.2.1 ac u.2.2.2.2.1 u.2.2.2.2.2) ((Y, pa, kp, tl, 3, 1)) hx hb hr hlk hS hP hD ?_ dX12_rows_221
      exact ⟨0, Y, pa, kp, tl, 3, 1, rfl, rfl, (by exact ra_f (f := 3) rel hcnt htl (by decide))⟩
    · show _
      exact absurd (g3.symm.trans f_27) (by simp)
    · show _
      obtain rfl := Option.some.inj (g3.symm.trans f_30); exact absurd (g4.symm.trans f_31) (by decide)
  · show _
    have hza0 := rk_none rel g2 g3
    have hl : lv_has ls 8 [(0, .ref (g 8)), (1, .int 3), (2, .int a0), (3, .int b0), (4, .int c0)] := hl
    refine lv_iload_n hx hb dX12_rows_0 rfl (lv_at hl 3 rfl) ?_
    refine lv_bipush (v := 7) hx hb dX12_rows_1 (by decide) ?_
    refine lv_iand hx hb dX12_rows_3 ?_
    refine lv_istore (lv' := [(5, .int (b0 &&& 7)), (0, .ref (g 8)), (1, .int 3), (2, .int a0), (3, .int b0), (4, .int c0)]) hx hb dX12_rows_4 hl (by decide) rfl (fun ls hl => ?_)
    refine lv_iload_n hx hb dX12_rows_6 rfl (lv_at hl 2 rfl) ?_
    refine lv_tableIn (off := 192) (tgt := 199) hx hb dX12_rows_7 (by decide) (by decide) (by decide) (by decide) ?_
    refine lv_aload_n hx hb dX12_rows_199 rfl (lv_at hl 1 rfl) ?_
    refine lv_iload_n hx hb dX12_rows_200 rfl (lv_at hl 3 rfl) ?_
    refine lv_iload hx hb dX12_rows_201 (lv_at hl 0 rfl) ?_
    refine cV_i (C := RX12) (n := 2) (rest := []) hx hb hml hown hg hT (c_X12_thing l dC dI g ty s.heap.size Y pa kp ks I tl ac wr tw ρ pl P a0 (b0 &&& 7) (by exact rel) (by exact wf) (by exact sb7 _)) (cv_of hg wM_X12_131 wN_X12_thing wL_X12_X12_thing wK_X12_thing wI_X12 (by decide +kernel) ⟨Nat.le_of_ble_eq_true rfl, Nat.le_of_ble_eq_true rfl⟩) hK hP hD hS hA (va_recv hK hP (ci := 14) (q0 := 0) rfl rfl) rfl hl.1 rfl (Nat.le_of_ble_eq_true rfl) dX12_rows_203 ⟨Nat.le_of_ble_eq_true rfl, Nat.le_of_ble_eq_true rfl⟩ (fun r_36 u_37 H locs q_35 hP hD hS => ?_)
    rcases q_35 with ⟨rfl, rfl, f_38⟩ | ⟨t_39, rfl, rfl, f_40, f_41, f_42⟩ | ⟨rfl, rfl, f_43, f_44⟩ | ⟨t_45, rfl, rfl, f_46, f_47, f_48⟩
    · show _
      exact absurd (by assumption) f_38
    · show _
      exact absurd (g3.symm.trans f_41) (by simp)
    · show _
      have hP : va_P (dC, dI) vwCl (rW g ty Y pa kp ks I tl ac wr tw) H := hP
      have hD : va_D A (rW g ty Y pa kp ks I tl ac wr tw) := hD
      refine lv_if_eq (tgt := 217) hx hb dX12_rows_206 (by decide) (fun c9 => absurd c9 (by decide)) (fun _ => ?_)
      refine lv_aload_n hx hb dX12_rows_209 rfl (lv_at hl 1 rfl) ?_
      refine lv_iload_n hx hb dX12_rows_210 rfl (lv_at hl 3 rfl) ?_
      refine cV_i (C := RX12) (n := 1) (rest := []) hx hb hml hown hg hT (c_X12_need l dC dI g ty H.size Y pa kp ks I tl ac wr tw a0 (by assumption)) (cv_of hg wM_X12_134 wN_X12_need wL_X12_X12_need wK_X12_need wI_X12 (by decide +kernel) ⟨Nat.le_of_ble_eq_true rfl, Nat.le_of_ble_eq_true rfl⟩) hK hP hD hS hA (va_recv hK hP (ci := 14) (q0 := 0) rfl rfl) rfl hl.1 rfl (Nat.le_of_ble_eq_true rfl) dX12_rows_211 ⟨Nat.le_of_ble_eq_true rfl, Nat.le_of_ble_eq_true rfl⟩ (fun r_50 u_51 H locs q_49 hP hD hS => ?_)
      rcases q_49 with ⟨rfl, rfl, f_52⟩ | ⟨rfl, rfl, f_53⟩
      · show _
        have hP : va_P (dC, dI) vwCl (rW g ty Y pa kp ks I tl ac 1 tw) H := hP
        have hD : va_D A (rW g ty Y pa kp ks I tl ac 1 tw) := hD
        refine lv_if_ne (tgt := 222) hx hb dX12_rows_214 (by decide) (fun c9 => absurd (by decide) c9) (fun _ => ?_)
        refine lv_aload_n hx hb dX12_rows_217 rfl (lv_at hl 1 rfl) ?_
        refine cV_l (C := RX12) (n := 0) (rest := []) hx hb hml hown hg hT (c_X12_no l dC dI g ty H.size Y pa kp ks I tl ac 1 tw  ) (cv_of hg wM_X12_107 wN_X12_no wL_X12_X12_no wK_X12_no wI_X12 (by decide +kernel) ⟨Nat.le_of_ble_eq_true rfl, Nat.le_of_ble_eq_true rfl⟩) hK hP hD hS hA (va_recv hK hP (ci := 14) (q0 := 0) rfl rfl) rfl hl.1 rfl (Nat.le_of_ble_eq_true rfl) dX12_rows_218 ⟨Nat.le_of_ble_eq_true rfl, Nat.le_of_ble_eq_true rfl⟩ (fun r_55 u_56 H locs q_54 hP hD hS => ?_)
        obtain ⟨rfl, rfl⟩ := q_54
        have hP : va_P (dC, dI) vwCl (rW g ty Y pa kp ks I tl ac 1 1) H := hP
        have hD : va_D A (rW g ty Y pa kp ks I tl ac 1 1) := hD
        refine cr_l (wo := fun u : rY × (Nat → Int32) × (Nat → Int32) × (Nat → Int32) × Int32 × Int32 => rW g ty u.1 u.2.1 u.2.2.1 ks I u.2.2.2.1 ac u.2.2.2.2.1 u.2.2.2.2.2) ((Y, pa, kp, tl, 1, 1)) hx hb hr hlk hS hP hD ?_ dX12_rows_221
        exact ⟨0, Y, pa, kp, tl, 1, 1, rfl, rfl, (by exact ra_f (f := 1) rel hcnt htl (by decide))⟩
      · show _
        exact absurd (by assumption) f_53
    · show _
      exact absurd (g3.symm.trans f_47) (by simp)
  · show _
    obtain ⟨n1t, n2t, n3t⟩ := rk_some rel g2 g3
    have hnet := (i32_pos n1t).2.1
    have tht := wf.1 _ _ g3
    have kt := cIs_0 (ki_row wf tht.1 tht.2 g4)
    have hvt := rv_row rel n1t n2t n3t kt g5
    have hl : lv_has ls 8 [(0, .ref (g 8)), (1, .int 3), (2, .int a0), (3, .int b0), (4, .int c0)] := hl
    refine lv_iload_n hx hb dX12_rows_0 rfl (lv_at hl 3 rfl) ?_
    refine lv_bipush (v := 7) hx hb dX12_rows_1 (by decide) ?_
    refine lv_iand hx hb dX12_rows_3 ?_
    refine lv_istore (lv' := [(5, .int (b0 &&& 7)), (0, .ref (g 8)), (1, .int 3), (2, .int a0), (3, .int b0), (4, .int c0)]) hx hb dX12_rows_4 hl (by decide) rfl (fun ls hl => ?_)
    refine lv_iload_n hx hb dX12_rows_6 rfl (lv_at hl 2 rfl) ?_
    refine lv_tableIn (off := 192) (tgt := 199) hx hb dX12_rows_7 (by decide) (by decide) (by decide) (by decide) ?_
    refine lv_aload_n hx hb dX12_rows_199 rfl (lv_at hl 1 rfl) ?_
    refine lv_iload_n hx hb dX12_rows_200 rfl (lv_at hl 3 rfl) ?_
    refine lv_iload hx hb dX12_rows_201 (lv_at hl 0 rfl) ?_
    refine cV_i (C := RX12) (n := 2) (rest := []) hx hb hml hown hg hT (c_X12_thing l dC dI g ty s.heap.size Y pa kp ks I tl ac wr tw ρ pl P a0 (b0 &&& 7) (by exact rel) (by exact wf) (by exact sb7 _)) (cv_of hg wM_X12_131 wN_X12_thing wL_X12_X12_thing wK_X12_thing wI_X12 (by decide +kernel) ⟨Nat.le_of_ble_eq_true rfl, Nat.le_of_ble_eq_true rfl⟩) hK hP hD hS hA (va_recv hK hP (ci := 14) (q0 := 0) rfl rfl) rfl hl.1 rfl (Nat.le_of_ble_eq_true rfl) dX12_rows_203 ⟨Nat.le_of_ble_eq_true rfl, Nat.le_of_ble_eq_true rfl⟩ (fun r_58 u_59 H locs q_57 hP hD hS => ?_)
    rcases q_57 with ⟨rfl, rfl, f_60⟩ | ⟨t_61, rfl, rfl, f_62, f_63, f_64⟩ | ⟨rfl, rfl, f_65, f_66⟩ | ⟨t_67, rfl, rfl, f_68, f_69, f_70⟩
    · show _
      exact absurd (by assumption) f_60
    · show _
      obtain rfl := Option.some.inj (g3.symm.trans f_63); exact absurd (g4.symm.trans f_64) (by decide)
    · show _
      exact absurd (g3.symm.trans f_66) (by simp)
    · show _
      obtain rfl := Option.some.inj (g3.symm.trans f_69)
      have hP : va_P (dC, dI) vwCl (rW g ty Y pa kp ks I tl ac wr tw) H := hP
      have hD : va_D A (rW g ty Y pa kp ks I tl ac wr tw) := hD
      refine lv_if_eq (tgt := 217) hx hb dX12_rows_206 (by decide) (fun c9 => absurd c9 (by decide)) (fun _ => ?_)
      refine lv_aload_n hx hb dX12_rows_209 rfl (lv_at hl 1 rfl) ?_
      refine lv_iload_n hx hb dX12_rows_210 rfl (lv_at hl 3 rfl) ?_
      refine cV_i (C := RX12) (n := 1) (rest := []) hx hb hml hown hg hT (c_X12_need l dC dI g ty H.size Y pa kp ks I tl ac wr tw a0 (by assumption)) (cv_of hg wM_X12_134 wN_X12_need wL_X12_X12_need wK_X12_need wI_X12 (by decide +kernel) ⟨Nat.le_of_ble_eq_true rfl, Nat.le_of_ble_eq_true rfl⟩) hK hP hD hS hA (va_recv hK hP (ci := 14) (q0 := 0) rfl rfl) rfl hl.1 rfl (Nat.le_of_ble_eq_true rfl) dX12_rows_211 ⟨Nat.le_of_ble_eq_true rfl, Nat.le_of_ble_eq_true rfl⟩ (fun r_72 u_73 H locs q_71 hP hD hS => ?_)
      rcases q_71 with ⟨rfl, rfl, f_74⟩ | ⟨rfl, rfl, f_75⟩
      · show _
        exact absurd f_74 (by assumption)
      · show _
        have hP : va_P (dC, dI) vwCl (rW g ty Y pa kp ks I tl ac wr tw) H := hP
        have hD : va_D A (rW g ty Y pa kp ks I tl ac wr tw) := hD
        refine lv_if_ne (tgt := 222) hx hb dX12_rows_214 (by decide) (fun _ => ?_) (fun c9 => absurd c9 (by decide)) 
        refine lv_aload_n hx hb dX12_rows_222 rfl (lv_at hl 1 rfl) ?_
        refine va_get (D := (dC, dI)) (ci := 14) (v := .ref (Y.2.2.2.2.2.2.1 2)) (C := RX12) (T := TX12) (N := 21) hx hb hg inG12 hown hK hP 0 rfl rfl 2 (by decide) (hg _ wF_X12_16) (fun _ h9 => h9) rfl dX12_rows_223 ?_
        refine lv_aload_n hx hb dX12_rows_226 rfl (lv_at hl 1 rfl) ?_
        refine va_get (D := (dC, dI)) (ci := 14) (v := .ref (g 9)) (C := RX12) (T := TX12) (N := 21) hx hb hg inG12 hown hK hP 0 rfl rfl 8 (by decide) (hg _ wF_X12_34) (fun _ h9 => h9) rfl dX12_rows_227 ?_
        refine lv_iload_n hx hb dX12_rows_230 rfl (lv_at hl 3 rfl) ?_
        refine va_iald hx hb hK hP 7 0 rfl rfl (by assumption) dX12_rows_231 ?_
        refine va_iald hx hb hK hP 3 0 rfl rfl (by exact hvt.1) dX12_rows_232 ?_
        refine lv_i2l (v := ((Y.2.2.1 (pa a0.toNatClampNeg).toNatClampNeg).toInt64)) hx hb dX12_rows_233 rfl ?_
        refine cr_l (wo := fun u : rY × (Nat → Int32) × (Nat → Int32) × (Nat → Int32) × Int32 × Int32 => rW g ty u.1 u.2.1 u.2.2.1 ks I u.2.2.2.1 ac u.2.2.2.2.1 u.2.2.2.2.2) ((Y, pa, kp, tl, wr, tw)) hx hb hr hlk hS hP hD ?_ dX12_rows_234
        exact ⟨((Y.2.2.1 (pa a0.toNatClampNeg).toNatClampNeg).toInt64), Y, pa, kp, tl, wr, tw, rfl, rfl, (by subst pre6; exact ra_ok rel hcnt htl (congrArg Int32.toInt64 (rv_mn hvt.2.1 hvt.2.2.1)))⟩
set_option maxHeartbeats 800000 in
set_option maxRecDepth 100000 in
theorem c_X12_rows_7 (l : Launch) (dC : Nat → ClassId) (dI : Nat → Nat → Nat) (g : Nat → Nat) (ty : Nat → ClassId) (sz : Nat) (Y : rY) (pa : Nat → Int32) (kp : Nat → Int32) (ks : Int32) (I : rI) (tl : Nat → Int32) (ac : Int64) (wr : Int32) (tw : Int32) (ρ : Nat → Nat) (pl : Nat → Option Nat) (P : cQ) (md : Int32) (Z : cZ) (rz9 : Int64) (u9 : (Nat → Option Nat) × Int32) (a0 : Int32) (b0 : Int32) (c0 : Int32) (pre0 : rR Y.2.2.2.2.2.2.2.2.2.1 Y pa ρ pl P) (pre1 : cWF pl P) (pre2 : ks = 0) (pre3 : rCnt Y md) (pre4 : tl 5 = md) (pre5 : 0 ≤ md ∧ md ≤ 6000) (pre6 : tw = 0) (pre7 : q_X11_takeOut 8 a0 b0 c0 pl ac (-1) md Z P rz9 u9) : Met l yX12_rows (Cond.code yX12_rows cX12_rows 8 (some .long) :: gT) ({ frames := 3, cells := 0, slots := 0, locals := 82 }) (cP (dC, dI) (rTy ty) (rW g ty Y pa kp ks I tl ac wr tw) sz [.ref (g 8), .int 7, .int a0, .int b0, .int c0]) (va_Ql (fun (rz : Int64) (u : rY × (Nat → Int32) × (Nat → Int32) × (Nat → Int32) × Int32 × Int32) => ∃ (r' : Int64) (Y' : rY) (pa' kp' tl' : Nat → Int32) (wr' tw' : Int32), r' = rz ∧ (Y', pa', kp', tl', wr', tw') = u ∧ rAns u9.2 rz9 u9.1 P md tl Y r' Y' pa' tl' wr' tw') (cB (dC, dI) (fun u : rY × (Nat → Int32) × (Nat → Int32) × (Nat → Int32) × Int32 × Int32 => rW g ty u.1 u.2.1 u.2.2.1 ks I u.2.2.2.1 ac u.2.2.2.2.1 u.2.2.2.2.2) (va_A (rW g ty Y pa kp ks I tl ac wr tw) sz)) (va_A (rW g ty Y pa kp ks I tl ac wr tw) sz)) 0 0 (va_A (rW g ty Y pa kp ks I tl ac wr tw) sz) := by
  refine cc_of (Qa := fun A => va_Ql (fun (rz : Int64) (u : rY × (Nat → Int32) × (Nat → Int32) × (Nat → Int32) × Int32 × Int32) => ∃ (r' : Int64) (Y' : rY) (pa' kp' tl' : Nat → Int32) (wr' tw' : Int32), r' = rz ∧ (Y', pa', kp', tl', wr', tw') = u ∧ rAns u9.2 rz9 u9.1 P md tl Y r' Y' pa' tl' wr' tw') (cB (dC, dI) (fun u : rY × (Nat → Int32) × (Nat → Int32) × (Nat → Int32) × Int32 × Int32 => rW g ty u.1 u.2.1 u.2.2.1 ks I u.2.2.2.1 ac u.2.2.2.2.1 u.2.2.2.2.2) A) A) (by decide) (Nat.le_of_ble_eq_true rfl) ?_
  intro p e s m below meth c A hx hb hr hml hown hg hlk hmn hP hK hD hT hS hA hsz ls hl
  have hown : s.vm.findClass RX12 = some m.cls := hown
  have rel := pre0
  have wf := pre1
  have hcnt := pre3
  have htl := pre4
  rcases pre7 with ⟨rfl, rfl, g2⟩ | ⟨rfl, rfl, g2, g3⟩ | ⟨t, rfl, rfl, g2, g3, g4, g5⟩ | ⟨rfl, rfl, g2, g3, g4⟩ | ⟨t, y, rfl, rfl, g2, g3, g4, g5, g6, g7⟩ | ⟨t, y, o, rfl, rfl, g2, g3, g4, g5, g6, g7, g8⟩
  · show _
    have hl : lv_has ls 8 [(0, .ref (g 8)), (1, .int 7), (2, .int a0), (3, .int b0), (4, .int c0)] := hl
    refine lv_iload_n hx hb dX12_rows_0 rfl (lv_at hl 3 rfl) ?_
    refine lv_bipush (v := 7) hx hb dX12_rows_1 (by decide) ?_
    refine lv_iand hx hb dX12_rows_3 ?_
    refine lv_istore (lv' := [(5, .int (b0 &&& 7)), (0, .ref (g 8)), (1, .int 7), (2, .int a0), (3, .int b0), (4, .int c0)]) hx hb dX12_rows_4 hl (by decide) rfl (fun ls hl => ?_)
    refine lv_iload_n hx hb dX12_rows_6 rfl (lv_at hl 2 rfl) ?_
    refine lv_tableIn (off := 472) (tgt := 479) hx hb dX12_rows_7 (by decide) (by decide) (by decide) (by decide) ?_
    refine lv_aload_n hx hb dX12_rows_479 rfl (lv_at hl 1 rfl) ?_
    refine lv_iload hx hb dX12_rows_480 (lv_at hl 5 rfl) ?_
    refine cV_i (C := RX12) (n := 1) (rest := []) hx hb hml hown hg hT (c_X12_place l dC dI g ty s.heap.size Y pa kp ks I tl ac wr tw c0 ) (cv_of hg wM_X12_83 wN_X12_place wL_X12_X12_place wK_X12_place wI_X12 (by decide +kernel) ⟨Nat.le_of_ble_eq_true rfl, Nat.le_of_ble_eq_true rfl⟩) hK hP hD hS hA (va_recv hK hP (ci := 14) (q0 := 0) rfl rfl) rfl hl.1 rfl (Nat.le_of_ble_eq_true rfl) dX12_rows_482 ⟨Nat.le_of_ble_eq_true rfl, Nat.le_of_ble_eq_true rfl⟩ (fun r_2 u_3 H locs q_1 hP hD hS => ?_)
    rcases q_1 with ⟨rfl, rfl, f_4⟩ | ⟨rfl, rfl, f_5⟩
    · show _
      have hP : va_P (dC, dI) vwCl (rW g ty Y pa kp ks I tl ac 2 tw) H := hP
      have hD : va_D A (rW g ty Y pa kp ks I tl ac 2 tw) := hD
      refine lv_if_eq (tgt := 520) hx hb dX12_rows_485 (by decide) (fun _ => ?_) (fun c9 => absurd (by decide) c9) 
      refine lv_aload_n hx hb dX12_rows_520 rfl (lv_at hl 1 rfl) ?_
      refine cV_l (C := RX12) (n := 0) (rest := []) hx hb hml hown hg hT (c_X12_no l dC dI g ty H.size Y pa kp ks I tl ac 2 tw  ) (cv_of hg wM_X12_107 wN_X12_no wL_X12_X12_no wK_X12_no wI_X12 (by decide +kernel) ⟨Nat.le_of_ble_eq_true rfl, Nat.le_of_ble_eq_true rfl⟩) hK hP hD hS hA (va_recv hK hP (ci := 14) (q0 := 0) rfl rfl) rfl hl.1 rfl (Nat.le_of_ble_eq_true rfl) dX12_rows_521 ⟨Nat.le_of_ble_eq_true rfl, Nat.le_of_ble_eq_true rfl⟩ (fun r_7 u_8 H locs q_6 hP hD hS => ?_)
      obtain ⟨rfl, rfl⟩ := q_6
      have hP : va_P (dC, dI) vwCl (rW g ty Y pa kp ks I tl ac 2 1) H := hP
      have hD : va_D A (rW g ty Y pa kp ks I tl ac 2 1) := hD
      refine cr_l (wo := fun u : rY × (Nat → Int32) × (Nat → Int32) × (Nat → Int32) × Int32 × Int32 => rW g ty u.1 u.2.1 u.2.2.1 ks I u.2.2.2.1 ac u.2.2.2.2.1 u.2.2.2.2.2) ((Y, pa, kp, tl, 2, 1)) hx hb hr hlk hS hP hD ?_ dX12_rows_524
      exact ⟨0, Y, pa, kp, tl, 2, 1, rfl, rfl, (by exact ra_f (f := 2) rel hcnt htl (by decide))⟩
    · show _
      exact absurd f_5 (by assumption)
  · show _
    have hl : lv_has ls 8 [(0, .ref (g 8)), (1, .int 7), (2, .int a0), (3, .int b0), (4, .int c0)] := hl
    refine lv_iload_n hx hb dX12_rows_0 rfl (lv_at hl 3 rfl) ?_
    refine lv_bipush (v := 7) hx hb dX12_rows_1 (by decide) ?_
    refine lv_iand hx hb dX12_rows_3 ?_
    refine lv_istore (lv' := [(5, .int (b0 &&& 7)), (0, .ref (g 8)), (1, .int 7), (2, .int a0), (3, .int b0), (4, .int c0)]) hx hb dX12_rows_4 hl (by decide) rfl (fun ls hl => ?_)
    refine lv_iload_n hx hb dX12_rows_6 rfl (lv_at hl 2 rfl) ?_
    refine lv_tableIn (off := 472) (tgt := 479) hx hb dX12_rows_7 (by decide) (by decide) (by decide) (by decide) ?_
    refine lv_aload_n hx hb dX12_rows_479 rfl (lv_at hl 1 rfl) ?_
    refine lv_iload hx hb dX12_rows_480 (lv_at hl 5 rfl) ?_
    refine cV_i (C := RX12) (n := 1) (rest := []) hx hb hml hown hg hT (c_X12_place l dC dI g ty s.heap.size Y pa kp ks I tl ac wr tw c0 ) (cv_of hg wM_X12_83 wN_X12_place wL_X12_X12_place wK_X12_place wI_X12 (by decide +kernel) ⟨Nat.le_of_ble_eq_true rfl, Nat.le_of_ble_eq_true rfl⟩) hK hP hD hS hA (va_recv hK hP (ci := 14) (q0 := 0) rfl rfl) rfl hl.1 rfl (Nat.le_of_ble_eq_true rfl) dX12_rows_482 ⟨Nat.le_of_ble_eq_true rfl, Nat.le_of_ble_eq_true rfl⟩ (fun r_10 u_11 H locs q_9 hP hD hS => ?_)
    rcases q_9 with ⟨rfl, rfl, f_12⟩ | ⟨rfl, rfl, f_13⟩
    · show _
      exact absurd (by assumption) f_12
    · show _
      have hP : va_P (dC, dI) vwCl (rW g ty Y pa kp ks I tl ac wr tw) H := hP
      have hD : va_D A (rW g ty Y pa kp ks I tl ac wr tw) := hD
      refine lv_if_eq (tgt := 520) hx hb dX12_rows_485 (by decide) (fun c9 => absurd c9 (by decide)) (fun _ => ?_)
      refine lv_aload_n hx hb dX12_rows_488 rfl (lv_at hl 1 rfl) ?_
      refine lv_iload_n hx hb dX12_rows_489 rfl (lv_at hl 3 rfl) ?_
      refine lv_bipush (v := 8) hx hb dX12_rows_490 (by decide) ?_
      refine cV_i (C := RX12) (n := 2) (rest := []) hx hb hml hown hg hT (c_X12_thing l dC dI g ty H.size Y pa kp ks I tl ac wr tw ρ pl P a0 8 (by exact rel) (by exact wf) (by exact i32_in (by decide) (by decide))) (cv_of hg wM_X12_131 wN_X12_thing wL_X12_X12_thing wK_X12_thing wI_X12 (by decide +kernel) ⟨Nat.le_of_ble_eq_true rfl, Nat.le_of_ble_eq_true rfl⟩) hK hP hD hS hA (va_recv hK hP (ci := 14) (q0 := 0) rfl rfl) rfl hl.1 rfl (Nat.le_of_ble_eq_true rfl) dX12_rows_492 ⟨Nat.le_of_ble_eq_true rfl, Nat.le_of_ble_eq_true rfl⟩ (fun r_15 u_16 H locs q_14 hP hD hS => ?_)
      rcases q_14 with ⟨rfl, rfl, f_17⟩ | ⟨t_18, rfl, rfl, f_19, f_20, f_21⟩ | ⟨rfl, rfl, f_22, f_23⟩ | ⟨t_24, rfl, rfl, f_25, f_26, f_27⟩
      · show _
        have hP : va_P (dC, dI) vwCl (rW g ty Y pa kp ks I tl ac 2 tw) H := hP
        have hD : va_D A (rW g ty Y pa kp ks I tl ac 2 tw) := hD
        refine lv_if_eq (tgt := 520) hx hb dX12_rows_495 (by decide) (fun _ => ?_) (fun c9 => absurd (by decide) c9) 
        refine lv_aload_n hx hb dX12_rows_520 rfl (lv_at hl 1 rfl) ?_
        refine cV_l (C := RX12) (n := 0) (rest := []) hx hb hml hown hg hT (c_X12_no l dC dI g ty H.size Y pa kp ks I tl ac 2 tw  ) (cv_of hg wM_X12_107 wN_X12_no wL_X12_X12_no wK_X12_no wI_X12 (by decide +kernel) ⟨Nat.le_of_ble_eq_true rfl, Nat.le_of_ble_eq_true rfl⟩) hK hP hD hS hA (va_recv hK hP (ci := 14) (q0 := 0) rfl rfl) rfl hl.1 rfl (Nat.le_of_ble_eq_true rfl) dX12_rows_521 ⟨Nat.le_of_ble_eq_true rfl, Nat.le_of_ble_eq_true rfl⟩ (fun r_29 u_30 H locs q_28 hP hD hS => ?_)
        obtain ⟨rfl, rfl⟩ := q_28
        have hP : va_P (dC, dI) vwCl (rW g ty Y pa kp ks I tl ac 2 1) H := hP
        have hD : va_D A (rW g ty Y pa kp ks I tl ac 2 1) := hD
        refine cr_l (wo := fun u : rY × (Nat → Int32) × (Nat → Int32) × (Nat → Int32) × Int32 × Int32 => rW g ty u.1 u.2.1 u.2.2.1 ks I u.2.2.2.1 ac u.2.2.2.2.1 u.2.2.2.2.2) ((Y, pa, kp, tl, 2, 1)) hx hb hr hlk hS hP hD ?_ dX12_rows_524
        exact ⟨0, Y, pa, kp, tl, 2, 1, rfl, rfl, (by exact ra_f (f := 2) rel hcnt htl (by decide))⟩
      · show _
        exact absurd f_19 (by assumption)
      · show _
        exact absurd f_22 (by assumption)
      · show _
        exact absurd f_25 (by assumption)
  · show _
    obtain ⟨n1t, n2t, n3t⟩ := rk_some rel g3 g4
    have hnet := (i32_pos n1t).2.1
    have tht := wf.1 _ _ g4
    have hl : lv_has ls 8 [(0, .ref (g 8)), (1, .int 7), (2, .int a0), (3, .int b0), (4, .int c0)] := hl
    refine lv_iload_n hx hb dX12_rows_0 rfl (lv_at hl 3 rfl) ?_
    refine lv_bipush (v := 7) hx hb dX12_rows_1 (by decide) ?_
    refine lv_iand hx hb dX12_rows_3 ?_
    refine lv_istore (lv' := [(5, .int (b0 &&& 7)), (0, .ref (g 8)), (1, .int 7), (2, .int a0), (3, .int b0), (4, .int c0)]) hx hb dX12_rows_4 hl (by decide) rfl (fun ls hl => ?_)
    refine lv_iload_n hx hb dX12_rows_6 rfl (lv_at hl 2 rfl) ?_
    refine lv_tableIn (off := 472) (tgt := 479) hx hb dX12_rows_7 (by decide) (by decide) (by decide) (by decide) ?_
    refine lv_aload_n hx hb dX12_rows_479 rfl (lv_at hl 1 rfl) ?_
    refine lv_iload hx hb dX12_rows_480 (lv_at hl 5 rfl) ?_
    refine cV_i (C := RX12) (n := 1) (rest := []) hx hb hml hown hg hT (c_X12_place l dC dI g ty s.heap.size Y pa kp ks I tl ac wr tw c0 ) (cv_of hg wM_X12_83 wN_X12_place wL_X12_X12_place wK_X12_place wI_X12 (by decide +kernel) ⟨Nat.le_of_ble_eq_true rfl, Nat.le_of_ble_eq_true rfl⟩) hK hP hD hS hA (va_recv hK hP (ci := 14) (q0 := 0) rfl rfl) rfl hl.1 rfl (Nat.le_of_ble_eq_true rfl) dX12_rows_482 ⟨Nat.le_of_ble_eq_true rfl, Nat.le_of_ble_eq_true rfl⟩ (fun r_32 u_33 H locs q_31 hP hD hS => ?_)
    rcases q_31 with ⟨rfl, rfl, f_34⟩ | ⟨rfl, rfl, f_35⟩
    · show _
      exact absurd (by assumption) f_34
    · show _
      have hP : va_P (dC, dI) vwCl (rW g ty Y pa kp ks I tl ac wr tw) H := hP
      have hD : va_D A (rW g ty Y pa kp ks I tl ac wr tw) := hD
      refine lv_if_eq (tgt := 520) hx hb dX12_rows_485 (by decide) (fun c9 => absurd c9 (by decide)) (fun _ => ?_)
      refine lv_aload_n hx hb dX12_rows_488 rfl (lv_at hl 1 rfl) ?_
      refine lv_iload_n hx hb dX12_rows_489 rfl (lv_at hl 3 rfl) ?_
      refine lv_bipush (v := 8) hx hb dX12_rows_490 (by decide) ?_
      refine cV_i (C := RX12) (n := 2) (rest := []) hx hb hml hown hg hT (c_X12_thing l dC dI g ty H.size Y pa kp ks I tl ac wr tw ρ pl P a0 8 (by exact rel) (by exact wf) (by exact i32_in (by decide) (by decide))) (cv_of hg wM_X12_131 wN_X12_thing wL_X12_X12_thing wK_X12_thing wI_X12 (by decide +kernel) ⟨Nat.le_of_ble_eq_true rfl, Nat.le_of_ble_eq_true rfl⟩) hK hP hD hS hA (va_recv hK hP (ci := 14) (q0 := 0) rfl rfl) rfl hl.1 rfl (Nat.le_of_ble_eq_true rfl) dX12_rows_492 ⟨Nat.le_of_ble_eq_true rfl, Nat.le_of_ble_eq_true rfl⟩ (fun r_37 u_38 H locs q_36 hP hD hS => ?_)
      rcases q_36 with ⟨rfl, rfl, f_39⟩ | ⟨t_40, rfl, rfl, f_41, f_42, f_43⟩ | ⟨rfl, rfl, f_44, f_45⟩ | ⟨t_46, rfl, rfl, f_47, f_48, f_49⟩
      · show _
        exact absurd (by assumption) f_39
      · show _
        obtain rfl := Option.some.inj (g4.symm.trans f_42)
        have hP : va_P (dC, dI) vwCl (rW g ty Y pa kp ks I tl ac 3 tw) H := hP
        have hD : va_D A (rW g ty Y pa kp ks I tl ac 3 tw) := hD
        refine lv_if_eq (tgt := 520) hx hb dX12_rows_495 (by decide) (fun _ => ?_) (fun c9 => absurd (by decide) c9) 
        refine lv_aload_n hx hb dX12_rows_520 rfl (lv_at hl 1 rfl) ?_
        refine cV_l (C := RX12) (n := 0) (rest := []) hx hb hml hown hg hT (c_X12_no l dC dI g ty H.size Y pa kp ks I tl ac 3 tw  ) (cv_of hg wM_X12_107 wN_X12_no wL_X12_X12_no wK_X12_no wI_X12 (by decide +kernel) ⟨Nat.le_of_ble_eq_true rfl, Nat.le_of_ble_eq_true rfl⟩) hK hP hD hS hA (va_recv hK hP (ci := 14) (q0 := 0) rfl rfl) rfl hl.1 rfl (Nat.le_of_ble_eq_true rfl) dX12_rows_521 ⟨Nat.le_of_ble_eq_true rfl, Nat.le_of_ble_eq_true rfl⟩ (fun r_51 u_52 H locs q_50 hP hD hS => ?_)
        obtain ⟨rfl, rfl⟩ := q_50
        have hP : va_P (dC, dI) vwCl (rW g ty Y pa kp ks I tl ac 3 1) H := hP
        have hD : va_D A (rW g ty Y pa kp ks I tl ac 3 1) := hD
        refine cr_l (wo := fun u : rY × (Nat → Int32) × (Nat → Int32) × (Nat → Int32) × Int32 × Int32 => rW g ty u.1 u.2.1 u.2.2.1 ks I u.2.2.2.1 ac u.2.2.2.2.1 u.2.2.2.2.2) ((Y, pa, kp, tl, 3, 1)) hx hb hr hlk hS hP hD ?_ dX12_rows_524
        exact ⟨0, Y, pa, kp, tl, 3, 1, rfl, rfl, (by exact ra_f (f := 3) rel hcnt htl (by decide))⟩
      · show _
        exact absurd (g4.symm.trans f_45) (by simp)
      · show _
        obtain rfl := Option.some.inj (g4.symm.trans f_48); exact absurd (g5.symm.trans f_49) (by decide)
  · show _
    have hza0 := rk_none rel g3 g4
    have hl : lv_has ls 8 [(0, .ref (g 8)), (1, .int 7), (2, .int a0), (3, .int b0), (4, .int c0)] := hl
    refine lv_iload_n hx hb dX12_rows_0 rfl (lv_at hl 3 rfl) ?_
    refine lv_bipush (v := 7) hx hb dX12_rows_1 (by decide) ?_
    refine lv_iand hx hb dX12_rows_3 ?_
    refine lv_istore (lv' := [(5, .int (b0 &&& 7)), (0, .ref (g 8)), (1, .int 7), (2, .int a0), (3, .int b0), (4, .int c0)]) hx hb dX12_rows_4 hl (by decide) rfl (fun ls hl => ?_)
    refine lv_iload_n hx hb dX12_rows_6 rfl (lv_at hl 2 rfl) ?_
    refine lv_tableIn (off := 472) (tgt := 479) hx hb dX12_rows_7 (by decide) (by decide) (by decide) (by decide) ?_
    refine lv_aload_n hx hb dX12_rows_479 rfl (lv_at hl 1 rfl) ?_
    refine lv_iload hx hb dX12_rows_480 (lv_at hl 5 rfl) ?_
    refine cV_i (C := RX12) (n := 1) (rest := []) hx hb hml hown hg hT (c_X12_place l dC dI g ty s.heap.size Y pa kp ks I tl ac wr tw c0 ) (cv_of hg wM_X12_83 wN_X12_place wL_X12_X12_place wK_X12_place wI_X12 (by decide +kernel) ⟨Nat.le_of_ble_eq_true rfl, Nat.le_of_ble_eq_true rfl⟩) hK hP hD hS hA (va_recv hK hP (ci := 14) (q0 := 0) rfl rfl) rfl hl.1 rfl (Nat.le_of_ble_eq_true rfl) dX12_rows_482 ⟨Nat.le_of_ble_eq_true rfl, Nat.le_of_ble_eq_true rfl⟩ (fun r_54 u_55 H locs q_53 hP hD hS => ?_)
    rcases q_53 with ⟨rfl, rfl, f_56⟩ | ⟨rfl, rfl, f_57⟩
    · show _
      exact absurd (by assumption) f_56
    · show _
      have hP : va_P (dC, dI) vwCl (rW g ty Y pa kp ks I tl ac wr tw) H := hP
      have hD : va_D A (rW g ty Y pa kp ks I tl ac wr tw) := hD
      refine lv_if_eq (tgt := 520) hx hb dX12_rows_485 (by decide) (fun c9 => absurd c9 (by decide)) (fun _ => ?_)
      refine lv_aload_n hx hb dX12_rows_488 rfl (lv_at hl 1 rfl) ?_
      refine lv_iload_n hx hb dX12_rows_489 rfl (lv_at hl 3 rfl) ?_
      refine lv_bipush (v := 8) hx hb dX12_rows_490 (by decide) ?_
      refine cV_i (C := RX12) (n := 2) (rest := []) hx hb hml hown hg hT (c_X12_thing l dC dI g ty H.size Y pa kp ks I tl ac wr tw ρ pl P a0 8 (by exact rel) (by exact wf) (by exact i32_in (by decide) (by decide))) (cv_of hg wM_X12_131 wN_X12_thing wL_X12_X12_thing wK_X12_thing wI_X12 (by decide +kernel) ⟨Nat.le_of_ble_eq_true rfl, Nat.le_of_ble_eq_true rfl⟩) hK hP hD hS hA (va_recv hK hP (ci := 14) (q0 := 0) rfl rfl) rfl hl.1 rfl (Nat.le_of_ble_eq_true rfl) dX12_rows_492 ⟨Nat.le_of_ble_eq_true rfl, Nat.le_of_ble_eq_true rfl⟩ (fun r_59 u_60 H locs q_58 hP hD hS => ?_)
      rcases q_58 with ⟨rfl, rfl, f_61⟩ | ⟨t_62, rfl, rfl, f_63, f_64, f_65⟩ | ⟨rfl, rfl, f_66, f_67⟩ | ⟨t_68, rfl, rfl, f_69, f_70, f_71⟩
      · show _
        exact absurd (by assumption) f_61
      · show _
        exact absurd (g4.symm.trans f_64) (by simp)
      · show _
        have hP : va_P (dC, dI) vwCl (rW g ty Y pa kp ks I tl ac wr tw) H := hP
        have hD : va_D A (rW g ty Y pa kp ks I tl ac wr tw) := hD
        refine lv_if_eq (tgt := 520) hx hb dX12_rows_495 (by decide) (fun c9 => absurd c9 (by decide)) (fun _ => ?_)
        refine lv_aload_n hx hb dX12_rows_498 rfl (lv_at hl 1 rfl) ?_
        refine lv_iload_n hx hb dX12_rows_499 rfl (lv_at hl 3 rfl) ?_
        refine cV_i (C := RX12) (n := 1) (rest := []) hx hb hml hown hg hT (c_X12_need l dC dI g ty H.size Y pa kp ks I tl ac wr tw a0 (by assumption)) (cv_of hg wM_X12_134 wN_X12_need wL_X12_X12_need wK_X12_need wI_X12 (by decide +kernel) ⟨Nat.le_of_ble_eq_true rfl, Nat.le_of_ble_eq_true rfl⟩) hK hP hD hS hA (va_recv hK hP (ci := 14) (q0 := 0) rfl rfl) rfl hl.1 rfl (Nat.le_of_ble_eq_true rfl) dX12_rows_500 ⟨Nat.le_of_ble_eq_true rfl, Nat.le_of_ble_eq_true rfl⟩ (fun r_73 u_74 H locs q_72 hP hD hS => ?_)
        rcases q_72 with ⟨rfl, rfl, f_75⟩ | ⟨rfl, rfl, f_76⟩
        · show _
          have hP : va_P (dC, dI) vwCl (rW g ty Y pa kp ks I tl ac 1 tw) H := hP
          have hD : va_D A (rW g ty Y pa kp ks I tl ac 1 tw) := hD
          refine lv_if_eq (tgt := 520) hx hb dX12_rows_503 (by decide) (fun _ => ?_) (fun c9 => absurd (by decide) c9) 
          refine lv_aload_n hx hb dX12_rows_520 rfl (lv_at hl 1 rfl) ?_
          refine cV_l (C := RX12) (n := 0) (rest := []) hx hb hml hown hg hT (c_X12_no l dC dI g ty H.size Y pa kp ks I tl ac 1 tw  ) (cv_of hg wM_X12_107 wN_X12_no wL_X12_X12_no wK_X12_no wI_X12 (by decide +kernel) ⟨Nat.le_of_ble_eq_true rfl, Nat.le_of_ble_eq_true rfl⟩) hK hP hD hS hA (va_recv hK hP (ci := 14) (q0 := 0) rfl rfl) rfl hl.1 rfl (Nat.le_of_ble_eq_true rfl) dX12_rows_521 ⟨Nat.le_of_ble_eq_true rfl, Nat.le_of_ble_eq_true rfl⟩ (fun r_78 u_79 H locs q_77 hP hD hS => ?_)
          obtain ⟨rfl, rfl⟩ := q_77
          have hP : va_P (dC, dI) vwCl (rW g ty Y pa kp ks I tl ac 1 1) H := hP
          have hD : va_D A (rW g ty Y pa kp ks I tl ac 1 1) := hD
          refine cr_l (wo := fun u : rY × (Nat → Int32) × (Nat → Int32) × (Nat → Int32) × Int32 × Int32 => rW g ty u.1 u.2.1 u.2.2.1 ks I u.2.2.2.1 ac u.2.2.2.2.1 u.2.2.2.2.2) ((Y, pa, kp, tl, 1, 1)) hx hb hr hlk hS hP hD ?_ dX12_rows_524
          exact ⟨0, Y, pa, kp, tl, 1, 1, rfl, rfl, (by exact ra_f (f := 1) rel hcnt htl (by decide))⟩
        · show _
          exact absurd (by assumption) f_76
      · show _
        exact absurd (g4.symm.trans f_70) (by simp)
  · show _
    obtain ⟨n1t, n2t, n3t⟩ := rk_some rel g3 g4
    have hnet := (i32_pos n1t).2.1
    have tht := wf.1 _ _ g4
    have kt := cIs_1 (ki_8 wf tht.1 tht.2 g5)
    have hvt := rv_shelf rel n1t n2t n3t kt g6
    have hl : lv_has ls 8 [(0, .ref (g 8)), (1, .int 7), (2, .int a0), (3, .int b0), (4, .int c0)] := hl
    refine lv_iload_n hx hb dX12_rows_0 rfl (lv_at hl 3 rfl) ?_
    refine lv_bipush (v := 7) hx hb dX12_rows_1 (by decide) ?_
    refine lv_iand hx hb dX12_rows_3 ?_
    refine lv_istore (lv' := [(5, .int (b0 &&& 7)), (0, .ref (g 8)), (1, .int 7), (2, .int a0), (3, .int b0), (4, .int c0)]) hx hb dX12_rows_4 hl (by decide) rfl (fun ls hl => ?_)
    refine lv_iload_n hx hb dX12_rows_6 rfl (lv_at hl 2 rfl) ?_
    refine lv_tableIn (off := 472) (tgt := 479) hx hb dX12_rows_7 (by decide) (by decide) (by decide) (by decide) ?_
    refine lv_aload_n hx hb dX12_rows_479 rfl (lv_at hl 1 rfl) ?_
    refine lv_iload hx hb dX12_rows_480 (lv_at hl 5 rfl) ?_
    refine cV_i (C := RX12) (n := 1) (rest := []) hx hb hml hown hg hT (c_X12_place l dC dI g ty s.heap.size Y pa kp ks I tl ac wr tw c0 ) (cv_of hg wM_X12_83 wN_X12_place wL_X12_X12_place wK_X12_place wI_X12 (by decide +kernel) ⟨Nat.le_of_ble_eq_true rfl, Nat.le_of_ble_eq_true rfl⟩) hK hP hD hS hA (va_recv hK hP (ci := 14) (q0 := 0) rfl rfl) rfl hl.1 rfl (Nat.le_of_ble_eq_true rfl) dX12_rows_482 ⟨Nat.le_of_ble_eq_true rfl, Nat.le_of_ble_eq_true rfl⟩ (fun r_81 u_82 H locs q_80 hP hD hS => ?_)
    rcases q_80 with ⟨rfl, rfl, f_83⟩ | ⟨rfl, rfl, f_84⟩
    · show _
      exact absurd (by assumption) f_83
    · show _
      have hP : va_P (dC, dI) vwCl (rW g ty Y pa kp ks I tl ac wr tw) H := hP
      have hD : va_D A (rW g ty Y pa kp ks I tl ac wr tw) := hD
      refine lv_if_eq (tgt := 520) hx hb dX12_rows_485 (by decide) (fun c9 => absurd c9 (by decide)) (fun _ => ?_)
      refine lv_aload_n hx hb dX12_rows_488 rfl (lv_at hl 1 rfl) ?_
      refine lv_iload_n hx hb dX12_rows_489 rfl (lv_at hl 3 rfl) ?_
      refine lv_bipush (v := 8) hx hb dX12_rows_490 (by decide) ?_
      refine cV_i (C := RX12) (n := 2) (rest := []) hx hb hml hown hg hT (c_X12_thing l dC dI g ty H.size Y pa kp ks I tl ac wr tw ρ pl P a0 8 (by exact rel) (by exact wf) (by exact i32_in (by decide) (by decide))) (cv_of hg wM_X12_131 wN_X12_thing wL_X12_X12_thing wK_X12_thing wI_X12 (by decide +kernel) ⟨Nat.le_of_ble_eq_true rfl, Nat.le_of_ble_eq_true rfl⟩) hK hP hD hS hA (va_recv hK hP (ci := 14) (q0 := 0) rfl rfl) rfl hl.1 rfl (Nat.le_of_ble_eq_true rfl) dX12_rows_492 ⟨Nat.le_of_ble_eq_true rfl, Nat.le_of_ble_eq_true rfl⟩ (fun r_86 u_87 H locs q_85 hP hD hS => ?_)
      rcases q_85 with ⟨rfl, rfl, f_88⟩ | ⟨t_89, rfl, rfl, f_90, f_91, f_92⟩ | ⟨rfl, rfl, f_93, f_94⟩ | ⟨t_95, rfl, rfl, f_96, f_97, f_98⟩
      · show _
        exact absurd (by assumption) f_88
      · show _
        obtain rfl := Option.some.inj (g4.symm.trans f_91); exact absurd (g5.symm.trans f_92) (by decide)
      · show _
        exact absurd (g4.symm.trans f_94) (by simp)
      · show _
        obtain rfl := Option.some.inj (g4.symm.trans f_97)
        have hP : va_P (dC, dI) vwCl (rW g ty Y pa kp ks I tl ac wr tw) H := hP
        have hD : va_D A (rW g ty Y pa kp ks I tl ac wr tw) := hD
        refine lv_if_eq (tgt := 520) hx hb dX12_rows_495 (by decide) (fun c9 => absurd c9 (by decide)) (fun _ => ?_)
        refine lv_aload_n hx hb dX12_rows_498 rfl (lv_at hl 1 rfl) ?_
        refine lv_iload_n hx hb dX12_rows_499 rfl (lv_at hl 3 rfl) ?_
        refine cV_i (C := RX12) (n := 1) (rest := []) hx hb hml hown hg hT (c_X12_need l dC dI g ty H.size Y pa kp ks I tl ac wr tw a0 (by assumption)) (cv_of hg wM_X12_134 wN_X12_need wL_X12_X12_need wK_X12_need wI_X12 (by decide +kernel) ⟨Nat.le_of_ble_eq_true rfl, Nat.le_of_ble_eq_true rfl⟩) hK hP hD hS hA (va_recv hK hP (ci := 14) (q0 := 0) rfl rfl) rfl hl.1 rfl (Nat.le_of_ble_eq_true rfl) dX12_rows_500 ⟨Nat.le_of_ble_eq_true rfl, Nat.le_of_ble_eq_true rfl⟩ (fun r_100 u_101 H locs q_99 hP hD hS => ?_)
        rcases q_99 with ⟨rfl, rfl, f_102⟩ | ⟨rfl, rfl, f_103⟩
        · show _
          exact absurd f_102 (by assumption)
        · show _
          have hP : va_P (dC, dI) vwCl (rW g ty Y pa kp ks I tl ac wr tw) H := hP
          have hD : va_D A (rW g ty Y pa kp ks I tl ac wr tw) := hD
          refine lv_if_eq (tgt := 520) hx hb dX12_rows_503 (by decide) (fun c9 => absurd c9 (by decide)) (fun _ => ?_)
          refine lv_aload_n hx hb dX12_rows_506 rfl (lv_at hl 1 rfl) ?_
          refine lv_aload_n hx hb dX12_rows_507 rfl (lv_at hl 1 rfl) ?_
          refine va_get (D := (dC, dI)) (ci := 14) (v := .ref (g 9)) (C := RX12) (T := TX12) (N := 21) hx hb hg inG12 hown hK hP 0 rfl rfl 8 (by decide) (hg _ wF_X12_34) (fun _ h9 => h9) rfl dX12_rows_508 ?_
          refine lv_iload_n hx hb dX12_rows_511 rfl (lv_at hl 3 rfl) ?_
          refine va_iald hx hb hK hP 7 0 rfl rfl (by assumption) dX12_rows_512 ?_
          refine lv_iload_n hx hb dX12_rows_513 rfl (lv_at hl 4 rfl) ?_
          refine cV_i (C := RX12) (n := 2) (rest := []) hx hb hml hown hg hT (c_X12_indexN l dC dI g ty H.size Y pa kp ks I tl ac wr tw (P.2.2.2.2.2.1 y) (pa a0.toNatClampNeg) b0 (by exact hvt.1) (by exact hvt.2.1) (by exact hvt.2.2.1)) (cv_of hg wM_X12_137 wN_X12_index wL_X12_X12_index wK_X12_index wI_X12 (by decide +kernel) ⟨Nat.le_of_ble_eq_true rfl, Nat.le_of_ble_eq_true rfl⟩) hK hP hD hS hA (va_recv hK hP (ci := 14) (q0 := 0) rfl rfl) rfl hl.1 rfl (Nat.le_of_ble_eq_true rfl) dX12_rows_514 ⟨Nat.le_of_ble_eq_true rfl, Nat.le_of_ble_eq_true rfl⟩ (fun r_105 u_106 H locs q_104 hP hD hS => ?_)
          rcases q_104 with ⟨rfl, rfl, f_107⟩ | ⟨rfl, rfl, f_108⟩
          · show _
            have hP : va_P (dC, dI) vwCl (rW g ty Y pa kp ks I tl ac 2 tw) H := hP
            have hD : va_D A (rW g ty Y pa kp ks I tl ac 2 tw) := hD
            refine lv_if_ne (tgt := 525) hx hb dX12_rows_517 (by decide) (fun c9 => absurd (by decide) c9) (fun _ => ?_)
            refine lv_aload_n hx hb dX12_rows_520 rfl (lv_at hl 1 rfl) ?_
            refine cV_l (C := RX12) (n := 0) (rest := []) hx hb hml hown hg hT (c_X12_no l dC dI g ty H.size Y pa kp ks I tl ac 2 tw  ) (cv_of hg wM_X12_107 wN_X12_no wL_X12_X12_no wK_X12_no wI_X12 (by decide +kernel) ⟨Nat.le_of_ble_eq_true rfl, Nat.le_of_ble_eq_true rfl⟩) hK hP hD hS hA (va_recv hK hP (ci := 14) (q0 := 0) rfl rfl) rfl hl.1 rfl (Nat.le_of_ble_eq_true rfl) dX12_rows_521 ⟨Nat.le_of_ble_eq_true rfl, Nat.le_of_ble_eq_true rfl⟩ (fun r_110 u_111 H locs q_109 hP hD hS => ?_)
            obtain ⟨rfl, rfl⟩ := q_109
            have hP : va_P (dC, dI) vwCl (rW g ty Y pa kp ks I tl ac 2 1) H := hP
            have hD : va_D A (rW g ty Y pa kp ks I tl ac 2 1) := hD
            refine cr_l (wo := fun u : rY × (Nat → Int32) × (Nat → Int32) × (Nat → Int32) × Int32 × Int32 => rW g ty u.1 u.2.1 u.2.2.1 ks I u.2.2.2.1 ac u.2.2.2.2.1 u.2.2.2.2.2) ((Y, pa, kp, tl, 2, 1)) hx hb hr hlk hS hP hD ?_ dX12_rows_524
            exact ⟨0, Y, pa, kp, tl, 2, 1, rfl, rfl, (by exact ra_f (f := 2) rel hcnt htl (by decide))⟩
          · show _
            exact absurd f_108 (by assumption)
  · show _
    obtain ⟨n1t, n2t, n3t⟩ := rk_some rel g3 g4
    have hnet := (i32_pos n1t).2.1
    have tht := wf.1 _ _ g4
    have kt := cIs_1 (ki_8 wf tht.1 tht.2 g5)
    have hvt := rv_shelf rel n1t n2t n3t kt g6
    have hl : lv_has ls 8 [(0, .ref (g 8)), (1, .int 7), (2, .int a0), (3, .int b0), (4, .int c0)] := hl
    refine lv_iload_n hx hb dX12_rows_0 rfl (lv_at hl 3 rfl) ?_
    refine lv_bipush (v := 7) hx hb dX12_rows_1 (by decide) ?_
    refine lv_iand hx hb dX12_rows_3 ?_
    refine lv_istore (lv' := [(5, .int (b0 &&& 7)), (0, .ref (g 8)), (1, .int 7), (2, .int a0), (3, .int b0), (4, .int c0)]) hx hb dX12_rows_4 hl (by decide) rfl (fun ls hl => ?_)
    refine lv_iload_n hx hb dX12_rows_6 rfl (lv_at hl 2 rfl) ?_
    refine lv_tableIn (off := 472) (tgt := 479) hx hb dX12_rows_7 (by decide) (by decide) (by decide) (by decide) ?_
    refine lv_aload_n hx hb dX12_rows_479 rfl (lv_at hl 1 rfl) ?_
    refine lv_iload hx hb dX12_rows_480 (lv_at hl 5 rfl) ?_
    refine cV_i (C := RX12) (n := 1) (rest := []) hx hb hml hown hg hT (c_X12_place l dC dI g ty s.heap.size Y pa kp ks I tl ac wr tw c0 ) (cv_of hg wM_X12_83 wN_X12_place wL_X12_X12_place wK_X12_place wI_X12 (by decide +kernel) ⟨Nat.le_of_ble_eq_true rfl, Nat.le_of_ble_eq_true rfl⟩) hK hP hD hS hA (va_recv hK hP (ci := 14) (q0 := 0) rfl rfl) rfl hl.1 rfl (Nat.le_of_ble_eq_true rfl) dX12_rows_482 ⟨Nat.le_of_ble_eq_true rfl, Nat.le_of_ble_eq_true rfl⟩ (fun r_113 u_114 H locs q_112 hP hD hS => ?_)
    rcases q_112 with ⟨rfl, rfl, f_115⟩ | ⟨rfl, rfl, f_116⟩
    · show _
      exact absurd (by assumption) f_115
    · show _
      have hP : va_P (dC, dI) vwCl (rW g ty Y pa kp ks I tl ac wr tw) H := hP
      have hD : va_D A (rW g ty Y pa kp ks I tl ac wr tw) := hD
      refine lv_if_eq (tgt := 520) hx hb dX12_rows_485 (by decide) (fun c9 => absurd c9 (by decide)) (fun _ => ?_)
      refine lv_aload_n hx hb dX12_rows_488 rfl (lv_at hl 1 rfl) ?_
      refine lv_iload_n hx hb dX12_rows_489 rfl (lv_at hl 3 rfl) ?_
      refine lv_bipush (v := 8) hx hb dX12_rows_490 (by decide) ?_
      refine cV_i (C := RX12) (n := 2) (rest := []) hx hb hml hown hg hT (c_X12_thing l dC dI g ty H.size Y pa kp ks I tl ac wr tw ρ pl P a0 8 (by exact rel) (by exact wf) (by exact i32_in (by decide) (by decide))) (cv_of hg wM_X12_131 wN_X12_thing wL_X12_X12_thing wK_X12_thing wI_X12 (by decide +kernel) ⟨Nat.le_of_ble_eq_true rfl, Nat.le_of_ble_eq_true rfl⟩) hK hP hD hS hA (va_recv hK hP (ci := 14) (q0 := 0) rfl rfl) rfl hl.1 rfl (Nat.le_of_ble_eq_true rfl) dX12_rows_492 ⟨Nat.le_of_ble_eq_true rfl, Nat.le_of_ble_eq_true rfl⟩ (fun r_118 u_119 H locs q_117 hP hD hS => ?_)
      rcases q_117 with ⟨rfl, rfl, f_120⟩ | ⟨t_121, rfl, rfl, f_122, f_123, f_124⟩ | ⟨rfl, rfl, f_125, f_126⟩ | ⟨t_127, rfl, rfl, f_128, f_129, f_130⟩
      · show _
        exact absurd (by assumption) f_120
      · show _
        obtain rfl := Option.some.inj (g4.symm.trans f_123); exact absurd (g5.symm.trans f_124) (by decide)
      · show _
        exact absurd (g4.symm.trans f_126) (by simp)
      · show _
        obtain rfl := Option.some.inj (g4.symm.trans f_129)
        have hP : va_P (dC, dI) vwCl (rW g ty Y pa kp ks I tl ac wr tw) H := hP
        have hD : va_D A (rW g ty Y pa kp ks I tl ac wr tw) := hD
        refine lv_if_eq (tgt := 520) hx hb dX12_rows_495 (by decide) (fun c9 => absurd c9 (by decide)) (fun _ => ?_)
        refine lv_aload_n hx hb dX12_rows_498 rfl (lv_at hl 1 rfl) ?_
        refine lv_iload_n hx hb dX12_rows_499 rfl (lv_at hl 3 rfl) ?_
        refine cV_i (C := RX12) (n := 1) (rest := []) hx hb hml hown hg hT (c_X12_need l dC dI g ty H.size Y pa kp ks I tl ac wr tw a0 (by assumption)) (cv_of hg wM_X12_134 wN_X12_need wL_X12_X12_need wK_X12_need wI_X12 (by decide +kernel) ⟨Nat.le_of_ble_eq_true rfl, Nat.le_of_ble_eq_true rfl⟩) hK hP hD hS hA (va_recv hK hP (ci := 14) (q0 := 0) rfl rfl) rfl hl.1 rfl (Nat.le_of_ble_eq_true rfl) dX12_rows_500 ⟨Nat.le_of_ble_eq_true rfl, Nat.le_of_ble_eq_true rfl⟩ (fun r_132 u_133 H locs q_131 hP hD hS => ?_)
        rcases q_131 with ⟨rfl, rfl, f_134⟩ | ⟨rfl, rfl, f_135⟩
        · show _
          exact absurd f_134 (by assumption)
        · show _
          have hP : va_P (dC, dI) vwCl (rW g ty Y pa kp ks I tl ac wr tw) H := hP
          have hD : va_D A (rW g ty Y pa kp ks I tl ac wr tw) := hD
          refine lv_if_eq (tgt := 520) hx hb dX12_rows_503 (by decide) (fun c9 => absurd c9 (by decide)) (fun _ => ?_)
          refine lv_aload_n hx hb dX12_rows_506 rfl (lv_at hl 1 rfl) ?_
          refine lv_aload_n hx hb dX12_rows_507 rfl (lv_at hl 1 rfl) ?_
          refine va_get (D := (dC, dI)) (ci := 14) (v := .ref (g 9)) (C := RX12) (T := TX12) (N := 21) hx hb hg inG12 hown hK hP 0 rfl rfl 8 (by decide) (hg _ wF_X12_34) (fun _ h9 => h9) rfl dX12_rows_508 ?_
          refine lv_iload_n hx hb dX12_rows_511 rfl (lv_at hl 3 rfl) ?_
          refine va_iald hx hb hK hP 7 0 rfl rfl (by assumption) dX12_rows_512 ?_
          refine lv_iload_n hx hb dX12_rows_513 rfl (lv_at hl 4 rfl) ?_
          refine cV_i (C := RX12) (n := 2) (rest := []) hx hb hml hown hg hT (c_X12_indexN l dC dI g ty H.size Y pa kp ks I tl ac wr tw (P.2.2.2.2.2.1 y) (pa a0.toNatClampNeg) b0 (by exact hvt.1) (by exact hvt.2.1) (by exact hvt.2.2.1)) (cv_of hg wM_X12_137 wN_X12_index wL_X12_X12_index wK_X12_index wI_X12 (by decide +kernel) ⟨Nat.le_of_ble_eq_true rfl, Nat.le_of_ble_eq_true rfl⟩) hK hP hD hS hA (va_recv hK hP (ci := 14) (q0 := 0) rfl rfl) rfl hl.1 rfl (Nat.le_of_ble_eq_true rfl) dX12_rows_514 ⟨Nat.le_of_ble_eq_true rfl, Nat.le_of_ble_eq_true rfl⟩ (fun r_137 u_138 H locs q_136 hP hD hS => ?_)
          rcases q_136 with ⟨rfl, rfl, f_139⟩ | ⟨rfl, rfl, f_140⟩
          · show _
            exact absurd (by assumption) f_139
          · show _
            have hP : va_P (dC, dI) vwCl (rW g ty Y pa kp ks I tl ac wr tw) H := hP
            have hD : va_D A (rW g ty Y pa kp ks I tl ac wr tw) := hD
            refine lv_if_ne (tgt := 525) hx hb dX12_rows_517 (by decide) (fun _ => ?_) (fun c9 => absurd c9 (by decide)) 
            refine lv_aload_n hx hb dX12_rows_525 rfl (lv_at hl 1 rfl) ?_
            refine va_get (D := (dC, dI)) (ci := 14) (v := .ref (g 9)) (C := RX12) (T := TX12) (N := 21) hx hb hg inG12 hown hK hP 0 rfl rfl 8 (by decide) (hg _ wF_X12_34) (fun _ h9 => h9) rfl dX12_rows_526 ?_
            refine lv_iload hx hb dX12_rows_529 (lv_at hl 5 rfl) ?_
            refine lv_aload_n hx hb dX12_rows_531 rfl (lv_at hl 1 rfl) ?_
            refine lv_aload_n hx hb dX12_rows_532 rfl (lv_at hl 1 rfl) ?_
            refine va_get (D := (dC, dI)) (ci := 14) (v := .ref (g 9)) (C := RX12) (T := TX12) (N := 21) hx hb hg inG12 hown hK hP 0 rfl rfl 8 (by decide) (hg _ wF_X12_34) (fun _ h9 => h9) rfl dX12_rows_533 ?_
            refine lv_iload_n hx hb dX12_rows_536 rfl (lv_at hl 3 rfl) ?_
            refine va_iald hx hb hK hP 7 0 rfl rfl (by assumption) dX12_rows_537 ?_
            refine lv_iload_n hx hb dX12_rows_538 rfl (lv_at hl 4 rfl) ?_
            refine cV_l (C := RX12) (n := 2) (rest := [.int c0, .ref (g 9)]) hx hb hml hown hg hT (c_X12_cell l dC dI g ty H.size Y pa kp ks I tl ac wr tw (pa a0.toNatClampNeg) b0 (by exact hvt.1) (by exact (hvt.2.2.2 _ (by assumption)).1)) (cv_of hg wM_X12_140 wN_X12_cell wL_X12_X12_cell wK_X12_cell wI_X12 (by decide +kernel) ⟨Nat.le_of_ble_eq_true rfl, Nat.le_of_ble_eq_true rfl⟩) hK hP hD hS hA (va_recv hK hP (ci := 14) (q0 := 0) rfl rfl) rfl hl.1 rfl (Nat.le_of_ble_eq_true rfl) dX12_rows_539 ⟨Nat.le_of_ble_eq_true rfl, Nat.le_of_ble_eq_true rfl⟩ (fun r_142 u_143 H locs q_141 hP hD hS => ?_)
            obtain rfl := q_141
            have hP : va_P (dC, dI) vwCl (rW g ty Y pa kp ks I tl ac wr tw) H := hP
            have hD : va_D A (rW g ty Y pa kp ks I tl ac wr tw) := hD
            refine lv_l2i (v := ((Y.2.2.2.2.2.1 (Y.2.1 (pa a0.toNatClampNeg).toNatClampNeg + b0).toNatClampNeg).toInt32)) hx hb dX12_rows_542 rfl ?_
            refine va_iast hx hb hK hP hD hS 7 0 rfl rfl (by assumption) dX12_rows_543 (fun H locs hP hD hS => ?_)
            have hP : va_P (dC, dI) vwCl (rW g ty Y (upd pa c0.toNatClampNeg ((Y.2.2.2.2.2.1 (Y.2.1 (pa a0.toNatClampNeg).toNatClampNeg + b0).toNatClampNeg).toInt32)) kp ks I tl ac wr tw) H := hP
            have hD : va_D A (rW g ty Y (upd pa c0.toNatClampNeg ((Y.2.2.2.2.2.1 (Y.2.1 (pa a0.toNatClampNeg).toNatClampNeg + b0).toNatClampNeg).toInt32)) kp ks I tl ac wr tw) := hD
            refine lv_lconst (v := 0) hx hb dX12_rows_544 (by decide) ?_
            refine cr_l (wo := fun u : rY × (Nat → Int32) × (Nat → Int32) × (Nat → Int32) × Int32 × Int32 => rW g ty u.1 u.2.1 u.2.2.1 ks I u.2.2.2.1 ac u.2.2.2.2.1 u.2.2.2.2.2) ((Y, (upd pa c0.toNatClampNeg ((Y.2.2.2.2.2.1 (Y.2.1 (pa a0.toNatClampNeg).toNatClampNeg + b0).toNatClampNeg).toInt32)), kp, tl, wr, tw)) hx hb hr hlk hS hP hD ?_ dX12_rows_545
            exact ⟨0, Y, (upd pa c0.toNatClampNeg ((Y.2.2.2.2.2.1 (Y.2.1 (pa a0.toNatClampNeg).toNatClampNeg + b0).toNatClampNeg).toInt32)), kp, tl, wr, tw, rfl, rfl, (by subst pre6; exact ra_w (rw_pl rel (by assumption) (ll_lk (hvt.2.2.2 _ (by assumption)).2 (by assumption))) ⟨rfl, rfl, rfl, rfl⟩ hcnt htl rfl)⟩

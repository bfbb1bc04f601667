/-- what op of the reference leaves -/
def rOp (f : Int32) (rz : Int64) (pl : Nat → Option Nat) (P : cQ) (md : Int32) (tl : Nat → Int32) (Y : rY) (I : rI) (r : Int64) (Y' : rY) (pa' : Nat → Int32) (I' : rI) (tl' : Nat → Int32) : Prop :=
  ((f = -1 ∧ r = rz ∧ I' = (I.1, I.2.1, I.2.2.1, I.2.2.2.1, I.2.2.2.2.1, 0) ∧ tl' = upd (upd tl 5 md) 0 (upd tl 5 md 0 + 1)) ∨ (¬ f = -1 ∧ I' = (I.1, I.2.1, I.2.2.1, I.2.2.2.1, I.2.2.2.2.1, f + 1) ∧ tl' = upd (upd tl 5 md) 3 (upd tl 5 md 3 + 1))) ∧ rCnt Y' md ∧ (Y.2.2.2.2.2.2.2.1 ≤ Y'.2.2.2.2.2.2.2.1 ∧ Y.2.2.2.2.2.2.2.2.1 ≤ Y'.2.2.2.2.2.2.2.2.1) ∧ ∃ ρ' : Nat → Nat, rR Y'.2.2.2.2.2.2.2.2.2.1 Y' pa' ρ' pl P
section ROp
variable {f : Int32} {rz : Int64} {pl : Nat → Option Nat} {P : cQ} {md : Int32} {tl : Nat → Int32} {Y : rY} {I : rI} {r : Int64} {Y' : rY} {pa' tl' : Nat → Int32} {wr' tw' : Int32}
theorem ro_ok (h : rAns f rz pl P md tl Y r Y' pa' tl' wr' tw') (ht : tw' = 0) : rOp f rz pl P md tl Y I r Y' pa' (I.1, I.2.1, I.2.2.1, I.2.2.2.1, I.2.2.2.2.1, 0) (upd tl' 0 (tl' 0 + 1)) := by
  obtain ⟨h1 | h1, h2, h3, h4, h5⟩ := h
  · subst h2
    exact ⟨Or.inl ⟨h1.1, h1.2.2, rfl, rfl⟩, h3, h4, h5⟩
  · exact absurd (ht.symm.trans h1.2.1) (by decide)
theorem ro_no {r2 : Int64} (h : rAns f rz pl P md tl Y r Y' pa' tl' wr' tw') (ht : ¬ tw' = 0) : rOp f rz pl P md tl Y I r2 Y' pa' (I.1, I.2.1, I.2.2.1, I.2.2.2.1, I.2.2.2.2.1, wr' + 1) (upd tl' 3 (tl' 3 + 1)) := by
  obtain ⟨h1 | h1, h2, h3, h4, h5⟩ := h
  · exact absurd h1.2.1 ht
  · subst h2
    rw [h1.2.2]
    exact ⟨Or.inr ⟨h1.1, rfl, rfl⟩, h3, h4, h5⟩
end ROp
def rTk (k s : Int32) : Int32 := if k = 4 then 1 else if k = 7 then (if s = 6 then 1 else 0) else if k = 3 then (if s = 3 then 1 else if s = 5 then 1 else 0) else if 2 < k then 0 else if k = s then 1 else 0
theorem ld_in {x : Int32} (h0 : ¬ x < 0) (h : x ≤ 255) : vp_in x 256 := i32_in (nn_of h0) (by have := i32_le h; have e : (255 : Int32).toNatClampNeg = 255 := (by decide); omega)
theorem ct_in {x : Int32} (h0 : ¬ x < 0) (h : x ≤ 5) : vp_in x 6 := i32_in (nn_of h0) (by have := i32_le h; have e : (5 : Int32).toNatClampNeg = 5 := (by decide); omega)
set_option maxHeartbeats 800000 in
set_option maxRecDepth 100000 in
theorem c_X12_op (l : Launch) (dC : Nat → ClassId) (dI : Nat → Nat → Nat) (g : Nat → Nat) (ty : Nat → ClassId) (sz tot : Nat) (Y : rY) (pa : Nat → Int32) (kp : Nat → Int32) (ks : Int32) (I : rI) (tl : Nat → Int32) (ac : Int64) (wr : Int32) (tw : Int32) (ρ : Nat → Nat) (pl : Nat → Option Nat) (P : cQ) (md : Int32) (Z : cZ) (rz9 : Int64) (u9 : (Nat → Option Nat) × Int32 × Int32 × cQ) (w0 : Int32) (a0 : Int32) (b0 : Int32) (c0 : Int32) (pre0 : rR Y.2.2.2.2.2.2.2.2.2.1 Y pa ρ pl P) (pre1 : cWF pl P) (pre2 : ks = 0) (pre3 : rCnt Y md) (pre4 : tl 5 = md) (pre5 : 0 ≤ md ∧ md ≤ 6000) (pre6 : q_X11_answerOf w0 a0 b0 c0 pl ac (-1) md Z P rz9 u9) (pre7 : rNr) : Met l yX12_op (Cond.code yX12_op cX12_op 7 (some .long) :: gT) ({ frames := 5, cells := 96000 - Y.2.2.2.2.2.2.2.1, slots := 10 * (96000 - Y.2.2.2.2.2.2.2.1) + 2 * (1542237 - Y.2.2.2.2.2.2.2.2.1), locals := 133 }) (cPg (dC, dI) (rTy ty) (rW g ty Y pa kp ks I tl ac wr tw) sz tot [.ref (g 8), .int w0, .int a0, .int b0, .int c0]) (va_Ql (fun (rz : Int64) (u : rY × (Nat → Int32) × (Nat → Int32) × rI × (Nat → Int32) × Int32 × Int32) => ∃ (r' : Int64) (Y' : rY) (pa' kp' : Nat → Int32) (I' : rI) (tl' : Nat → Int32) (wr' tw' : Int32), r' = rz ∧ (Y', pa', kp', I', tl', wr', tw') = u ∧ rOp u9.2.1 rz9 u9.1 u9.2.2.2 u9.2.2.1 tl Y I r' Y' pa' I' tl') (cBg (dC, dI) (fun u : rY × (Nat → Int32) × (Nat → Int32) × rI × (Nat → Int32) × Int32 × Int32 => rW g ty u.1 u.2.1 u.2.2.1 ks u.2.2.2.1 u.2.2.2.2.1 ac u.2.2.2.2.2.1 u.2.2.2.2.2.2) (va_A (rW g ty Y pa kp ks I tl ac wr tw) sz) sz tot (fun u : rY × (Nat → Int32) × (Nat → Int32) × rI × (Nat → Int32) × Int32 × Int32 => u.1.2.2.2.2.2.2.2.1 - Y.2.2.2.2.2.2.2.1) (fun u : rY × (Nat → Int32) × (Nat → Int32) × rI × (Nat → Int32) × Int32 × Int32 => 10 * (u.1.2.2.2.2.2.2.2.1 - Y.2.2.2.2.2.2.2.1) + 2 * (u.1.2.2.2.2.2.2.2.2.1 - Y.2.2.2.2.2.2.2.2.1))) (va_A (rW g ty Y pa kp ks I tl ac wr tw) sz)) (96000 - Y.2.2.2.2.2.2.2.1) (10 * (96000 - Y.2.2.2.2.2.2.2.1) + 2 * (1542237 - Y.2.2.2.2.2.2.2.2.1)) (va_A (rW g ty Y pa kp ks I tl ac wr tw) sz) := by
  refine cg_of (Qa := fun A => va_Ql (fun (rz : Int64) (u : rY × (Nat → Int32) × (Nat → Int32) × rI × (Nat → Int32) × Int32 × Int32) => ∃ (r' : Int64) (Y' : rY) (pa' kp' : Nat → Int32) (I' : rI) (tl' : Nat → Int32) (wr' tw' : Int32), r' = rz ∧ (Y', pa', kp', I', tl', wr', tw') = u ∧ rOp u9.2.1 rz9 u9.1 u9.2.2.2 u9.2.2.1 tl Y I r' Y' pa' I' tl') (cBg (dC, dI) (fun u : rY × (Nat → Int32) × (Nat → Int32) × rI × (Nat → Int32) × Int32 × Int32 => rW g ty u.1 u.2.1 u.2.2.1 ks u.2.2.2.1 u.2.2.2.2.1 ac u.2.2.2.2.2.1 u.2.2.2.2.2.2) A sz tot (fun u : rY × (Nat → Int32) × (Nat → Int32) × rI × (Nat → Int32) × Int32 × Int32 => u.1.2.2.2.2.2.2.2.1 - Y.2.2.2.2.2.2.2.1) (fun u : rY × (Nat → Int32) × (Nat → Int32) × rI × (Nat → Int32) × Int32 × Int32 => 10 * (u.1.2.2.2.2.2.2.2.1 - Y.2.2.2.2.2.2.2.1) + 2 * (u.1.2.2.2.2.2.2.2.2.1 - Y.2.2.2.2.2.2.2.2.1))) A) (by decide) (Nat.le_of_ble_eq_true rfl) ?_
  intro p e s m below meth c A hx hb hr hml hown hg hlk hmn hP hK hD hT hS hA hsz htot ls hl
  have hown : s.vm.findClass RX12 = some m.cls := hown
  have hl : lv_has ls 7 [(0, .ref (g 8)), (1, .int w0), (2, .int a0), (3, .int b0), (4, .int c0)] := hl
  refine lv_aload_n hx hb dX12_op_0 rfl (lv_at hl 0 rfl) ?_
  refine lv_iconst (v := 0) hx hb dX12_op_1 (by decide) ?_
  refine va_put (D := (dC, dI)) (ci := 14) (v := .int 0) (ty := .int) (C := RX12) (T := TX12) (N := 21) hx hb hg inG12 tyX12 tyX12_ok nmX12 hown hK hP hD hS 0 rfl rfl 15 (by decide) (hg _ wF_X12_55) (fun _ h9 => h9) rfl (by decide +kernel) rfl rfl (Nat.le_of_ble_eq_true rfl) dX12_op_2 (fun H locs hP hD hS => ?_)
  have hP : va_P (dC, dI) vwCl (rW g ty Y pa kp ks (I.1, I.2.1, I.2.2.1, I.2.2.2.1, I.2.2.2.2.1, 0) tl ac wr tw) H := hP
  have hD : va_D A (rW g ty Y pa kp ks (I.1, I.2.1, I.2.2.1, I.2.2.2.1, I.2.2.2.2.1, 0) tl ac wr tw) := hD
  refine lv_aload_n hx hb dX12_op_5 rfl (lv_at hl 0 rfl) ?_
  refine lv_iload_n hx hb dX12_op_6 rfl (lv_at hl 1 rfl) ?_
  refine lv_iload_n hx hb dX12_op_7 rfl (lv_at hl 2 rfl) ?_
  refine lv_iload_n hx hb dX12_op_8 rfl (lv_at hl 3 rfl) ?_
  refine lv_iload hx hb dX12_op_9 (lv_at hl 4 rfl) ?_
  refine gV_l (C := RX12) (n := 4) (rest := []) hx hb hml hown hg hT (c_X12_done l dC dI g ty H.size (hsum H) Y pa kp ks (I.1, I.2.1, I.2.2.1, I.2.2.2.1, I.2.2.2.2.1, 0) tl ac wr tw ρ pl P md Z rz9 u9 w0 a0 b0 c0 (by exact pre0) (by exact pre1) (by exact pre2) (by exact pre3) (by exact pre4) (by exact pre5) (by exact pre6) (by exact pre7)) (cv_of hg wM_X12_162 wN_X12_done wL_X12_X12_done wK_X12_done wI_X12 (by decide +kernel) ⟨Nat.le_of_ble_eq_true rfl, Nat.le_of_ble_eq_true rfl⟩) hK hP hD hS hA (va_recv hK hP (ci := 14) (q0 := 0) rfl rfl) rfl hl.1 rfl (Nat.le_of_ble_eq_true rfl) dX12_op_11 ⟨by show 0 + (96000 - Y.2.2.2.2.2.2.2.1) ≤ 96000 - Y.2.2.2.2.2.2.2.1; omega, by show 0 + (10 * (96000 - Y.2.2.2.2.2.2.2.1) + 2 * (1542237 - Y.2.2.2.2.2.2.2.2.1)) ≤ 10 * (96000 - Y.2.2.2.2.2.2.2.1) + 2 * (1542237 - Y.2.2.2.2.2.2.2.2.1); omega⟩ (fun r_2 u_3 H locs q_1 hP hD hS => ?_)
  obtain ⟨r'_4, Y'_5, pa'_6, kp'_7, tl'_8, wr'_9, tw'_10, rfl, rfl, f_11⟩ := q_1
  have hP : va_P (dC, dI) vwCl (rW g ty Y'_5 pa'_6 kp'_7 ks (I.1, I.2.1, I.2.2.1, I.2.2.2.1, I.2.2.2.2.1, 0) tl'_8 ac wr'_9 tw'_10) H := hP
  have hD : va_D A (rW g ty Y'_5 pa'_6 kp'_7 ks (I.1, I.2.1, I.2.2.1, I.2.2.2.1, I.2.2.2.2.1, 0) tl'_8 ac wr'_9 tw'_10) := hD
  have hra := ra_L f_11
  refine lv_lstore (lv' := [(5, .long r'_4), (0, .ref (g 8)), (1, .int w0), (2, .int a0), (3, .int b0), (4, .int c0)]) hx hb dX12_op_14 hl (by decide) rfl (fun ls hl => ?_)
  refine lv_aload_n hx hb dX12_op_16 rfl (lv_at hl 1 rfl) ?_
  refine va_get (D := (dC, dI)) (ci := 14) (v := .int tw'_10) (C := RX12) (T := TX12) (N := 21) hx hb hg inG12 hown hK hP 0 rfl rfl 20 (by decide) (hg _ wF_X12_101) (fun _ h9 => h9) rfl dX12_op_17 ?_
  refine lv_if_eq (tgt := 45) hx hb dX12_op_20 (by decide) (fun c_12 => ?_) (fun c_12 => ?_)
  · show _
    refine lv_aload_n hx hb dX12_op_45 rfl (lv_at hl 1 rfl) ?_
    refine va_get (D := (dC, dI)) (ci := 14) (v := .ref (g 14)) (C := RX12) (T := TX12) (N := 21) hx hb hg inG12 hown hK hP 0 rfl rfl 17 (by decide) (hg _ wF_X12_49) (fun _ h9 => h9) rfl dX12_op_46 ?_
    refine lv_iconst (v := 0) hx hb dX12_op_49 (by decide) ?_
    refine lv_dup2_11 hx hb dX12_op_50 rfl rfl ?_
    refine va_iald hx hb hK hP 12 0 rfl rfl (by exact i32_in (by decide) (by decide)) dX12_op_51 ?_
    refine lv_iconst (v := 1) hx hb dX12_op_52 (by decide) ?_
    refine lv_iadd hx hb dX12_op_53 ?_
    refine va_iast hx hb hK hP hD hS 12 0 rfl rfl (by exact i32_in (by decide) (by decide)) dX12_op_54 (fun H locs hP hD hS => ?_)
    have hP : va_P (dC, dI) vwCl (rW g ty Y'_5 pa'_6 kp'_7 ks (I.1, I.2.1, I.2.2.1, I.2.2.2.1, I.2.2.2.2.1, 0) (upd tl'_8 0 ((tl'_8 0) + 1)) ac wr'_9 tw'_10) H := hP
    have hD : va_D A (rW g ty Y'_5 pa'_6 kp'_7 ks (I.1, I.2.1, I.2.2.1, I.2.2.2.1, I.2.2.2.2.1, 0) (upd tl'_8 0 ((tl'_8 0) + 1)) ac wr'_9 tw'_10) := hD
    refine lv_lload hx hb dX12_op_55 (lv_at hl 0 rfl) ?_
    refine W.bound (fun gb1 gb2 => ?_)
    have gb1 : H.size ≤ s.heap.size + (0 + (Y'_5.2.2.2.2.2.2.2.1 - Y.2.2.2.2.2.2.2.1)) := gb1
    have gb2 : hsum H ≤ hsum s.heap + (0 + (10 * (Y'_5.2.2.2.2.2.2.2.1 - Y.2.2.2.2.2.2.2.1) + 2 * (Y'_5.2.2.2.2.2.2.2.2.1 - Y.2.2.2.2.2.2.2.2.1))) := gb2
    refine W.widen (k := 96000 - Y.2.2.2.2.2.2.2.1) (n := 10 * (96000 - Y.2.2.2.2.2.2.2.1) + 2 * (1542237 - Y.2.2.2.2.2.2.2.2.1)) (by show 0 + (Y'_5.2.2.2.2.2.2.2.1 - Y.2.2.2.2.2.2.2.1) ≤ 96000 - Y.2.2.2.2.2.2.2.1; omega) (by show 0 + (10 * (Y'_5.2.2.2.2.2.2.2.1 - Y.2.2.2.2.2.2.2.1) + 2 * (Y'_5.2.2.2.2.2.2.2.2.1 - Y.2.2.2.2.2.2.2.2.1)) ≤ 10 * (96000 - Y.2.2.2.2.2.2.2.1) + 2 * (1542237 - Y.2.2.2.2.2.2.2.2.1); omega) ?_
    refine gr_l (wo := fun u : rY × (Nat → Int32) × (Nat → Int32) × rI × (Nat → Int32) × Int32 × Int32 => rW g ty u.1 u.2.1 u.2.2.1 ks u.2.2.2.1 u.2.2.2.2.1 ac u.2.2.2.2.2.1 u.2.2.2.2.2.2) ((Y'_5, pa'_6, kp'_7, (I.1, I.2.1, I.2.2.1, I.2.2.2.1, I.2.2.2.2.1, 0), (upd tl'_8 0 ((tl'_8 0) + 1)), wr'_9, tw'_10)) hx hb hr hlk hS hP hD (by show H.size ≤ sz + (Y'_5.2.2.2.2.2.2.2.1 - Y.2.2.2.2.2.2.2.1); rw [← hsz]; omega) (by show hsum H ≤ tot + (10 * (Y'_5.2.2.2.2.2.2.2.1 - Y.2.2.2.2.2.2.2.1) + 2 * (Y'_5.2.2.2.2.2.2.2.2.1 - Y.2.2.2.2.2.2.2.2.1)); rw [← htot]; omega) ?_ dX12_op_57
    exact ⟨r'_4, Y'_5, pa'_6, kp'_7, (I.1, I.2.1, I.2.2.1, I.2.2.2.1, I.2.2.2.2.1, 0), (upd tl'_8 0 ((tl'_8 0) + 1)), wr'_9, tw'_10, rfl, rfl, (by exact ro_ok f_11 c_12)⟩
  · show _
    refine lv_aload_n hx hb dX12_op_23 rfl (lv_at hl 1 rfl) ?_
    refine va_get (D := (dC, dI)) (ci := 14) (v := .ref (g 14)) (C := RX12) (T := TX12) (N := 21) hx hb hg inG12 hown hK hP 0 rfl rfl 17 (by decide) (hg _ wF_X12_49) (fun _ h9 => h9) rfl dX12_op_24 ?_
    refine lv_iconst (v := 3) hx hb dX12_op_27 (by decide) ?_
    refine lv_dup2_11 hx hb dX12_op_28 rfl rfl ?_
    refine va_iald hx hb hK hP 12 0 rfl rfl (by exact i32_in (by decide) (by decide)) dX12_op_29 ?_
    refine lv_iconst (v := 1) hx hb dX12_op_30 (by decide) ?_
    refine lv_iadd hx hb dX12_op_31 ?_
    refine va_iast hx hb hK hP hD hS 12 0 rfl rfl (by exact i32_in (by decide) (by decide)) dX12_op_32 (fun H locs hP hD hS => ?_)
    have hP : va_P (dC, dI) vwCl (rW g ty Y'_5 pa'_6 kp'_7 ks (I.1, I.2.1, I.2.2.1, I.2.2.2.1, I.2.2.2.2.1, 0) (upd tl'_8 3 ((tl'_8 3) + 1)) ac wr'_9 tw'_10) H := hP
    have hD : va_D A (rW g ty Y'_5 pa'_6 kp'_7 ks (I.1, I.2.1, I.2.2.1, I.2.2.2.1, I.2.2.2.2.1, 0) (upd tl'_8 3 ((tl'_8 3) + 1)) ac wr'_9 tw'_10) := hD
    refine lv_aload_n hx hb dX12_op_33 rfl (lv_at hl 1 rfl) ?_
    refine lv_aload_n hx hb dX12_op_34 rfl (lv_at hl 1 rfl) ?_
    refine va_get (D := (dC, dI)) (ci := 14) (v := .int wr'_9) (C := RX12) (T := TX12) (N := 21) hx hb hg inG12 hown hK hP 0 rfl rfl 16 (by decide) (hg _ wF_X12_76) (fun _ h9 => h9) rfl dX12_op_35 ?_
    refine lv_iconst (v := 1) hx hb dX12_op_38 (by decide) ?_
    refine lv_iadd hx hb dX12_op_39 ?_
    refine va_put (D := (dC, dI)) (ci := 14) (v := .int (wr'_9 + 1)) (ty := .int) (C := RX12) (T := TX12) (N := 21) hx hb hg inG12 tyX12 tyX12_ok nmX12 hown hK hP hD hS 0 rfl rfl 15 (by decide) (hg _ wF_X12_55) (fun _ h9 => h9) rfl (by decide +kernel) rfl rfl (Nat.le_of_ble_eq_true rfl) dX12_op_40 (fun H locs hP hD hS => ?_)
    have hP : va_P (dC, dI) vwCl (rW g ty Y'_5 pa'_6 kp'_7 ks (I.1, I.2.1, I.2.2.1, I.2.2.2.1, I.2.2.2.2.1, (wr'_9 + 1)) (upd tl'_8 3 ((tl'_8 3) + 1)) ac wr'_9 tw'_10) H := hP
    have hD : va_D A (rW g ty Y'_5 pa'_6 kp'_7 ks (I.1, I.2.1, I.2.2.1, I.2.2.2.1, I.2.2.2.2.1, (wr'_9 + 1)) (upd tl'_8 3 ((tl'_8 3) + 1)) ac wr'_9 tw'_10) := hD
    refine lv_lconst (v := 0) hx hb dX12_op_43 (by decide) ?_
    refine W.bound (fun gb1 gb2 => ?_)
    have gb1 : H.size ≤ s.heap.size + (0 + (Y'_5.2.2.2.2.2.2.2.1 - Y.2.2.2.2.2.2.2.1)) := gb1
    have gb2 : hsum H ≤ hsum s.heap + (0 + (10 * (Y'_5.2.2.2.2.2.2.2.1 - Y.2.2.2.2.2.2.2.1) + 2 * (Y'_5.2.2.2.2.2.2.2.2.1 - Y.2.2.2.2.2.2.2.2.1))) := gb2
    refine W.widen (k := 96000 - Y.2.2.2.2.2.2.2.1) (n := 10 * (96000 - Y.2.2.2.2.2.2.2.1) + 2 * (1542237 - Y.2.2.2.2.2.2.2.2.1)) (by show 0 + (Y'_5.2.2.2.2.2.2.2.1 - Y.2.2.2.2.2.2.2.1) ≤ 96000 - Y.2.2.2.2.2.2.2.1; omega) (by show 0 + (10 * (Y'_5.2.2.2.2.2.2.2.1 - Y.2.2.2.2.2.2.2.1) + 2 * (Y'_5.2.2.2.2.2.2.2.2.1 - Y.2.2.2.2.2.2.2.2.1)) ≤ 10 * (96000 - Y.2.2.2.2.2.2.2.1) + 2 * (1542237 - Y.2.2.2.2.2.2.2.2.1); omega) ?_
    refine gr_l (wo := fun u : rY × (Nat → Int32) × (Nat → Int32) × rI × (Nat → Int32) × Int32 × Int32 => rW g ty u.1 u.2.1 u.2.2.1 ks u.2.2.2.1 u.2.2.2.2.1 ac u.2.2.2.2.2.1 u.2.2.2.2.2.2) ((Y'_5, pa'_6, kp'_7, (I.1, I.2.1, I.2.2.1, I.2.2.2.1, I.2.2.2.2.1, (wr'_9 + 1)), (upd tl'_8 3 ((tl'_8 3) + 1)), wr'_9, tw'_10)) hx hb hr hlk hS hP hD (by show H.size ≤ sz + (Y'_5.2.2.2.2.2.2.2.1 - Y.2.2.2.2.2.2.2.1); rw [← hsz]; omega) (by show hsum H ≤ tot + (10 * (Y'_5.2.2.2.2.2.2.2.1 - Y.2.2.2.2.2.2.2.1) + 2 * (Y'_5.2.2.2.2.2.2.2.2.1 - Y.2.2.2.2.2.2.2.2.1)); rw [← htot]; omega) ?_ dX12_op_44
    exact ⟨0, Y'_5, pa'_6, kp'_7, (I.1, I.2.1, I.2.2.1, I.2.2.2.1, I.2.2.2.2.1, (wr'_9 + 1)), (upd tl'_8 3 ((tl'_8 3) + 1)), wr'_9, tw'_10, rfl, rfl, (by exact ro_no f_11 c_12)⟩
set_option maxHeartbeats 800000 in
set_option maxRecDepth 100000 in
theorem c_X12_load (l : Launch) (dC : Nat → ClassId) (dI : Nat → Nat → Nat) (g : Nat → Nat) (ty : Nat → ClassId) (sz : Nat) (Y : rY) (pa : Nat → Int32) (kp : Nat → Int32) (ks : Int32) (I : rI) (tl : Nat → Int32) (ac : Int64) (wr : Int32) (tw : Int32) (i0 : Int32) (w0 : Int32) (a0 : Int32) (b0 : Int32) (c0 : Int32) : Met l yX12_load (Cond.code yX12_load cX12_load 6 (some .int) :: gT) ({ frames := 0, cells := 0, slots := 0, locals := 0 }) (cP (dC, dI) (rTy ty) (rW g ty Y pa kp ks I tl ac wr tw) sz [.ref (g 8), .int i0, .int w0, .int a0, .int b0, .int c0]) (va_Qi (fun (rz : Int32) (u : rI) => (0 = rz ∧ (I.1, I.2.1, I.2.2.1, I.2.2.2.1, I.2.2.2.2.1, 1) = u ∧ (i0 < 0 ∨ ¬ i0 ≤ 255)) ∨ (i0 = rz ∧ ((upd I.1 i0.toNatClampNeg w0), (upd I.2.1 i0.toNatClampNeg a0), (upd I.2.2.1 i0.toNatClampNeg b0), (upd I.2.2.2.1 i0.toNatClampNeg c0), I.2.2.2.2.1, 0) = u ∧ ¬ i0 < 0 ∧ i0 ≤ 255)) (cB (dC, dI) (fun u : rI => rW g ty Y pa kp ks u tl ac wr tw) (va_A (rW g ty Y pa kp ks I tl ac wr tw) sz)) (va_A (rW g ty Y pa kp ks I tl ac wr tw) sz)) 0 0 (va_A (rW g ty Y pa kp ks I tl ac wr tw) sz) := by
  refine cc_of (Qa := fun A => va_Qi (fun (rz : Int32) (u : rI) => (0 = rz ∧ (I.1, I.2.1, I.2.2.1, I.2.2.2.1, I.2.2.2.2.1, 1) = u ∧ (i0 < 0 ∨ ¬ i0 ≤ 255)) ∨ (i0 = rz ∧ ((upd I.1 i0.toNatClampNeg w0), (upd I.2.1 i0.toNatClampNeg a0), (upd I.2.2.1 i0.toNatClampNeg b0), (upd I.2.2.2.1 i0.toNatClampNeg c0), I.2.2.2.2.1, 0) = u ∧ ¬ i0 < 0 ∧ i0 ≤ 255)) (cB (dC, dI) (fun u : rI => rW g ty Y pa kp ks u tl ac wr tw) A) A) (by decide) (Nat.le_of_ble_eq_true rfl) ?_
  intro p e s m below meth c A hx hb hr hml hown hg hlk hmn hP hK hD hT hS hA hsz ls hl
  have hown : s.vm.findClass RX12 = some m.cls := hown
  have hl : lv_has ls 6 [(0, .ref (g 8)), (1, .int i0), (2, .int w0), (3, .int a0), (4, .int b0), (5, .int c0)] := hl
  refine lv_aload_n hx hb dX12_load_0 rfl (lv_at hl 0 rfl) ?_
  refine lv_iconst (v := 0) hx hb dX12_load_1 (by decide) ?_
  refine va_put (D := (dC, dI)) (ci := 14) (v := .int 0) (ty := .int) (C := RX12) (T := TX12) (N := 21) hx hb hg inG12 tyX12 tyX12_ok nmX12 hown hK hP hD hS 0 rfl rfl 15 (by decide) (hg _ wF_X12_55) (fun _ h9 => h9) rfl (by decide +kernel) rfl rfl (Nat.le_of_ble_eq_true rfl) dX12_load_2 (fun H locs hP hD hS => ?_)
  have hP : va_P (dC, dI) vwCl (rW g ty Y pa kp ks (I.1, I.2.1, I.2.2.1, I.2.2.2.1, I.2.2.2.2.1, 0) tl ac wr tw) H := hP
  have hD : va_D A (rW g ty Y pa kp ks (I.1, I.2.1, I.2.2.1, I.2.2.2.1, I.2.2.2.2.1, 0) tl ac wr tw) := hD
  refine lv_iload_n hx hb dX12_load_5 rfl (lv_at hl 1 rfl) ?_
  refine lv_if_lt (tgt := 16) hx hb dX12_load_6 (by decide) (fun c_1 => ?_) (fun c_1 => ?_)
  · show _
    refine lv_aload_n hx hb dX12_load_16 rfl (lv_at hl 0 rfl) ?_
    refine lv_iconst (v := 1) hx hb dX12_load_17 (by decide) ?_
    refine va_put (D := (dC, dI)) (ci := 14) (v := .int 1) (ty := .int) (C := RX12) (T := TX12) (N := 21) hx hb hg inG12 tyX12 tyX12_ok nmX12 hown hK hP hD hS 0 rfl rfl 15 (by decide) (hg _ wF_X12_55) (fun _ h9 => h9) rfl (by decide +kernel) rfl rfl (Nat.le_of_ble_eq_true rfl) dX12_load_18 (fun H locs hP hD hS => ?_)
    have hP : va_P (dC, dI) vwCl (rW g ty Y pa kp ks (I.1, I.2.1, I.2.2.1, I.2.2.2.1, I.2.2.2.2.1, 1) tl ac wr tw) H := hP
    have hD : va_D A (rW g ty Y pa kp ks (I.1, I.2.1, I.2.2.1, I.2.2.2.1, I.2.2.2.2.1, 1) tl ac wr tw) := hD
    refine lv_iconst (v := 0) hx hb dX12_load_21 (by decide) ?_
    refine cr_i (wo := fun u : rI => rW g ty Y pa kp ks u tl ac wr tw) ((I.1, I.2.1, I.2.2.1, I.2.2.2.1, I.2.2.2.2.1, 1)) hx hb hr hlk hS hP hD ?_ dX12_load_22
    first | exact Or.inl ⟨rfl, rfl, (by first | assumption | exact Or.inl (by assumption) | exact Or.inr (by assumption))⟩ | exact Or.inr ⟨rfl, rfl, (by first | assumption | exact Or.inl (by assumption) | exact Or.inr (by assumption)), (by first | assumption | exact Or.inl (by assumption) | exact Or.inr (by assumption))⟩
  · show _
    refine lv_iload_n hx hb dX12_load_9 rfl (lv_at hl 1 rfl) ?_
    refine lv_sipush (v := 255) hx hb dX12_load_10 (by decide) ?_
    refine lv_icmp_le (tgt := 23) hx hb dX12_load_13 (by decide) (fun c_2 => ?_) (fun c_2 => ?_)
    · show _
      refine lv_aload_n hx hb dX12_load_23 rfl (lv_at hl 0 rfl) ?_
      refine va_get (D := (dC, dI)) (ci := 14) (v := .ref (g 10)) (C := RX12) (T := TX12) (N := 21) hx hb hg inG12 hown hK hP 0 rfl rfl 9 (by decide) (hg _ wF_X12_37) (fun _ h9 => h9) rfl dX12_load_24 ?_
      refine lv_iload_n hx hb dX12_load_27 rfl (lv_at hl 1 rfl) ?_
      refine lv_iload_n hx hb dX12_load_28 rfl (lv_at hl 2 rfl) ?_
      refine va_iast hx hb hK hP hD hS 8 0 rfl rfl (by exact ld_in (by assumption) (by assumption)) dX12_load_29 (fun H locs hP hD hS => ?_)
      have hP : va_P (dC, dI) vwCl (rW g ty Y pa kp ks ((upd I.1 i0.toNatClampNeg w0), I.2.1, I.2.2.1, I.2.2.2.1, I.2.2.2.2.1, 0) tl ac wr tw) H := hP
      have hD : va_D A (rW g ty Y pa kp ks ((upd I.1 i0.toNatClampNeg w0), I.2.1, I.2.2.1, I.2.2.2.1, I.2.2.2.2.1, 0) tl ac wr tw) := hD
      refine lv_aload_n hx hb dX12_load_30 rfl (lv_at hl 0 rfl) ?_
      refine va_get (D := (dC, dI)) (ci := 14) (v := .ref (g 11)) (C := RX12) (T := TX12) (N := 21) hx hb hg inG12 hown hK hP 0 rfl rfl 10 (by decide) (hg _ wF_X12_40) (fun _ h9 => h9) rfl dX12_load_31 ?_
      refine lv_iload_n hx hb dX12_load_34 rfl (lv_at hl 1 rfl) ?_
      refine lv_iload_n hx hb dX12_load_35 rfl (lv_at hl 3 rfl) ?_
      refine va_iast hx hb hK hP hD hS 9 0 rfl rfl (by exact ld_in (by assumption) (by assumption)) dX12_load_36 (fun H locs hP hD hS => ?_)
      have hP : va_P (dC, dI) vwCl (rW g ty Y pa kp ks ((upd I.1 i0.toNatClampNeg w0), (upd I.2.1 i0.toNatClampNeg a0), I.2.2.1, I.2.2.2.1, I.2.2.2.2.1, 0) tl ac wr tw) H := hP
      have hD : va_D A (rW g ty Y pa kp ks ((upd I.1 i0.toNatClampNeg w0), (upd I.2.1 i0.toNatClampNeg a0), I.2.2.1, I.2.2.2.1, I.2.2.2.2.1, 0) tl ac wr tw) := hD
      refine lv_aload_n hx hb dX12_load_37 rfl (lv_at hl 0 rfl) ?_
      refine va_get (D := (dC, dI)) (ci := 14) (v := .ref (g 12)) (C := RX12) (T := TX12) (N := 21) hx hb hg inG12 hown hK hP 0 rfl rfl 11 (by decide) (hg _ wF_X12_43) (fun _ h9 => h9) rfl dX12_load_38 ?_
      refine lv_iload_n hx hb dX12_load_41 rfl (lv_at hl 1 rfl) ?_
      refine lv_iload hx hb dX12_load_42 (lv_at hl 4 rfl) ?_
      refine va_iast hx hb hK hP hD hS 10 0 rfl rfl (by exact ld_in (by assumption) (by assumption)) dX12_load_44 (fun H locs hP hD hS => ?_)
      have hP : va_P (dC, dI) vwCl (rW g ty Y pa kp ks ((upd I.1 i0.toNatClampNeg w0), (upd I.2.1 i0.toNatClampNeg a0), (upd I.2.2.1 i0.toNatClampNeg b0), I.2.2.2.1, I.2.2.2.2.1, 0) tl ac wr tw) H := hP
      have hD : va_D A (rW g ty Y pa kp ks ((upd I.1 i0.toNatClampNeg w0), (upd I.2.1 i0.toNatClampNeg a0), (upd I.2.2.1 i0.toNatClampNeg b0), I.2.2.2.1, I.2.2.2.2.1, 0) tl ac wr tw) := hD
      refine lv_aload_n hx hb dX12_load_45 rfl (lv_at hl 0 rfl) ?_
      refine va_get (D := (dC, dI)) (ci := 14) (v := .ref (g 13)) (C := RX12) (T := TX12) (N := 21) hx hb hg inG12 hown hK hP 0 rfl rfl 12 (by decide) (hg _ wF_X12_46) (fun _ h9 => h9) rfl dX12_load_46 ?_
      refine lv_iload_n hx hb dX12_load_49 rfl (lv_at hl 1 rfl) ?_
      refine lv_iload hx hb dX12_load_50 (lv_at hl 5 rfl) ?_
      refine va_iast hx hb hK hP hD hS 11 0 rfl rfl (by exact ld_in (by assumption) (by assumption)) dX12_load_52 (fun H locs hP hD hS => ?_)
      have hP : va_P (dC, dI) vwCl (rW g ty Y pa kp ks ((upd I.1 i0.toNatClampNeg w0), (upd I.2.1 i0.toNatClampNeg a0), (upd I.2.2.1 i0.toNatClampNeg b0), (upd I.2.2.2.1 i0.toNatClampNeg c0), I.2.2.2.2.1, 0) tl ac wr tw) H := hP
      have hD : va_D A (rW g ty Y pa kp ks ((upd I.1 i0.toNatClampNeg w0), (upd I.2.1 i0.toNatClampNeg a0), (upd I.2.2.1 i0.toNatClampNeg b0), (upd I.2.2.2.1 i0.toNatClampNeg c0), I.2.2.2.2.1, 0) tl ac wr tw) := hD
      refine lv_iload_n hx hb dX12_load_53 rfl (lv_at hl 1 rfl) ?_
      refine cr_i (wo := fun u : rI => rW g ty Y pa kp ks u tl ac wr tw) (((upd I.1 i0.toNatClampNeg w0), (upd I.2.1 i0.toNatClampNeg a0), (upd I.2.2.1 i0.toNatClampNeg b0), (upd I.2.2.2.1 i0.toNatClampNeg c0), I.2.2.2.2.1, 0)) hx hb hr hlk hS hP hD ?_ dX12_load_54
      first | exact Or.inl ⟨rfl, rfl, (by first | assumption | exact Or.inl (by assumption) | exact Or.inr (by assumption))⟩ | exact Or.inr ⟨rfl, rfl, (by first | assumption | exact Or.inl (by assumption) | exact Or.inr (by assumption)), (by first | assumption | exact Or.inl (by assumption) | exact Or.inr (by assumption))⟩
    · show _
      refine lv_aload_n hx hb dX12_load_16 rfl (lv_at hl 0 rfl) ?_
      refine lv_iconst (v := 1) hx hb dX12_load_17 (by decide) ?_
      refine va_put (D := (dC, dI)) (ci := 14) (v := .int 1) (ty := .int) (C := RX12) (T := TX12) (N := 21) hx hb hg inG12 tyX12 tyX12_ok nmX12 hown hK hP hD hS 0 rfl rfl 15 (by decide) (hg _ wF_X12_55) (fun _ h9 => h9) rfl (by decide +kernel) rfl rfl (Nat.le_of_ble_eq_true rfl) dX12_load_18 (fun H locs hP hD hS => ?_)
      have hP : va_P (dC, dI) vwCl (rW g ty Y pa kp ks (I.1, I.2.1, I.2.2.1, I.2.2.2.1, I.2.2.2.2.1, 1) tl ac wr tw) H := hP
      have hD : va_D A (rW g ty Y pa kp ks (I.1, I.2.1, I.2.2.1, I.2.2.2.1, I.2.2.2.2.1, 1) tl ac wr tw) := hD
      refine lv_iconst (v := 0) hx hb dX12_load_21 (by decide) ?_
      refine cr_i (wo := fun u : rI => rW g ty Y pa kp ks u tl ac wr tw) ((I.1, I.2.1, I.2.2.1, I.2.2.2.1, I.2.2.2.2.1, 1)) hx hb hr hlk hS hP hD ?_ dX12_load_22
      first | exact Or.inl ⟨rfl, rfl, (by first | assumption | exact Or.inl (by assumption) | exact Or.inr (by assumption))⟩ | exact Or.inr ⟨rfl, rfl, (by first | assumption | exact Or.inl (by assumption) | exact Or.inr (by assumption)), (by first | assumption | exact Or.inl (by assumption) | exact Or.inr (by assumption))⟩
set_option maxHeartbeats 800000 in
set_option maxRecDepth 100000 in
theorem c_X12_count (l : Launch) (dC : Nat → ClassId) (dI : Nat → Nat → Nat) (g : Nat → Nat) (ty : Nat → ClassId) (sz : Nat) (Y : rY) (pa : Nat → Int32) (kp : Nat → Int32) (ks : Int32) (I : rI) (tl : Nat → Int32) (ac : Int64) (wr : Int32) (tw : Int32) (w0 : Int32) : Met l yX12_count (Cond.code yX12_count cX12_count 2 (some .int) :: gT) ({ frames := 0, cells := 0, slots := 0, locals := 0 }) (cP (dC, dI) (rTy ty) (rW g ty Y pa kp ks I tl ac wr tw) sz [.ref (g 8), .int w0]) (va_Qi (fun (rz : Int32) (u : rI) => ((-1) = rz ∧ (I.1, I.2.1, I.2.2.1, I.2.2.2.1, I.2.2.2.2.1, 0) = u ∧ (w0 < 0 ∨ ¬ w0 ≤ 5)) ∨ ((tl w0.toNatClampNeg) = rz ∧ (I.1, I.2.1, I.2.2.1, I.2.2.2.1, I.2.2.2.2.1, 0) = u ∧ ¬ w0 < 0 ∧ w0 ≤ 5)) (cB (dC, dI) (fun u : rI => rW g ty Y pa kp ks u tl ac wr tw) (va_A (rW g ty Y pa kp ks I tl ac wr tw) sz)) (va_A (rW g ty Y pa kp ks I tl ac wr tw) sz)) 0 0 (va_A (rW g ty Y pa kp ks I tl ac wr tw) sz) := by
  refine cc_of (Qa := fun A => va_Qi (fun (rz : Int32) (u : rI) => ((-1) = rz ∧ (I.1, I.2.1, I.2.2.1, I.2.2.2.1, I.2.2.2.2.1, 0) = u ∧ (w0 < 0 ∨ ¬ w0 ≤ 5)) ∨ ((tl w0.toNatClampNeg) = rz ∧ (I.1, I.2.1, I.2.2.1, I.2.2.2.1, I.2.2.2.2.1, 0) = u ∧ ¬ w0 < 0 ∧ w0 ≤ 5)) (cB (dC, dI) (fun u : rI => rW g ty Y pa kp ks u tl ac wr tw) A) A) (by decide) (Nat.le_of_ble_eq_true rfl) ?_
  intro p e s m below meth c A hx hb hr hml hown hg hlk hmn hP hK hD hT hS hA hsz ls hl
  have hown : s.vm.findClass RX12 = some m.cls := hown
  have hl : lv_has ls 2 [(0, .ref (g 8)), (1, .int w0)] := hl
  refine lv_aload_n hx hb dX12_count_0 rfl (lv_at hl 0 rfl) ?_
  refine lv_iconst (v := 0) hx hb dX12_count_1 (by decide) ?_
  refine va_put (D := (dC, dI)) (ci := 14) (v := .int 0) (ty := .int) (C := RX12) (T := TX12) (N := 21) hx hb hg inG12 tyX12 tyX12_ok nmX12 hown hK hP hD hS 0 rfl rfl 15 (by decide) (hg _ wF_X12_55) (fun _ h9 => h9) rfl (by decide +kernel) rfl rfl (Nat.le_of_ble_eq_true rfl) dX12_count_2 (fun H locs hP hD hS => ?_)
  have hP : va_P (dC, dI) vwCl (rW g ty Y pa kp ks (I.1, I.2.1, I.2.2.1, I.2.2.2.1, I.2.2.2.2.1, 0) tl ac wr tw) H := hP
  have hD : va_D A (rW g ty Y pa kp ks (I.1, I.2.1, I.2.2.1, I.2.2.2.1, I.2.2.2.2.1, 0) tl ac wr tw) := hD
  refine lv_iload_n hx hb dX12_count_5 rfl (lv_at hl 1 rfl) ?_
  refine lv_if_lt (tgt := 14) hx hb dX12_count_6 (by decide) (fun c_1 => ?_) (fun c_1 => ?_)
  · show _
    refine lv_iconst (v := (-1)) hx hb dX12_count_14 (by decide) ?_
    refine lv_goto (tgt := 24) hx hb dX12_count_15 (by decide) ?_
    refine cr_i (wo := fun u : rI => rW g ty Y pa kp ks u tl ac wr tw) ((I.1, I.2.1, I.2.2.1, I.2.2.2.1, I.2.2.2.2.1, 0)) hx hb hr hlk hS hP hD ?_ dX12_count_24
    first | exact Or.inl ⟨rfl, rfl, (by first | assumption | exact Or.inl (by assumption) | exact Or.inr (by assumption))⟩ | exact Or.inr ⟨rfl, rfl, (by first | assumption | exact Or.inl (by assumption) | exact Or.inr (by assumption)), (by first | assumption | exact Or.inl (by assumption) | exact Or.inr (by assumption))⟩
  · show _
    refine lv_iload_n hx hb dX12_count_9 rfl (lv_at hl 1 rfl) ?_
    refine lv_iconst (v := 5) hx hb dX12_count_10 (by decide) ?_
    refine lv_icmp_le (tgt := 18) hx hb dX12_count_11 (by decide) (fun c_2 => ?_) (fun c_2 => ?_)
    · show _
      refine lv_aload_n hx hb dX12_count_18 rfl (lv_at hl 0 rfl) ?_
      refine va_get (D := (dC, dI)) (ci := 14) (v := .ref (g 14)) (C := RX12) (T := TX12) (N := 21) hx hb hg inG12 hown hK hP 0 rfl rfl 17 (by decide) (hg _ wF_X12_49) (fun _ h9 => h9) rfl dX12_count_19 ?_
      refine lv_iload_n hx hb dX12_count_22 rfl (lv_at hl 1 rfl) ?_
      refine va_iald hx hb hK hP 12 0 rfl rfl (by exact ct_in (by assumption) (by assumption)) dX12_count_23 ?_
      refine cr_i (wo := fun u : rI => rW g ty Y pa kp ks u tl ac wr tw) ((I.1, I.2.1, I.2.2.1, I.2.2.2.1, I.2.2.2.2.1, 0)) hx hb hr hlk hS hP hD ?_ dX12_count_24
      first | exact Or.inl ⟨rfl, rfl, (by first | assumption | exact Or.inl (by assumption) | exact Or.inr (by assumption))⟩ | exact Or.inr ⟨rfl, rfl, (by first | assumption | exact Or.inl (by assumption) | exact Or.inr (by assumption)), (by first | assumption | exact Or.inl (by assumption) | exact Or.inr (by assumption))⟩
    · show _
      refine lv_iconst (v := (-1)) hx hb dX12_count_14 (by decide) ?_
      refine lv_goto (tgt := 24) hx hb dX12_count_15 (by decide) ?_
      refine cr_i (wo := fun u : rI => rW g ty Y pa kp ks u tl ac wr tw) ((I.1, I.2.1, I.2.2.1, I.2.2.2.1, I.2.2.2.2.1, 0)) hx hb hr hlk hS hP hD ?_ dX12_count_24
      first | exact Or.inl ⟨rfl, rfl, (by first | assumption | exact Or.inl (by assumption) | exact Or.inr (by assumption))⟩ | exact Or.inr ⟨rfl, rfl, (by first | assumption | exact Or.inl (by assumption) | exact Or.inr (by assumption)), (by first | assumption | exact Or.inl (by assumption) | exact Or.inr (by assumption))⟩
set_option maxHeartbeats 800000 in
set_option maxRecDepth 100000 in
theorem c_X12_takes (l : Launch) (dC : Nat → ClassId) (dI : Nat → Nat → Nat) (g : Nat → Nat) (ty : Nat → ClassId) (sz : Nat) (Y : rY) (pa : Nat → Int32) (kp : Nat → Int32) (ks : Int32) (I : rI) (tl : Nat → Int32) (ac : Int64) (wr : Int32) (tw : Int32) (k0 : Int32) (s0 : Int32) : Met l yX12_takes (Cond.code yX12_takes cX12_takes 2 (some .boolean) :: gT) ({ frames := 0, cells := 0, slots := 0, locals := 0 }) (cP (dC, dI) (rTy ty) (rW g ty Y pa kp ks I tl ac wr tw) sz [.int k0, .int s0]) (va_Qi (fun (rz : Int32) (u : Unit) => (rTk k0 s0) = rz) (cB (dC, dI) (fun u : Unit => rW g ty Y pa kp ks I tl ac wr tw) (va_A (rW g ty Y pa kp ks I tl ac wr tw) sz)) (va_A (rW g ty Y pa kp ks I tl ac wr tw) sz)) 0 0 (va_A (rW g ty Y pa kp ks I tl ac wr tw) sz) := by
  refine cc_of (Qa := fun A => va_Qi (fun (rz : Int32) (u : Unit) => (rTk k0 s0) = rz) (cB (dC, dI) (fun u : Unit => rW g ty Y pa kp ks I tl ac wr tw) A) A) (by decide) (Nat.le_of_ble_eq_true rfl) ?_
  intro p e s m below meth c A hx hb hr hml hown hg hlk hmn hP hK hD hT hS hA hsz ls hl
  have hown : s.vm.findClass RX12 = some m.cls := hown
  have hl : lv_has ls 2 [(0, .int k0), (1, .int s0)] := hl
  refine lv_iload_n hx hb dX12_takes_0 rfl (lv_at hl 0 rfl) ?_
  refine lv_iconst (v := 4) hx hb dX12_takes_1 (by decide) ?_
  refine lv_icmp_eq (tgt := 42) hx hb dX12_takes_2 (by decide) (fun c_1 => ?_) (fun c_1 => ?_)
  · show _
    refine lv_iconst (v := 1) hx hb dX12_takes_42 (by decide) ?_
    refine lv_goto (tgt := 47) hx hb dX12_takes_43 (by decide) ?_
    refine cr_z (wo := fun u : Unit => rW g ty Y pa kp ks I tl ac wr tw) (()) hx hb hr hlk hS hP hD rfl ?_ dX12_takes_47
    exact (by first | rfl | (simp only [rTk, c_1, if_true, if_false]; done) | (simp only [rTk, c_1, if_true, if_false]; rfl) | (simp [rTk, c_1]; done) | (simp_all [rTk]; done))
  · show _
    refine lv_iload_n hx hb dX12_takes_5 rfl (lv_at hl 0 rfl) ?_
    refine lv_bipush (v := 7) hx hb dX12_takes_6 (by decide) ?_
    refine lv_icmp_ne (tgt := 17) hx hb dX12_takes_8 (by decide) (fun c_2 => ?_) (fun c_2 => ?_)
    · show _
      refine lv_iload_n hx hb dX12_takes_17 rfl (lv_at hl 0 rfl) ?_
      refine lv_iconst (v := 3) hx hb dX12_takes_18 (by decide) ?_
      refine lv_icmp_ne (tgt := 32) hx hb dX12_takes_19 (by decide) (fun c_3 => ?_) (fun c_3 => ?_)
      · show _
        refine lv_iload_n hx hb dX12_takes_32 rfl (lv_at hl 0 rfl) ?_
        refine lv_iconst (v := 2) hx hb dX12_takes_33 (by decide) ?_
        refine lv_icmp_gt (tgt := 46) hx hb dX12_takes_34 (by decide) (fun c_4 => ?_) (fun c_4 => ?_)
        · show _
          refine lv_iconst (v := 0) hx hb dX12_takes_46 (by decide) ?_
          refine cr_z (wo := fun u : Unit => rW g ty Y pa kp ks I tl ac wr tw) (()) hx hb hr hlk hS hP hD rfl ?_ dX12_takes_47
          exact (by first | rfl | (simp only [rTk, c_1, c_2, c_3, c_4, if_true, if_false]; done) | (simp only [rTk, c_1, c_2, c_3, c_4, if_true, if_false]; rfl) | (simp [rTk, c_1, c_2, c_3, c_4]; done) | (simp_all [rTk]; done))
        · show _
          refine lv_iload_n hx hb dX12_takes_37 rfl (lv_at hl 0 rfl) ?_
          refine lv_iload_n hx hb dX12_takes_38 rfl (lv_at hl 1 rfl) ?_
          refine lv_icmp_ne (tgt := 46) hx hb dX12_takes_39 (by decide) (fun c_5 => ?_) (fun c_5 => ?_)
          · show _
            refine lv_iconst (v := 0) hx hb dX12_takes_46 (by decide) ?_
            refine cr_z (wo := fun u : Unit => rW g ty Y pa kp ks I tl ac wr tw) (()) hx hb hr hlk hS hP hD rfl ?_ dX12_takes_47
            exact (by first | rfl | (simp only [rTk, c_1, c_2, c_3, c_4, c_5, if_true, if_false]; done) | (simp only [rTk, c_1, c_2, c_3, c_4, c_5, if_true, if_false]; rfl) | (simp [rTk, c_1, c_2, c_3, c_4, c_5]; done) | (simp_all [rTk]; done))
          · show _
            refine lv_iconst (v := 1) hx hb dX12_takes_42 (by decide) ?_
            refine lv_goto (tgt := 47) hx hb dX12_takes_43 (by decide) ?_
            refine cr_z (wo := fun u : Unit => rW g ty Y pa kp ks I tl ac wr tw) (()) hx hb hr hlk hS hP hD rfl ?_ dX12_takes_47
            exact (by first | rfl | (simp only [rTk, c_1, c_2, c_3, c_4, c_5, if_true, if_false]; done) | (simp only [rTk, c_1, c_2, c_3, c_4, c_5, if_true, if_false]; rfl) | (simp [rTk, c_1, c_2, c_3, c_4, c_5]; done) | (simp_all [rTk]; done))
      · show _
        refine lv_iload_n hx hb dX12_takes_22 rfl (lv_at hl 1 rfl) ?_
        refine lv_iconst (v := 3) hx hb dX12_takes_23 (by decide) ?_
        refine lv_icmp_eq (tgt := 42) hx hb dX12_takes_24 (by decide) (fun c_6 => ?_) (fun c_6 => ?_)
        · show _
          refine lv_iconst (v := 1) hx hb dX12_takes_42 (by decide) ?_
          refine lv_goto (tgt := 47) hx hb dX12_takes_43 (by decide) ?_
          refine cr_z (wo := fun u : Unit => rW g ty Y pa kp ks I tl ac wr tw) (()) hx hb hr hlk hS hP hD rfl ?_ dX12_takes_47
          exact (by first | rfl | (simp only [rTk, c_1, c_2, c_3, c_6, if_true, if_false]; done) | (simp only [rTk, c_1, c_2, c_3, c_6, if_true, if_false]; rfl) | (simp [rTk, c_1, c_2, c_3, c_6]; done) | (simp_all [rTk]; done))
        · show _
          refine lv_iload_n hx hb dX12_takes_27 rfl (lv_at hl 1 rfl) ?_
          refine lv_iconst (v := 5) hx hb dX12_takes_28 (by decide) ?_
          refine lv_icmp_eq (tgt := 42) hx hb dX12_takes_29 (by decide) (fun c_7 => ?_) (fun c_7 => ?_)
          · show _
            refine lv_iconst (v := 1) hx hb dX12_takes_42 (by decide) ?_
            refine lv_goto (tgt := 47) hx hb dX12_takes_43 (by decide) ?_
            refine cr_z (wo := fun u : Unit => rW g ty Y pa kp ks I tl ac wr tw) (()) hx hb hr hlk hS hP hD rfl ?_ dX12_takes_47
            exact (by first | rfl | (simp only [rTk, c_1, c_2, c_3, c_6, c_7, if_true, if_false]; done) | (simp only [rTk, c_1, c_2, c_3, c_6, c_7, if_true, if_false]; rfl) | (simp [rTk, c_1, c_2, c_3, c_6, c_7]; done) | (simp_all [rTk]; done))
          · show _
            refine lv_iload_n hx hb dX12_takes_32 rfl (lv_at hl 0 rfl) ?_
            refine lv_iconst (v := 2) hx hb dX12_takes_33 (by decide) ?_
            refine lv_icmp_gt (tgt := 46) hx hb dX12_takes_34 (by decide) (fun c_8 => ?_) (fun c_8 => ?_)
            · show _
              refine lv_iconst (v := 0) hx hb dX12_takes_46 (by decide) ?_
              refine cr_z (wo := fun u : Unit => rW g ty Y pa kp ks I tl ac wr tw) (()) hx hb hr hlk hS hP hD rfl ?_ dX12_takes_47
              exact (by first | rfl | (simp only [rTk, c_1, c_2, c_3, c_6, c_7, c_8, if_true, if_false]; done) | (simp only [rTk, c_1, c_2, c_3, c_6, c_7, c_8, if_true, if_false]; rfl) | (simp [rTk, c_1, c_2, c_3, c_6, c_7, c_8]; done) | (simp_all [rTk]; done))
            · show _
              refine lv_iload_n hx hb dX12_takes_37 rfl (lv_at hl 0 rfl) ?_
              refine lv_iload_n hx hb dX12_takes_38 rfl (lv_at hl 1 rfl) ?_
              refine lv_icmp_ne (tgt := 46) hx hb dX12_takes_39 (by decide) (fun c_9 => ?_) (fun c_9 => ?_)
              · show _
                refine lv_iconst (v := 0) hx hb dX12_takes_46 (by decide) ?_
                refine cr_z (wo := fun u : Unit => rW g ty Y pa kp ks I tl ac wr tw) (()) hx hb hr hlk hS hP hD rfl ?_ dX12_takes_47
                exact (by first | rfl | (simp only [rTk, c_1, c_2, c_3, c_6, c_7, c_8, c_9, if_true, if_false]; done) | (simp only [rTk, c_1, c_2, c_3, c_6, c_7, c_8, c_9, if_true, if_false]; rfl) | (simp [rTk, c_1, c_2, c_3, c_6, c_7, c_8, c_9]; done) | (simp_all [rTk]; done))
              · show _
                refine lv_iconst (v := 1) hx hb dX12_takes_42 (by decide) ?_
                refine lv_goto (tgt := 47) hx hb dX12_takes_43 (by decide) ?_
                refine cr_z (wo := fun u : Unit => rW g ty Y pa kp ks I tl ac wr tw) (()) hx hb hr hlk hS hP hD rfl ?_ dX12_takes_47
                exact (by first | rfl | (simp only [rTk, c_1, c_2, c_3, c_6, c_7, c_8, c_9, if_true, if_false]; done) | (simp only [rTk, c_1, c_2, c_3, c_6, c_7, c_8, c_9, if_true, if_false]; rfl) | (simp [rTk, c_1, c_2, c_3, c_6, c_7, c_8, c_9]; done) | (simp_all [rTk]; done))
    · show _
      refine lv_iload_n hx hb dX12_takes_11 rfl (lv_at hl 1 rfl) ?_
      refine lv_bipush (v := 6) hx hb dX12_takes_12 (by decide) ?_
      refine lv_icmp_eq (tgt := 42) hx hb dX12_takes_14 (by decide) (fun c_10 => ?_) (fun c_10 => ?_)
      · show _
        refine lv_iconst (v := 1) hx hb dX12_takes_42 (by decide) ?_
        refine lv_goto (tgt := 47) hx hb dX12_takes_43 (by decide) ?_
        refine cr_z (wo := fun u : Unit => rW g ty Y pa kp ks I tl ac wr tw) (()) hx hb hr hlk hS hP hD rfl ?_ dX12_takes_47
        exact (by first | rfl | (simp only [rTk, c_1, c_2, c_10, if_true, if_false]; done) | (simp only [rTk, c_1, c_2, c_10, if_true, if_false]; rfl) | (simp [rTk, c_1, c_2, c_10]; done) | (simp_all [rTk]; done))
      · show _
        refine lv_iload_n hx hb dX12_takes_17 rfl (lv_at hl 0 rfl) ?_
        refine lv_iconst (v := 3) hx hb dX12_takes_18 (by decide) ?_
        refine lv_icmp_ne (tgt := 32) hx hb dX12_takes_19 (by decide) (fun c_11 => ?_) (fun c_11 => ?_)
        · show _
          refine lv_iload_n hx hb dX12_takes_32 rfl (lv_at hl 0 rfl) ?_
          refine lv_iconst (v := 2) hx hb dX12_takes_33 (by decide) ?_
          refine lv_icmp_gt (tgt := 46) hx hb dX12_takes_34 (by decide) (fun c_12 => ?_) (fun c_12 => ?_)
          · show _
            refine lv_iconst (v := 0) hx hb dX12_takes_46 (by decide) ?_
            refine cr_z (wo := fun u : Unit => rW g ty Y pa kp ks I tl ac wr tw) (()) hx hb hr hlk hS hP hD rfl ?_ dX12_takes_47
            exact (by first | rfl | (simp only [rTk, c_1, c_2, c_10, c_11, c_12, if_true, if_false]; done) | (simp only [rTk, c_1, c_2, c_10, c_11, c_12, if_true, if_false]; rfl) | (simp [rTk, c_1, c_2, c_10, c_11, c_12]; done) | (simp_all [rTk]; done))
          · show _
            refine lv_iload_n hx hb dX12_takes_37 rfl (lv_at hl 0 rfl) ?_
            refine lv_iload_n hx hb dX12_takes_38 rfl (lv_at hl 1 rfl) ?_
            refine lv_icmp_ne (tgt := 46) hx hb dX12_takes_39 (by decide) (fun c_13 => ?_) (fun c_13 => ?_)
            · show _
              refine lv_iconst (v := 0) hx hb dX12_takes_46 (by decide) ?_
              refine cr_z (wo := fun u : Unit => rW g ty Y pa kp ks I tl ac wr tw) (()) hx hb hr hlk hS hP hD rfl ?_ dX12_takes_47
              exact (by first | rfl | (simp only [rTk, c_1, c_2, c_10, c_11, c_12, c_13, if_true, if_false]; done) | (simp only [rTk, c_1, c_2, c_10, c_11, c_12, c_13, if_true, if_false]; rfl) | (simp [rTk, c_1, c_2, c_10, c_11, c_12, c_13]; done) | (simp_all [rTk]; done))
            · show _
              refine lv_iconst (v := 1) hx hb dX12_takes_42 (by decide) ?_
              refine lv_goto (tgt := 47) hx hb dX12_takes_43 (by decide) ?_
              refine cr_z (wo := fun u : Unit => rW g ty Y pa kp ks I tl ac wr tw) (()) hx hb hr hlk hS hP hD rfl ?_ dX12_takes_47
              exact (by first | rfl | (simp only [rTk, c_1, c_2, c_10, c_11, c_12, c_13, if_true, if_false]; done) | (simp only [rTk, c_1, c_2, c_10, c_11, c_12, c_13, if_true, if_false]; rfl) | (simp [rTk, c_1, c_2, c_10, c_11, c_12, c_13]; done) | (simp_all [rTk]; done))
        · show _
          refine lv_iload_n hx hb dX12_takes_22 rfl (lv_at hl 1 rfl) ?_
          refine lv_iconst (v := 3) hx hb dX12_takes_23 (by decide) ?_
          refine lv_icmp_eq (tgt := 42) hx hb dX12_takes_24 (by decide) (fun c_14 => ?_) (fun c_14 => ?_)
          · show _
            refine lv_iconst (v := 1) hx hb dX12_takes_42 (by decide) ?_
            refine lv_goto (tgt := 47) hx hb dX12_takes_43 (by decide) ?_
            refine cr_z (wo := fun u : Unit => rW g ty Y pa kp ks I tl ac wr tw) (()) hx hb hr hlk hS hP hD rfl ?_ dX12_takes_47
            exact (by first | rfl | (simp only [rTk, c_1, c_2, c_10, c_11, c_14, if_true, if_false]; done) | (simp only [rTk, c_1, c_2, c_10, c_11, c_14, if_true, if_false]; rfl) | (simp [rTk, c_1, c_2, c_10, c_11, c_14]; done) | (simp_all [rTk]; done))
          · show _
            refine lv_iload_n hx hb dX12_takes_27 rfl (lv_at hl 1 rfl) ?_
            refine lv_iconst (v := 5) hx hb dX12_takes_28 (by decide) ?_
            refine lv_icmp_eq (tgt := 42) hx hb dX12_takes_29 (by decide) (fun c_15 => ?_) (fun c_15 => ?_)
            · show _
              refine lv_iconst (v := 1) hx hb dX12_takes_42 (by decide) ?_
              refine lv_goto (tgt := 47) hx hb dX12_takes_43 (by decide) ?_
              refine cr_z (wo := fun u : Unit => rW g ty Y pa kp ks I tl ac wr tw) (()) hx hb hr hlk hS hP hD rfl ?_ dX12_takes_47
              exact (by first | rfl | (simp only [rTk, c_1, c_2, c_10, c_11, c_14, c_15, if_true, if_false]; done) | (simp only [rTk, c_1, c_2, c_10, c_11, c_14, c_15, if_true, if_false]; rfl) | (simp [rTk, c_1, c_2, c_10, c_11, c_14, c_15]; done) | (simp_all [rTk]; done))
            · show _
              refine lv_iload_n hx hb dX12_takes_32 rfl (lv_at hl 0 rfl) ?_
              refine lv_iconst (v := 2) hx hb dX12_takes_33 (by decide) ?_
              refine lv_icmp_gt (tgt := 46) hx hb dX12_takes_34 (by decide) (fun c_16 => ?_) (fun c_16 => ?_)
              · show _
                refine lv_iconst (v := 0) hx hb dX12_takes_46 (by decide) ?_
                refine cr_z (wo := fun u : Unit => rW g ty Y pa kp ks I tl ac wr tw) (()) hx hb hr hlk hS hP hD rfl ?_ dX12_takes_47
                exact (by first | rfl | (simp only [rTk, c_1, c_2, c_10, c_11, c_14, c_15, c_16, if_true, if_false]; done) | (simp only [rTk, c_1, c_2, c_10, c_11, c_14, c_15, c_16, if_true, if_false]; rfl) | (simp [rTk, c_1, c_2, c_10, c_11, c_14, c_15, c_16]; done) | (simp_all [rTk]; done))
              · show _
                refine lv_iload_n hx hb dX12_takes_37 rfl (lv_at hl 0 rfl) ?_
                refine lv_iload_n hx hb dX12_takes_38 rfl (lv_at hl 1 rfl) ?_
                refine lv_icmp_ne (tgt := 46) hx hb dX12_takes_39 (by decide) (fun c_17 => ?_) (fun c_17 => ?_)
                · show _
                  refine lv_iconst (v := 0) hx hb dX12_takes_46 (by decide) ?_
                  refine cr_z (wo := fun u : Unit => rW g ty Y pa kp ks I tl ac wr tw) (()) hx hb hr hlk hS hP hD rfl ?_ dX12_takes_47
                  exact (by first | rfl | (simp only [rTk, c_1, c_2, c_10, c_11, c_14, c_15, c_16, c_17, if_true, if_false]; done) | (simp only [rTk, c_1, c_2, c_10, c_11, c_14, c_15, c_16, c_17, if_true, if_false]; rfl) | (simp [rTk, c_1, c_2, c_10, c_11, c_14, c_15, c_16, c_17]; done) | (simp_all [rTk]; done))
                · show _
                  refine lv_iconst (v := 1) hx hb dX12_takes_42 (by decide) ?_
                  refine lv_goto (tgt := 47) hx hb dX12_takes_43 (by decide) ?_
                  refine cr_z (wo := fun u : Unit => rW g ty Y pa kp ks I tl ac wr tw) (()) hx hb hr hlk hS hP hD rfl ?_ dX12_takes_47
                  exact (by first | rfl | (simp only [rTk, c_1, c_2, c_10, c_11, c_14, c_15, c_16, c_17, if_true, if_false]; done) | (simp only [rTk, c_1, c_2, c_10, c_11, c_14, c_15, c_16, c_17, if_true, if_false]; rfl) | (simp [rTk, c_1, c_2, c_10, c_11, c_14, c_15, c_16, c_17]; done) | (simp_all [rTk]; done))

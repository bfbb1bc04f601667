/-- n cells from i on lie in a row of L -/
def cSp (i n : Int32) (L : Nat) : Prop := ¬ i < 0 ∧ ¬ n < 0 ∧ i.toNatClampNeg + n.toNatClampNeg ≤ L
theorem clampI {x : Int32} (h : ¬ x < 0) : (x.toNatClampNeg : Int) = x.toInt := by
  rw [Int32.lt_iff_toInt_lt, ci_0] at h
  show ((x.toInt.toNat : Nat) : Int) = x.toInt
  omega
theorem sub_small {L : Nat} {i : Int32} (hL : L < 100) (h0 : ¬ i < 0) : (Int32.ofNat L - i).toInt = (L : Int) - i.toInt := by
  have h1 : (Int32.ofNat L).toInt = (L : Int) := nI_toInt (by omega)
  have h2 := i.toInt_lt
  rw [Int32.lt_iff_toInt_lt, ci_0] at h0
  rw [Int32.toInt_sub, h1]
  exact Int.bmod_eq_of_le (by omega) (by omega)
theorem span_iff {L : Nat} {i n : Int32} (hL : L < 100) (h0 : ¬ i < 0) (h1 : ¬ n < 0) : n ≤ Int32.ofNat L - i ↔ i.toNatClampNeg + n.toNatClampNeg ≤ L := by
  rw [Int32.le_iff_toInt_le, sub_small hL h0]
  have a := clampI h0
  have b := clampI h1
  omega
theorem span_ok {L : Nat} {i n : Int32} (hL : L < 100) (h0 : ¬ i < 0) (h1 : ¬ n < 0) (h : n ≤ Int32.ofNat L - i) : i.toNatClampNeg + n.toNatClampNeg ≤ L := (span_iff hL h0 h1).mp h
theorem span_in {L : Nat} {i n : Int32} (hL : L < 100) (h0 : ¬ i < 0) (h1 : ¬ n < 0) (h : n ≤ Int32.ofNat L - i) : cSp i n L := ⟨h0, h1, span_ok hL h0 h1 h⟩
theorem span_no {L : Nat} {i n : Int32} (hL : L < 100) (h : i < 0 ∨ n < 0 ∨ ¬ n ≤ Int32.ofNat L - i) : ¬ cSp i n L := by
  rintro ⟨h0, h1, h2⟩
  rcases h with h | h | h
  · exact h0 h
  · exact h1 h
  · exact h ((span_iff hL h0 h1).mpr h2)
set_option maxHeartbeats 800000 in
set_option maxRecDepth 100000 in
theorem c_X11_weigh (l : Launch) (dC : Nat → ClassId) (dI : Nat → Nat → Nat) (g : Nat → Nat) (ty : Nat → ClassId) (sz : Nat) (pl : Nat → Option Nat) (ac : Int64) (ft : Int32) (md : Int32) (Z : cZ) (P : cQ) (a0 : Int32) (b0 : Int32) (wf : cWF pl P) : Met l yX11_weigh (Cond.code yX11_weigh cX11_weigh 5 (some .long) :: gT) ({ frames := 4, cells := 0, slots := 0, locals := 87 }) (cP (dC, dI) (cTy ty) (cW g ty pl ac ft md Z P) sz [.ref (g 0), .int a0, .int b0]) (va_Ql (fun (rz : Int64) (u : Int32) => (0 = rz ∧ 2 = u ∧ ¬ vp_in a0 32) ∨ (∃ t : Nat, 0 = rz ∧ 3 = u ∧ vp_in a0 32 ∧ pl a0.toNatClampNeg = some t ∧ kOf (P.2.1 t) (P.2.2.1 t) 12 = false) ∨ (0 = rz ∧ 1 = u ∧ vp_in a0 32 ∧ pl a0.toNatClampNeg = none) ∨ (∃ t : Nat, ((kWt (P.2.1 t) (P.2.2.1 t) b0).toInt64) = rz ∧ ft = u ∧ vp_in a0 32 ∧ pl a0.toNatClampNeg = some t ∧ kOf (P.2.1 t) (P.2.2.1 t) 12 = true)) (cB (dC, dI) (fun u : Int32 => cW g ty pl ac u md Z P) (va_A (cW g ty pl ac ft md Z P) sz)) (va_A (cW g ty pl ac ft md Z P) sz)) 0 0 (va_A (cW g ty pl ac ft md Z P) sz) := by
  refine cc_of (Qa := fun A => va_Ql (fun (rz : Int64) (u : Int32) => (0 = rz ∧ 2 = u ∧ ¬ vp_in a0 32) ∨ (∃ t : Nat, 0 = rz ∧ 3 = u ∧ vp_in a0 32 ∧ pl a0.toNatClampNeg = some t ∧ kOf (P.2.1 t) (P.2.2.1 t) 12 = false) ∨ (0 = rz ∧ 1 = u ∧ vp_in a0 32 ∧ pl a0.toNatClampNeg = none) ∨ (∃ t : Nat, ((kWt (P.2.1 t) (P.2.2.1 t) b0).toInt64) = rz ∧ ft = u ∧ vp_in a0 32 ∧ pl a0.toNatClampNeg = some t ∧ kOf (P.2.1 t) (P.2.2.1 t) 12 = true)) (cB (dC, dI) (fun u : Int32 => cW g ty pl ac u md Z P) A) A) (by decide) (Nat.le_of_ble_eq_true rfl) ?_
  intro p e s m below meth c A hx hb hr hml hown hg hlk hmn hP hK hD hT hS hA hsz ls hl
  have hown : s.vm.findClass RX11 = some m.cls := hown
  have hl : lv_has ls 5 [(0, .ref (g 0)), (1, .int a0), (2, .int b0)] := hl
  refine lv_aload_n hx hb dX11_weigh_0 rfl (lv_at hl 0 rfl) ?_
  refine lv_iload_n hx hb dX11_weigh_1 rfl (lv_at hl 1 rfl) ?_
  refine lv_bipush (v := 12) hx hb dX11_weigh_2 (by decide) ?_
  refine cV_q (C := RX11) (n := 2) (rest := []) hx hb hml hown hg hT (c_X11_needed l dC dI g ty s.heap.size pl ac ft md Z P a0 12 wf ) (cv_of hg wM_X11_276 wN_X11_needed wL_X11_X11_needed wK_X11_needed wI_X11 (by decide +kernel) ⟨Nat.le_of_ble_eq_true rfl, Nat.le_of_ble_eq_true rfl⟩) hK hP hD hS hA (va_recv hK hP (ci := 13) (q0 := 0) rfl rfl) rfl hl.1 rfl (Nat.le_of_ble_eq_true rfl) dX11_weigh_4 ⟨Nat.le_of_ble_eq_true rfl, Nat.le_of_ble_eq_true rfl⟩ (fun r_2 u_3 H locs q_1 hP hD hS => ?_)
  rcases q_1 with ⟨t_4, rfl, rfl, f_5, f_6, f_7⟩ | ⟨rfl, rfl, f_8⟩ | ⟨t_9, rfl, rfl, f_10, f_11, f_12⟩ | ⟨rfl, rfl, f_13, f_14⟩
  · show _
    have hP : va_P (dC, dI) vwCl (cW g ty pl ac ft md Z P) H := hP
    have hD : va_D A (cW g ty pl ac ft md Z P) := hD
    have th_15 := wf.1 _ _ f_6
    refine lv_astore (lv' := [(4, .ref t_4), (0, .ref (g 0)), (1, .int a0), (2, .int b0)]) hx hb dX11_weigh_7 hl (by decide) rfl (fun ls hl => ?_)
    refine lv_aload hx hb dX11_weigh_9 (lv_at hl 0 rfl) ?_
    refine cI_inst hx hb hown hT hK hP th_15.1 th_15.2 2 (by decide) (hg _ wC_X11_326) dX11_weigh_11 (fun c_16 => ?_) (fun c_16 => ?_)
    · show _
      have k_17 := cIs_2 c_16
      refine lv_if_eq (tgt := 32) hx hb dX11_weigh_14 (by decide) (fun c9 => absurd c9 (by decide)) (fun _ => ?_)
      refine lv_aload hx hb dX11_weigh_17 (lv_at hl 0 rfl) ?_
      refine cI_cast hx hb hown hT hK hP th_15.1 th_15.2 2 (by decide) c_16 (hg _ wC_X11_326) dX11_weigh_19 ?_
      refine lv_astore_n (lv' := [(3, .ref t_4), (4, .ref t_4), (0, .ref (g 0)), (1, .int a0), (2, .int b0)]) hx hb dX11_weigh_22 rfl hl (by decide) rfl (fun ls hl => ?_)
      refine lv_aload_n hx hb dX11_weigh_23 rfl (lv_at hl 0 rfl) ?_
      refine lv_iload_n hx hb dX11_weigh_24 rfl (lv_at hl 4 rfl) ?_
      refine cI_weight (s0 := b0) hx hb hml hown hg hT wM_X11_335 hK hP hD hS hA th_15.1 k_17 hl.1 (Nat.le_of_ble_eq_true rfl) dX11_weigh_25 ⟨Nat.le_of_ble_eq_true rfl, Nat.le_of_ble_eq_true rfl⟩ ⟨Nat.le_of_ble_eq_true rfl, Nat.le_of_ble_eq_true rfl⟩ (fun H locs hP hS => ?_)
      refine lv_i2l (v := ((kWt (P.2.1 t_4) (P.2.2.1 t_4) b0).toInt64)) hx hb dX11_weigh_28 rfl ?_
      refine lv_goto (tgt := 33) hx hb dX11_weigh_29 (by decide) ?_
      refine cr_l (wo := fun u : Int32 => cW g ty pl ac u md Z P) (ft) hx hb hr hlk hS hP hD ?_ dX11_weigh_33
      exact Or.inr (Or.inr (Or.inr ⟨_, rfl, rfl, (by first | assumption | exact cln_lt (by assumption) (by assumption) (by assumption) | exact cln_no (by assumption) (by assumption) | exact cin_lt (by assumption) (by assumption) (by decide) | rfl), (by first | assumption | exact cln_lt (by assumption) (by assumption) (by assumption) | exact cln_no (by assumption) (by assumption) | exact cin_lt (by assumption) (by assumption) (by decide) | rfl), (by first | assumption | exact cln_lt (by assumption) (by assumption) (by assumption) | exact cln_no (by assumption) (by assumption) | exact cin_lt (by assumption) (by assumption) (by decide) | rfl)⟩))
    · show _
      exact absurd (c_16.symm.trans (ki_12 wf th_15.1 th_15.2 f_7)) (by decide)
  · show _
    have hP : va_P (dC, dI) vwCl (cW g ty pl ac 2 md Z P) H := hP
    have hD : va_D A (cW g ty pl ac 2 md Z P) := hD
    refine lv_astoreN (lv' := [(4, .null), (0, .ref (g 0)), (1, .int a0), (2, .int b0)]) hx hb dX11_weigh_7 hl (by decide) rfl (fun ls hl => ?_)
    refine lv_aloadN hx hb dX11_weigh_9 (lv_at hl 0 rfl) ?_
    refine lv_instN hx hb dX11_weigh_11 ?_
    refine lv_if_eq (tgt := 32) hx hb dX11_weigh_14 (by decide) (fun _ => ?_) (fun c9 => absurd (by decide) c9) 
    refine lv_lconst (v := 0) hx hb dX11_weigh_32 (by decide) ?_
    refine cr_l (wo := fun u : Int32 => cW g ty pl ac u md Z P) (2) hx hb hr hlk hS hP hD ?_ dX11_weigh_33
    exact Or.inl ⟨rfl, rfl, (by first | assumption | exact cln_lt (by assumption) (by assumption) (by assumption) | exact cln_no (by assumption) (by assumption) | exact cin_lt (by assumption) (by assumption) (by decide) | rfl)⟩
  · show _
    have hP : va_P (dC, dI) vwCl (cW g ty pl ac 3 md Z P) H := hP
    have hD : va_D A (cW g ty pl ac 3 md Z P) := hD
    have th_18 := wf.1 _ _ f_11
    refine lv_astoreN (lv' := [(4, .null), (0, .ref (g 0)), (1, .int a0), (2, .int b0)]) hx hb dX11_weigh_7 hl (by decide) rfl (fun ls hl => ?_)
    refine lv_aloadN hx hb dX11_weigh_9 (lv_at hl 0 rfl) ?_
    refine lv_instN hx hb dX11_weigh_11 ?_
    refine lv_if_eq (tgt := 32) hx hb dX11_weigh_14 (by decide) (fun _ => ?_) (fun c9 => absurd (by decide) c9) 
    refine lv_lconst (v := 0) hx hb dX11_weigh_32 (by decide) ?_
    refine cr_l (wo := fun u : Int32 => cW g ty pl ac u md Z P) (3) hx hb hr hlk hS hP hD ?_ dX11_weigh_33
    exact Or.inr (Or.inl ⟨_, rfl, rfl, (by first | assumption | exact cln_lt (by assumption) (by assumption) (by assumption) | exact cln_no (by assumption) (by assumption) | exact cin_lt (by assumption) (by assumption) (by decide) | rfl), (by first | assumption | exact cln_lt (by assumption) (by assumption) (by assumption) | exact cln_no (by assumption) (by assumption) | exact cin_lt (by assumption) (by assumption) (by decide) | rfl), (by first | assumption | exact cln_lt (by assumption) (by assumption) (by assumption) | exact cln_no (by assumption) (by assumption) | exact cin_lt (by assumption) (by assumption) (by decide) | rfl)⟩)
  · show _
    have hP : va_P (dC, dI) vwCl (cW g ty pl ac 1 md Z P) H := hP
    have hD : va_D A (cW g ty pl ac 1 md Z P) := hD
    refine lv_astoreN (lv' := [(4, .null), (0, .ref (g 0)), (1, .int a0), (2, .int b0)]) hx hb dX11_weigh_7 hl (by decide) rfl (fun ls hl => ?_)
    refine lv_aloadN hx hb dX11_weigh_9 (lv_at hl 0 rfl) ?_
    refine lv_instN hx hb dX11_weigh_11 ?_
    refine lv_if_eq (tgt := 32) hx hb dX11_weigh_14 (by decide) (fun _ => ?_) (fun c9 => absurd (by decide) c9) 
    refine lv_lconst (v := 0) hx hb dX11_weigh_32 (by decide) ?_
    refine cr_l (wo := fun u : Int32 => cW g ty pl ac u md Z P) (1) hx hb hr hlk hS hP hD ?_ dX11_weigh_33
    exact Or.inr (Or.inr (Or.inl ⟨rfl, rfl, (by first | assumption | exact cln_lt (by assumption) (by assumption) (by assumption) | exact cln_no (by assumption) (by assumption) | exact cin_lt (by assumption) (by assumption) (by decide) | rfl), (by first | assumption | exact cln_lt (by assumption) (by assumption) (by assumption) | exact cln_no (by assumption) (by assumption) | exact cin_lt (by assumption) (by assumption) (by decide) | rfl)⟩))
set_option maxHeartbeats 800000 in
set_option maxRecDepth 100000 in
theorem c_X11_roll (l : Launch) (dC : Nat → ClassId) (dI : Nat → Nat → Nat) (g : Nat → Nat) (ty : Nat → ClassId) (sz : Nat) (pl : Nat → Option Nat) (ac : Int64) (ft : Int32) (md : Int32) (Z : cZ) (P : cQ) (a0 : Int32) (b0 : Int32) (wf : cWF pl P) : Met l yX11_roll (Cond.code yX11_roll cX11_roll 5 (some .long) :: gT) ({ frames := 4, cells := 0, slots := 0, locals := 87 }) (cP (dC, dI) (cTy ty) (cW g ty pl ac ft md Z P) sz [.ref (g 0), .int a0, .int b0]) (va_Ql (fun (rz : Int64) (u : Int32) => (0 = rz ∧ 2 = u ∧ ¬ vp_in a0 32) ∨ (∃ t : Nat, 0 = rz ∧ 3 = u ∧ vp_in a0 32 ∧ pl a0.toNatClampNeg = some t ∧ kOf (P.2.1 t) (P.2.2.1 t) 14 = false) ∨ (0 = rz ∧ 1 = u ∧ vp_in a0 32 ∧ pl a0.toNatClampNeg = none) ∨ (∃ t : Nat, ((kRo (P.2.1 t) (P.2.2.1 t) b0).toInt64) = rz ∧ ft = u ∧ vp_in a0 32 ∧ pl a0.toNatClampNeg = some t ∧ kOf (P.2.1 t) (P.2.2.1 t) 14 = true)) (cB (dC, dI) (fun u : Int32 => cW g ty pl ac u md Z P) (va_A (cW g ty pl ac ft md Z P) sz)) (va_A (cW g ty pl ac ft md Z P) sz)) 0 0 (va_A (cW g ty pl ac ft md Z P) sz) := by
  refine cc_of (Qa := fun A => va_Ql (fun (rz : Int64) (u : Int32) => (0 = rz ∧ 2 = u ∧ ¬ vp_in a0 32) ∨ (∃ t : Nat, 0 = rz ∧ 3 = u ∧ vp_in a0 32 ∧ pl a0.toNatClampNeg = some t ∧ kOf (P.2.1 t) (P.2.2.1 t) 14 = false) ∨ (0 = rz ∧ 1 = u ∧ vp_in a0 32 ∧ pl a0.toNatClampNeg = none) ∨ (∃ t : Nat, ((kRo (P.2.1 t) (P.2.2.1 t) b0).toInt64) = rz ∧ ft = u ∧ vp_in a0 32 ∧ pl a0.toNatClampNeg = some t ∧ kOf (P.2.1 t) (P.2.2.1 t) 14 = true)) (cB (dC, dI) (fun u : Int32 => cW g ty pl ac u md Z P) A) A) (by decide) (Nat.le_of_ble_eq_true rfl) ?_
  intro p e s m below meth c A hx hb hr hml hown hg hlk hmn hP hK hD hT hS hA hsz ls hl
  have hown : s.vm.findClass RX11 = some m.cls := hown
  have hl : lv_has ls 5 [(0, .ref (g 0)), (1, .int a0), (2, .int b0)] := hl
  refine lv_aload_n hx hb dX11_roll_0 rfl (lv_at hl 0 rfl) ?_
  refine lv_iload_n hx hb dX11_roll_1 rfl (lv_at hl 1 rfl) ?_
  refine lv_bipush (v := 14) hx hb dX11_roll_2 (by decide) ?_
  refine cV_q (C := RX11) (n := 2) (rest := []) hx hb hml hown hg hT (c_X11_needed l dC dI g ty s.heap.size pl ac ft md Z P a0 14 wf ) (cv_of hg wM_X11_276 wN_X11_needed wL_X11_X11_needed wK_X11_needed wI_X11 (by decide +kernel) ⟨Nat.le_of_ble_eq_true rfl, Nat.le_of_ble_eq_true rfl⟩) hK hP hD hS hA (va_recv hK hP (ci := 13) (q0 := 0) rfl rfl) rfl hl.1 rfl (Nat.le_of_ble_eq_true rfl) dX11_roll_4 ⟨Nat.le_of_ble_eq_true rfl, Nat.le_of_ble_eq_true rfl⟩ (fun r_2 u_3 H locs q_1 hP hD hS => ?_)
  rcases q_1 with ⟨t_4, rfl, rfl, f_5, f_6, f_7⟩ | ⟨rfl, rfl, f_8⟩ | ⟨t_9, rfl, rfl, f_10, f_11, f_12⟩ | ⟨rfl, rfl, f_13, f_14⟩
  · show _
    have hP : va_P (dC, dI) vwCl (cW g ty pl ac ft md Z P) H := hP
    have hD : va_D A (cW g ty pl ac ft md Z P) := hD
    have th_15 := wf.1 _ _ f_6
    refine lv_astore (lv' := [(4, .ref t_4), (0, .ref (g 0)), (1, .int a0), (2, .int b0)]) hx hb dX11_roll_7 hl (by decide) rfl (fun ls hl => ?_)
    refine lv_aload hx hb dX11_roll_9 (lv_at hl 0 rfl) ?_
    refine cI_inst hx hb hown hT hK hP th_15.1 th_15.2 3 (by decide) (hg _ wC_X11_338) dX11_roll_11 (fun c_16 => ?_) (fun c_16 => ?_)
    · show _
      have k_17 := cIs_3 c_16
      refine lv_if_eq (tgt := 34) hx hb dX11_roll_14 (by decide) (fun c9 => absurd c9 (by decide)) (fun _ => ?_)
      refine lv_aload hx hb dX11_roll_17 (lv_at hl 0 rfl) ?_
      refine cI_cast hx hb hown hT hK hP th_15.1 th_15.2 3 (by decide) c_16 (hg _ wC_X11_338) dX11_roll_19 ?_
      refine lv_astore_n (lv' := [(3, .ref t_4), (4, .ref t_4), (0, .ref (g 0)), (1, .int a0), (2, .int b0)]) hx hb dX11_roll_22 rfl hl (by decide) rfl (fun ls hl => ?_)
      refine lv_aload_n hx hb dX11_roll_23 rfl (lv_at hl 0 rfl) ?_
      refine lv_iload_n hx hb dX11_roll_24 rfl (lv_at hl 4 rfl) ?_
      refine cI_roll (s0 := b0) hx hb hml hown hg hT wM_X11_340 hK hP hD hS hA th_15.1 k_17 hl.1 (Nat.le_of_ble_eq_true rfl) dX11_roll_25 ⟨Nat.le_of_ble_eq_true rfl, Nat.le_of_ble_eq_true rfl⟩ ⟨Nat.le_of_ble_eq_true rfl, Nat.le_of_ble_eq_true rfl⟩ (fun H locs hP hS => ?_)
      refine lv_i2l (v := ((kRo (P.2.1 t_4) (P.2.2.1 t_4) b0).toInt64)) hx hb dX11_roll_30 rfl ?_
      refine lv_goto (tgt := 35) hx hb dX11_roll_31 (by decide) ?_
      refine cr_l (wo := fun u : Int32 => cW g ty pl ac u md Z P) (ft) hx hb hr hlk hS hP hD ?_ dX11_roll_35
      exact Or.inr (Or.inr (Or.inr ⟨_, rfl, rfl, (by first | assumption | exact cln_lt (by assumption) (by assumption) (by assumption) | exact cln_no (by assumption) (by assumption) | exact cin_lt (by assumption) (by assumption) (by decide) | rfl), (by first | assumption | exact cln_lt (by assumption) (by assumption) (by assumption) | exact cln_no (by assumption) (by assumption) | exact cin_lt (by assumption) (by assumption) (by decide) | rfl), (by first | assumption | exact cln_lt (by assumption) (by assumption) (by assumption) | exact cln_no (by assumption) (by assumption) | exact cin_lt (by assumption) (by assumption) (by decide) | rfl)⟩))
    · show _
      exact absurd (c_16.symm.trans (ki_14 wf th_15.1 th_15.2 f_7)) (by decide)
  · show _
    have hP : va_P (dC, dI) vwCl (cW g ty pl ac 2 md Z P) H := hP
    have hD : va_D A (cW g ty pl ac 2 md Z P) := hD
    refine lv_astoreN (lv' := [(4, .null), (0, .ref (g 0)), (1, .int a0), (2, .int b0)]) hx hb dX11_roll_7 hl (by decide) rfl (fun ls hl => ?_)
    refine lv_aloadN hx hb dX11_roll_9 (lv_at hl 0 rfl) ?_
    refine lv_instN hx hb dX11_roll_11 ?_
    refine lv_if_eq (tgt := 34) hx hb dX11_roll_14 (by decide) (fun _ => ?_) (fun c9 => absurd (by decide) c9) 
    refine lv_lconst (v := 0) hx hb dX11_roll_34 (by decide) ?_
    refine cr_l (wo := fun u : Int32 => cW g ty pl ac u md Z P) (2) hx hb hr hlk hS hP hD ?_ dX11_roll_35
    exact Or.inl ⟨rfl, rfl, (by first | assumption | exact cln_lt (by assumption) (by assumption) (by assumption) | exact cln_no (by assumption) (by assumption) | exact cin_lt (by assumption) (by assumption) (by decide) | rfl)⟩
  · show _
    have hP : va_P (dC, dI) vwCl (cW g ty pl ac 3 md Z P) H := hP
    have hD : va_D A (cW g ty pl ac 3 md Z P) := hD
    have th_18 := wf.1 _ _ f_11
    refine lv_astoreN (lv' := [(4, .null), (0, .ref (g 0)), (1, .int a0), (2, .int b0)]) hx hb dX11_roll_7 hl (by decide) rfl (fun ls hl => ?_)
    refine lv_aloadN hx hb dX11_roll_9 (lv_at hl 0 rfl) ?_
    refine lv_instN hx hb dX11_roll_11 ?_
    refine lv_if_eq (tgt := 34) hx hb dX11_roll_14 (by decide) (fun _ => ?_) (fun c9 => absurd (by decide) c9) 
    refine lv_lconst (v := 0) hx hb dX11_roll_34 (by decide) ?_
    refine cr_l (wo := fun u : Int32 => cW g ty pl ac u md Z P) (3) hx hb hr hlk hS hP hD ?_ dX11_roll_35
    exact Or.inr (Or.inl ⟨_, rfl, rfl, (by first | assumption | exact cln_lt (by assumption) (by assumption) (by assumption) | exact cln_no (by assumption) (by assumption) | exact cin_lt (by assumption) (by assumption) (by decide) | rfl), (by first | assumption | exact cln_lt (by assumption) (by assumption) (by assumption) | exact cln_no (by assumption) (by assumption) | exact cin_lt (by assumption) (by assumption) (by decide) | rfl), (by first | assumption | exact cln_lt (by assumption) (by assumption) (by assumption) | exact cln_no (by assumption) (by assumption) | exact cin_lt (by assumption) (by assumption) (by decide) | rfl)⟩)
  · show _
    have hP : va_P (dC, dI) vwCl (cW g ty pl ac 1 md Z P) H := hP
    have hD : va_D A (cW g ty pl ac 1 md Z P) := hD
    refine lv_astoreN (lv' := [(4, .null), (0, .ref (g 0)), (1, .int a0), (2, .int b0)]) hx hb dX11_roll_7 hl (by decide) rfl (fun ls hl => ?_)
    refine lv_aloadN hx hb dX11_roll_9 (lv_at hl 0 rfl) ?_
    refine lv_instN hx hb dX11_roll_11 ?_
    refine lv_if_eq (tgt := 34) hx hb dX11_roll_14 (by decide) (fun _ => ?_) (fun c9 => absurd (by decide) c9) 
    refine lv_lconst (v := 0) hx hb dX11_roll_34 (by decide) ?_
    refine cr_l (wo := fun u : Int32 => cW g ty pl ac u md Z P) (1) hx hb hr hlk hS hP hD ?_ dX11_roll_35
    exact Or.inr (Or.inr (Or.inl ⟨rfl, rfl, (by first | assumption | exact cln_lt (by assumption) (by assumption) (by assumption) | exact cln_no (by assumption) (by assumption) | exact cin_lt (by assumption) (by assumption) (by decide) | rfl), (by first | assumption | exact cln_lt (by assumption) (by assumption) (by assumption) | exact cln_no (by assumption) (by assumption) | exact cin_lt (by assumption) (by assumption) (by decide) | rfl)⟩))
set_option maxHeartbeats 800000 in
set_option maxRecDepth 100000 in
theorem c_X11_copyCells (l : Launch) (dC : Nat → ClassId) (dI : Nat → Nat → Nat) (g : Nat → Nat) (ty : Nat → ClassId) (sz : Nat) (pl : Nat → Option Nat) (ac : Int64) (ft : Int32) (md : Int32) (Z : cZ) (P : cQ) (x1 : Nat) (i0 : Int32) (x2 : Nat) (j0 : Int32) (n0 : Int32) (wf : cWF pl P) (pre0 : x1 ∈ P.1) (pre1 : P.2.1 x1 = 5) (pre2 : x2 ∈ P.1) (pre3 : P.2.1 x2 = 5) : Met l yX11_copyCells (Cond.code yX11_copyCells cX11_copyCells 6 none :: gT) ({ frames := 2, cells := 0, slots := 0, locals := 300 }) (cP (dC, dI) (cTy ty) (cW g ty pl ac ft md Z P) sz [.ref (g 0), .ref x1, .int i0, .ref x2, .int j0, .int n0]) (va_Qv (fun (u : Int32 × cQ) => (∃ y1 : Nat, (2, P) = u ∧ P.2.2.2.2.1 x1 = some y1 ∧ ¬ cSp i0 n0 (P.2.2.2.2.2.1 y1)) ∨ (∃ y1 y2 : Nat, (2, P) = u ∧ P.2.2.2.2.1 x1 = some y1 ∧ P.2.2.2.2.1 x2 = some y2 ∧ cSp i0 n0 (P.2.2.2.2.2.1 y1) ∧ ¬ cSp j0 n0 (P.2.2.2.2.2.1 y2)) ∨ (∃ y1 y2 : Nat, (ft, pLc P y2 (va_cpy (P.2.2.2.2.2.2.1 y1) (P.2.2.2.2.2.2.1 y2) i0.toNatClampNeg j0.toNatClampNeg n0.toNatClampNeg)) = u ∧ P.2.2.2.2.1 x1 = some y1 ∧ P.2.2.2.2.1 x2 = some y2 ∧ cSp i0 n0 (P.2.2.2.2.2.1 y1) ∧ cSp j0 n0 (P.2.2.2.2.2.1 y2))) (cB (dC, dI) (fun u : Int32 × cQ => cW g ty pl ac u.1 md Z u.2) (va_A (cW g ty pl ac ft md Z P) sz)) (va_A (cW g ty pl ac ft md Z P) sz)) 0 0 (va_A (cW g ty pl ac ft md Z P) sz) := by
  refine cc_of (Qa := fun A => va_Qv (fun (u : Int32 × cQ) => (∃ y1 : Nat, (2, P) = u ∧ P.2.2.2.2.1 x1 = some y1 ∧ ¬ cSp i0 n0 (P.2.2.2.2.2.1 y1)) ∨ (∃ y1 y2 : Nat, (2, P) = u ∧ P.2.2.2.2.1 x1 = some y1 ∧ P.2.2.2.2.1 x2 = some y2 ∧ cSp i0 n0 (P.2.2.2.2.2.1 y1) ∧ ¬ cSp j0 n0 (P.2.2.2.2.2.1 y2)) ∨ (∃ y1 y2 : Nat, (ft, pLc P y2 (va_cpy (P.2.2.2.2.2.2.1 y1) (P.2.2.2.2.2.2.1 y2) i0.toNatClampNeg j0.toNatClampNeg n0.toNatClampNeg)) = u ∧ P.2.2.2.2.1 x1 = some y1 ∧ P.2.2.2.2.1 x2 = some y2 ∧ cSp i0 n0 (P.2.2.2.2.2.1 y1) ∧ cSp j0 n0 (P.2.2.2.2.2.1 y2))) (cB (dC, dI) (fun u : Int32 × cQ => cW g ty pl ac u.1 md Z u.2) A) A) (by decide) (Nat.le_of_ble_eq_true rfl) ?_
  intro p e s m below meth c A hx hb hr hml hown hg hlk hmn hP hK hD hT hS hA hsz ls hl
  have hown : s.vm.findClass RX11 = some m.cls := hown
  have hl : lv_has ls 6 [(0, .ref (g 0)), (1, .ref x1), (2, .int i0), (3, .ref x2), (4, .int j0), (5, .int n0)] := hl
  refine lv_aload_n hx hb dX11_copyCells_0 rfl (lv_at hl 0 rfl) ?_
  refine lv_iload_n hx hb dX11_copyCells_1 rfl (lv_at hl 2 rfl) ?_
  refine lv_iload hx hb dX11_copyCells_2 (lv_at hl 5 rfl) ?_
  refine lv_aload_n hx hb dX11_copyCells_4 rfl (lv_at hl 1 rfl) ?_
  obtain ⟨j_1, r_2, i_3, hj_1, hr_4, ri_5, rk_6, rl_7, hi_3⟩ := cg_row (X := cX g ty pl ac ft md Z) (ty := ty) wf pre0 pre1
  refine va_getN (D := (dC, dI)) (ci := 10) (v := .ref r_2) (C := RX7) (T := TX7) (N := 2) hx hb hg inG7 hown hK hP j_1 hj_1 rfl 1 (by decide) (va_Nw.use (A := _) rfl (hT.1 2 (by decide))) (fun _ h9 => h9) rfl dX11_copyCells_5 ?_
  obtain ⟨i_8, hi_8⟩ := cg_7 (X := cX g ty pl ac ft md Z) (ty := ty) ri_5 rk_6
  refine va_alen hx hb hK hP i_8 2 hi_8 rfl (v := (Int32.ofNat (P.2.2.2.2.2.1 r_2))) rfl dX11_copyCells_8 ?_
  refine cV_i (C := RX11) (n := 3) (rest := []) hx hb hml hown hg hT (c_X11_isSpan l dC dI g ty s.heap.size pl ac ft md Z P i0 n0 (Int32.ofNat (P.2.2.2.2.2.1 r_2)) ) (cv_of hg wM_X11_359 wN_X11_isSpan wL_X11_X11_isSpan wK_X11_isSpan wI_X11 (by decide +kernel) ⟨Nat.le_of_ble_eq_true rfl, Nat.le_of_ble_eq_true rfl⟩) hK hP hD hS hA (va_recv hK hP (ci := 13) (q0 := 0) rfl rfl) rfl hl.1 rfl (Nat.le_of_ble_eq_true rfl) dX11_copyCells_9 ⟨Nat.le_of_ble_eq_true rfl, Nat.le_of_ble_eq_true rfl⟩ (fun r_10 u_11 H locs q_9 hP hD hS => ?_)
  rcases q_9 with ⟨rfl, rfl, f_12, f_13, f_14⟩ | ⟨rfl, rfl, f_15⟩
  · show _
    have hP : va_P (dC, dI) vwCl (cW g ty pl ac ft md Z P) H := hP
    have hD : va_D A (cW g ty pl ac ft md Z P) := hD
    refine lv_if_eq (tgt := 47) hx hb dX11_copyCells_12 (by decide) (fun c9 => absurd c9 (by decide)) (fun _ => ?_)
    refine lv_aload_n hx hb dX11_copyCells_15 rfl (lv_at hl 0 rfl) ?_
    refine lv_iload hx hb dX11_copyCells_16 (lv_at hl 4 rfl) ?_
    refine lv_iload hx hb dX11_copyCells_18 (lv_at hl 5 rfl) ?_
    refine lv_aload_n hx hb dX11_copyCells_20 rfl (lv_at hl 3 rfl) ?_
    obtain ⟨j_16, r_17, i_18, hj_16, hr_19, ri_20, rk_21, rl_22, hi_18⟩ := cg_row (X := cX g ty pl ac ft md Z) (ty := ty) wf pre2 pre3
    refine va_getN (D := (dC, dI)) (ci := 10) (v := .ref r_17) (C := RX7) (T := TX7) (N := 2) hx hb hg inG7 hown hK hP j_16 hj_16 rfl 1 (by decide) (va_Nw.use (A := _) rfl (hT.1 2 (by decide))) (fun _ h9 => h9) rfl dX11_copyCells_21 ?_
    obtain ⟨i_23, hi_23⟩ := cg_7 (X := cX g ty pl ac ft md Z) (ty := ty) ri_20 rk_21
    refine va_alen hx hb hK hP i_23 2 hi_23 rfl (v := (Int32.ofNat (P.2.2.2.2.2.1 r_17))) rfl dX11_copyCells_24 ?_
    refine cV_i (C := RX11) (n := 3) (rest := []) hx hb hml hown hg hT (c_X11_isSpan l dC dI g ty H.size pl ac ft md Z P j0 n0 (Int32.ofNat (P.2.2.2.2.2.1 r_17)) ) (cv_of hg wM_X11_359 wN_X11_isSpan wL_X11_X11_isSpan wK_X11_isSpan wI_X11 (by decide +kernel) ⟨Nat.le_of_ble_eq_true rfl, Nat.le_of_ble_eq_true rfl⟩) hK hP hD hS hA (va_recv hK hP (ci := 13) (q0 := 0) rfl rfl) rfl hl.1 rfl (Nat.le_of_ble_eq_true rfl) dX11_copyCells_25 ⟨Nat.le_of_ble_eq_true rfl, Nat.le_of_ble_eq_true rfl⟩ (fun r_25 u_26 H locs q_24 hP hD hS => ?_)
    rcases q_24 with ⟨rfl, rfl, f_27, f_28, f_29⟩ | ⟨rfl, rfl, f_30⟩
    · show _
      have hP : va_P (dC, dI) vwCl (cW g ty pl ac ft md Z P) H := hP
      have hD : va_D A (cW g ty pl ac ft md Z P) := hD
      refine lv_if_eq (tgt := 47) hx hb dX11_copyCells_28 (by decide) (fun c9 => absurd c9 (by decide)) (fun _ => ?_)
      refine lv_aload_n hx hb dX11_copyCells_31 rfl (lv_at hl 1 rfl) ?_
      obtain ⟨j_31, r_32, i_33, hj_31, hr_34, ri_35, rk_36, rl_37, hi_33⟩ := cg_row (X := cX g ty pl ac ft md Z) (ty := ty) wf pre0 pre1
      obtain rfl := Option.some.inj (hr_4.symm.trans hr_34)
      refine va_getN (D := (dC, dI)) (ci := 10) (v := .ref r_2) (C := RX7) (T := TX7) (N := 2) hx hb hg inG7 hown hK hP j_31 hj_31 rfl 1 (by decide) (va_Nw.use (A := _) rfl (hT.1 2 (by decide))) (fun _ h9 => h9) rfl dX11_copyCells_32 ?_
      refine lv_iload_n hx hb dX11_copyCells_35 rfl (lv_at hl 2 rfl) ?_
      refine lv_aload_n hx hb dX11_copyCells_36 rfl (lv_at hl 3 rfl) ?_
      obtain ⟨j_38, r_39, i_40, hj_38, hr_41, ri_42, rk_43, rl_44, hi_40⟩ := cg_row (X := cX g ty pl ac ft md Z) (ty := ty) wf pre2 pre3
      obtain rfl := Option.some.inj (hr_19.symm.trans hr_41)
      refine va_getN (D := (dC, dI)) (ci := 10) (v := .ref r_17) (C := RX7) (T := TX7) (N := 2) hx hb hg inG7 hown hK hP j_38 hj_38 rfl 1 (by decide) (va_Nw.use (A := _) rfl (hT.1 2 (by decide))) (fun _ h9 => h9) rfl dX11_copyCells_37 ?_
      refine lv_iload hx hb dX11_copyCells_40 (lv_at hl 4 rfl) ?_
      refine lv_iload hx hb dX11_copyCells_42 (lv_at hl 5 rfl) ?_
      obtain ⟨i_45, hi_45⟩ := cg_7 (X := cX g ty pl ac ft md Z) (ty := ty) ri_5 rk_6
      obtain ⟨i_46, hi_46⟩ := cg_7 (X := cX g ty pl ac ft md Z) (ty := ty) ri_20 rk_21
      refine va_copyl (ty := .long) hx hb (by rw [hml]; exact hl.1.symm) hown (hg _ wM_X11_363) (hg _ wV_J10_arraycopy) (hg _ wS_J10_arraycopy) (hg _ wI_J10) hK hP hD hS i_45 i_46 2 2 hi_45 hi_46 rfl rfl rfl (by assumption) (by assumption) (by assumption) (span_ok (by assumption) (by assumption) (by assumption) (by assumption)) (span_ok (by assumption) (by assumption) (by assumption) (by assumption)) (fun _ _ => rfl) (Nat.le_of_ble_eq_true rfl) (Nat.le_of_ble_eq_true rfl) dX11_copyCells_44 (fun H locs hP hD2 hS => ?_)
      rw [cs_7 hD ri_20 rk_21 hi_46 _] at hP hD2
      have hD := hD2
      have hP : va_P (dC, dI) vwCl (cW g ty pl ac ft md Z (pLc P r_17 (va_cpy (P.2.2.2.2.2.2.1 r_2) (P.2.2.2.2.2.2.1 r_17) i0.toNatClampNeg j0.toNatClampNeg n0.toNatClampNeg))) H := hP
      have hD : va_D A (cW g ty pl ac ft md Z (pLc P r_17 (va_cpy (P.2.2.2.2.2.2.1 r_2) (P.2.2.2.2.2.2.1 r_17) i0.toNatClampNeg j0.toNatClampNeg n0.toNatClampNeg))) := hD
      refine cr_v (wo := fun u : Int32 × cQ => cW g ty pl ac u.1 md Z u.2) ((ft, (pLc P r_17 (va_cpy (P.2.2.2.2.2.2.1 r_2) (P.2.2.2.2.2.2.1 r_17) i0.toNatClampNeg j0.toNatClampNeg n0.toNatClampNeg)))) hx hb hr hlk hS hP hD ?_ dX11_copyCells_47
      exact Or.inr (Or.inr ⟨_, _, rfl, (by first | assumption | exact span_in (by assumption) (by assumption) (by assumption) (by assumption) | exact span_no (by assumption) (by assumption)), (by first | assumption | exact span_in (by assumption) (by assumption) (by assumption) (by assumption) | exact span_no (by assumption) (by assumption)), (by first | assumption | exact span_in (by assumption) (by assumption) (by assumption) (by assumption) | exact span_no (by assumption) (by assumption)), (by first | assumption | exact span_in (by assumption) (by assumption) (by assumption) (by assumption) | exact span_no (by assumption) (by assumption))⟩)
    · show _
      have hP : va_P (dC, dI) vwCl (cW g ty pl ac 2 md Z P) H := hP
      have hD : va_D A (cW g ty pl ac 2 md Z P) := hD
      refine lv_if_eq (tgt := 47) hx hb dX11_copyCells_28 (by decide) (fun _ => ?_) (fun c9 => absurd (by decide) c9) 
      refine cr_v (wo := fun u : Int32 × cQ => cW g ty pl ac u.1 md Z u.2) ((2, P)) hx hb hr hlk hS hP hD ?_ dX11_copyCells_47
      first | exact Or.inl ⟨_, rfl, (by first | assumption | exact span_in (by assumption) (by assumption) (by assumption) (by assumption) | exact span_no (by assumption) (by assumption)), (by first | assumption | exact span_in (by assumption) (by assumption) (by assumption) (by assumption) | exact span_no (by assumption) (by assumption))⟩ | exact Or.inr (Or.inl ⟨_, _, rfl, (by first | assumption | exact span_in (by assumption) (by assumption) (by assumption) (by assumption) | exact span_no (by assumption) (by assumption)), (by first | assumption | exact span_in (by assumption) (by assumption) (by assumption) (by assumption) | exact span_no (by assumption) (by assumption)), (by first | assumption | exact span_in (by assumption) (by assumption) (by assumption) (by assumption) | exact span_no (by assumption) (by assumption)), (by first | assumption | exact span_in (by assumption) (by assumption) (by assumption) (by assumption) | exact span_no (by assumption) (by assumption))⟩)
  · show _
    have hP : va_P (dC, dI) vwCl (cW g ty pl ac 2 md Z P) H := hP
    have hD : va_D A (cW g ty pl ac 2 md Z P) := hD
    refine lv_if_eq (tgt := 47) hx hb dX11_copyCells_12 (by decide) (fun _ => ?_) (fun c9 => absurd (by decide) c9) 
    refine cr_v (wo := fun u : Int32 × cQ => cW g ty pl ac u.1 md Z u.2) ((2, P)) hx hb hr hlk hS hP hD ?_ dX11_copyCells_47
    first | exact Or.inl ⟨_, rfl, (by first | assumption | exact span_in (by assumption) (by assumption) (by assumption) (by assumption) | exact span_no (by assumption) (by assumption)), (by first | assumption | exact span_in (by assumption) (by assumption) (by assumption) (by assumption) | exact span_no (by assumption) (by assumption))⟩ | exact Or.inr (Or.inl ⟨_, _, rfl, (by first | assumption | exact span_in (by assumption) (by assumption) (by assumption) (by assumption) | exact span_no (by assumption) (by assumption)), (by first | assumption | exact span_in (by assumption) (by assumption) (by assumption) (by assumption) | exact span_no (by assumption) (by assumption)), (by first | assumption | exact span_in (by assumption) (by assumption) (by assumption) (by assumption) | exact span_no (by assumption) (by assumption)), (by first | assumption | exact span_in (by assumption) (by assumption) (by assumption) (by assumption) | exact span_no (by assumption) (by assumption))⟩)

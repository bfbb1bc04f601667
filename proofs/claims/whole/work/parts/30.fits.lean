set_option maxHeartbeats 4000000 in
set_option maxRecDepth 100000 in
theorem c_X11_fits (l : Launch) (dC : Nat → ClassId) (dI : Nat → Nat → Nat) (g : Nat → Nat) (ty : Nat → ClassId) (sz : Nat) (pl : Nat → Option Nat) (ac : Int64) (ft : Int32) (md : Int32) (Z : cZ) (P : cQ) (x0 : Int32) (s0 : Int32) (wf : cWF pl P) : Met l yX11_fits (Cond.code yX11_fits cX11_fits 4 (some .boolean) :: gT) ({ frames := 2, cells := 0, slots := 0, locals := 42 }) (cP (dC, dI) (cTy ty) (cW g ty pl ac ft md Z P) sz [.ref (g 0), .int x0, .int s0]) (va_Qi (fun (rz : Int32) (u : Int32) => (1 = rz ∧ ft = u ∧ vp_in x0 32 ∧ pl x0.toNatClampNeg = none) ∨ (∃ t : Nat, 1 = rz ∧ ft = u ∧ vp_in x0 32 ∧ pl x0.toNatClampNeg = some t ∧ kOf (P.2.1 t) (P.2.2.1 t) s0 = true) ∨ (0 = rz ∧ 2 = u ∧ ¬ vp_in x0 32) ∨ (∃ t : Nat, 0 = rz ∧ 3 = u ∧ vp_in x0 32 ∧ pl x0.toNatClampNeg = some t ∧ kOf (P.2.1 t) (P.2.2.1 t) s0 = false)) (cB (dC, dI) (fun u : Int32 => cW g ty pl ac u md Z P) (va_A (cW g ty pl ac ft md Z P) sz)) (va_A (cW g ty pl ac ft md Z P) sz)) 0 0 (va_A (cW g ty pl ac ft md Z P) sz) := by
  refine cc_of (Qa := fun A => va_Qi (fun (rz : Int32) (u : Int32) => (1 = rz ∧ ft = u ∧ vp_in x0 32 ∧ pl x0.toNatClampNeg = none) ∨ (∃ t : Nat, 1 = rz ∧ ft = u ∧ vp_in x0 32 ∧ pl x0.toNatClampNeg = some t ∧ kOf (P.2.1 t) (P.2.2.1 t) s0 = true) ∨ (0 = rz ∧ 2 = u ∧ ¬ vp_in x0 32) ∨ (∃ t : Nat, 0 = rz ∧ 3 = u ∧ vp_in x0 32 ∧ pl x0.toNatClampNeg = some t ∧ kOf (P.2.1 t) (P.2.2.1 t) s0 = false)) (cB (dC, dI) (fun u : Int32 => cW g ty pl ac u md Z P) A) A) (by decide) (Nat.le_of_ble_eq_true rfl) ?_
  intro p e s m below meth c A hx hb hr hml hown hg hlk hmn hP hK hD hT hS hA hsz ls hl
  have hown : s.vm.findClass RX11 = some m.cls := hown
  have hl : lv_has ls 4 [(0, .ref (g 0)), (1, .int x0), (2, .int s0)] := hl
  refine lv_aload_n hx hb dX11_fits_0 rfl (lv_at hl 0 rfl) ?_
  refine lv_iload_n hx hb dX11_fits_1 rfl (lv_at hl 1 rfl) ?_
  refine cV_i (C := RX11) (n := 1) (rest := []) hx hb hml hown hg hT (c_X11_isPlace l dC dI g ty s.heap.size pl ac ft md Z P x0 ) (cv_of hg wM_X11_248 wN_X11_isPlace wL_X11_X11_isPlace wK_X11_isPlace wI_X11 (by decide +kernel) ⟨Nat.le_of_ble_eq_true rfl, Nat.le_of_ble_eq_true rfl⟩) hK hP hD hS hA (va_recv hK hP (ci := 13) (q0 := 0) rfl rfl) rfl hl.1 rfl (Nat.le_of_ble_eq_true rfl) dX11_fits_2 ⟨Nat.le_of_ble_eq_true rfl, Nat.le_of_ble_eq_true rfl⟩ (fun r_2 u_3 H locs q_1 hP hD hS => ?_)
  rcases q_1 with ⟨rfl, rfl, f_4⟩ | ⟨rfl, rfl, f_5⟩
  · show _
    have hP : va_P (dC, dI) vwCl (cW g ty pl ac ft md Z P) H := hP
    have hD : va_D A (cW g ty pl ac ft md Z P) := hD
    refine lv_if_ne (tgt := 10) hx hb dX11_fits_5 (by decide) (fun _ => ?_) (fun c9 => absurd c9 (by decide)) 
    refine lv_aload_n hx hb dX11_fits_10 rfl (lv_at hl 0 rfl) ?_
    refine va_get (D := (dC, dI)) (ci := 13) (v := .ref (g 1)) (C := RX11) (T := TX11) (N := 12) hx hb hg inG11 hown hK hP 0 rfl rfl 0 (by decide) (hg _ wF_X11_11) (fun _ h9 => h9) rfl dX11_fits_11 ?_
    refine lv_iload_n hx hb dX11_fits_14 rfl (lv_at hl 1 rfl) ?_
    refine va_aldq hx hb hK hP 1 1 rfl rfl (by first | assumption | exact cln_lt (by assumption) (by assumption) (by assumption) | exact cln_no (by assumption) (by assumption) | exact cin_lt (by assumption) (by assumption) (by decide) | rfl) dX11_fits_15 ?_
    obtain ⟨o_6, ho_6⟩ : ∃ z, z = pl x0.toNatClampNeg := ⟨_, rfl⟩
    rw [← ho_6]
    cases o_6 with
    | none =>
      have ho_6 := ho_6.symm
      refine lv_astore_nN (lv' := [(3, .null), (0, .ref (g 0)), (1, .int x0), (2, .int s0)]) hx hb dX11_fits_16 rfl hl (by decide) rfl (fun ls hl => ?_)
      refine lv_aload_nN hx hb dX11_fits_17 rfl (lv_at hl 0 rfl) ?_
      refine lv_ifnullN (tgt := 37) hx hb dX11_fits_18 (by decide) ?_
      refine lv_iconst (v := 1) hx hb dX11_fits_37 (by decide) ?_
      refine lv_goto (tgt := 42) hx hb dX11_fits_38 (by decide) ?_
      refine cr_z (wo := fun u : Int32 => cW g ty pl ac u md Z P) (ft) hx hb hr hlk hS hP hD rfl ?_ dX11_fits_42
      first | exact Or.inl ⟨rfl, rfl, (by first | assumption | exact cln_lt (by assumption) (by assumption) (by assumption) | exact cln_no (by assumption) (by assumption) | exact cin_lt (by assumption) (by assumption) (by decide) | rfl), (by first | assumption | exact cln_lt (by assumption) (by assumption) (by assumption) | exact cln_no (by assumption) (by assumption) | exact cin_lt (by assumption) (by assumption) (by decide) | rfl)⟩ | exact Or.inr (Or.inl ⟨_, rfl, rfl, (by first | assumption | exact cln_lt (by assumption) (by assumption) (by assumption) | exact cln_no (by assumption) (by assumption) | exact cin_lt (by assumption) (by assumption) (by decide) | rfl), (by first | assumption | exact cln_lt (by assumption) (by assumption) (by assumption) | exact cln_no (by assumption) (by assumption) | exact cin_lt (by assumption) (by assumption) (by decide) | rfl), (by first | assumption | exact cln_lt (by assumption) (by assumption) (by assumption) | exact cln_no (by assumption) (by assumption) | exact cin_lt (by assumption) (by assumption) (by decide) | rfl)⟩)
    | some t_7 =>
      have ho_6 := ho_6.symm
      have th_8 := wf.1 _ _ ho_6
      refine lv_astore_n (lv' := [(3, .ref t_7), (0, .ref (g 0)), (1, .int x0), (2, .int s0)]) hx hb dX11_fits_16 rfl hl (by decide) rfl (fun ls hl => ?_)
      refine lv_aload_n hx hb dX11_fits_17 rfl (lv_at hl 0 rfl) ?_
      refine lv_ifnull hx hb dX11_fits_18 ?_
      refine lv_aload_n hx hb dX11_fits_21 rfl (lv_at hl 0 rfl) ?_
      refine lv_iload_n hx hb dX11_fits_22 rfl (lv_at hl 3 rfl) ?_
      refine cI_isOf (s0 := s0) hx hb hml hown hg hT wM_X11_251 hK hP hD hS hA th_8.1 th_8.2 hl.1 (Nat.le_of_ble_eq_true rfl) dX11_fits_23 ⟨Nat.le_of_ble_eq_true rfl, Nat.le_of_ble_eq_true rfl⟩ ⟨Nat.le_of_ble_eq_true rfl, Nat.le_of_ble_eq_true rfl⟩ (fun H locs c_9 hP hS => ?_) (fun H locs c_9 hP hS => ?_)
      · show _
        refine lv_if_ne (tgt := 37) hx hb dX11_fits_26 (by decide) (fun _ => ?_) (fun c9 => absurd c9 (by decide)) 
        refine lv_iconst (v := 1) hx hb dX11_fits_37 (by decide) ?_
        refine lv_goto (tgt := 42) hx hb dX11_fits_38 (by decide) ?_
        refine cr_z (wo := fun u : Int32 => cW g ty pl ac u md Z P) (ft) hx hb hr hlk hS hP hD rfl ?_ dX11_fits_42
        first | exact Or.inl ⟨rfl, rfl, (by first | assumption | exact cln_lt (by assumption) (by assumption) (by assumption) | exact cln_no (by assumption) (by assumption) | exact cin_lt (by assumption) (by assumption) (by decide) | rfl), (by first | assumption | exact cln_lt (by assumption) (by assumption) (by assumption) | exact cln_no (by assumption) (by assumption) | exact cin_lt (by assumption) (by assumption) (by decide) | rfl)⟩ | exact Or.inr (Or.inl ⟨_, rfl, rfl, (by first | assumption | exact cln_lt (by assumption) (by assumption) (by assumption) | exact cln_no (by assumption) (by assumption) | exact cin_lt (by assumption) (by assumption) (by decide) | rfl), (by first | assumption | exact cln_lt (by assumption) (by assumption) (by assumption) | exact cln_no (by assumption) (by assumption) | exact cin_lt (by assumption) (by assumption) (by decide) | rfl), (by first | assumption | exact cln_lt (by assumption) (by assumption) (by assumption) | exact cln_no (by assumption) (by assumption) | exact cin_lt (by assumption) (by assumption) (by decide) | rfl)⟩)
      · show _
        refine lv_if_ne (tgt := 37) hx hb dX11_fits_26 (by decide) (fun c9 => absurd (by decide) c9) (fun _ => ?_)
        refine lv_aload_n hx hb dX11_fits_29 rfl (lv_at hl 1 rfl) ?_
        refine lv_iconst (v := 3) hx hb dX11_fits_30 (by decide) ?_
        refine cV_i (C := RX11) (n := 1) (rest := []) hx hb hml hown hg hT (c_X11_tell l dC dI g ty H.size pl ac ft md Z P 3 ) (cv_of hg wM_X11_245 wN_X11_tell wL_X11_X11_tell wK_X11_tell wI_X11 (by decide +kernel) ⟨Nat.le_of_ble_eq_true rfl, Nat.le_of_ble_eq_true rfl⟩) hK hP hD hS hA (va_recv hK hP (ci := 13) (q0 := 0) rfl rfl) rfl hl.1 rfl (Nat.le_of_ble_eq_true rfl) dX11_fits_31 ⟨Nat.le_of_ble_eq_true rfl, Nat.le_of_ble_eq_true rfl⟩ (fun r_11 u_12 H locs q_10 hP hD hS => ?_)
        obtain ⟨rfl, rfl⟩ := q_10
        have hP : va_P (dC, dI) vwCl (cW g ty pl ac 3 md Z P) H := hP
        have hD : va_D A (cW g ty pl ac 3 md Z P) := hD
        refine lv_if_eq (tgt := 41) hx hb dX11_fits_34 (by decide) (fun _ => ?_) (fun c9 => absurd (by decide) c9) 
        refine lv_iconst (v := 0) hx hb dX11_fits_41 (by decide) ?_
        refine cr_z (wo := fun u : Int32 => cW g ty pl ac u md Z P) (3) hx hb hr hlk hS hP hD rfl ?_ dX11_fits_42
        first | exact Or.inr (Or.inr (Or.inl ⟨rfl, rfl, (by first | assumption | exact cln_lt (by assumption) (by assumption) (by assumption) | exact cln_no (by assumption) (by assumption) | exact cin_lt (by assumption) (by assumption) (by decide) | rfl)⟩)) | exact Or.inr (Or.inr (Or.inr ⟨_, rfl, rfl, (by first | assumption | exact cln_lt (by assumption) (by assumption) (by assumption) | exact cln_no (by assumption) (by assumption) | exact cin_lt (by assumption) (by assumption) (by decide) | rfl), (by first | assumption | exact cln_lt (by assumption) (by assumption) (by assumption) | exact cln_no (by assumption) (by assumption) | exact cin_lt (by assumption) (by assumption) (by decide) | rfl), (by first | assumption | exact cln_lt (by assumption) (by assumption) (by assumption) | exact cln_no (by assumption) (by assumption) | exact cin_lt (by assumption) (by assumption) (by decide) | rfl)⟩))
  · show _
    have hP : va_P (dC, dI) vwCl (cW g ty pl ac 2 md Z P) H := hP
    have hD : va_D A (cW g ty pl ac 2 md Z P) := hD
    refine lv_if_ne (tgt := 10) hx hb dX11_fits_5 (by decide) (fun c9 => absurd (by decide) c9) (fun _ => ?_)
    refine lv_iconst (v := 0) hx hb dX11_fits_8 (by decide) ?_
    refine cr_z (wo := fun u : Int32 => cW g ty pl ac u md Z P) (2) hx hb hr hlk hS hP hD rfl ?_ dX11_fits_9
    first | exact Or.inr (Or.inr (Or.inl ⟨rfl, rfl, (by first | assumption | exact cln_lt (by assumption) (by assumption) (by assumption) | exact cln_no (by assumption) (by assumption) | exact cin_lt (by assumption) (by assumption) (by decide) | rfl)⟩)) | exact Or.inr (Or.inr (Or.inr ⟨_, rfl, rfl, (by first | assumption | exact cln_lt (by assumption) (by assumption) (by assumption) | exact cln_no (by assumption) (by assumption) | exact cin_lt (by assumption) (by assumption) (by decide) | rfl), (by first | assumption | exact cln_lt (by assumption) (by assumption) (by assumption) | exact cln_no (by assumption) (by assumption) | exact cin_lt (by assumption) (by assumption) (by decide) | rfl), (by first | assumption | exact cln_lt (by assumption) (by assumption) (by assumption) | exact cln_no (by assumption) (by assumption) | exact cin_lt (by assumption) (by assumption) (by decide) | rfl)⟩))
set_option maxHeartbeats 4000000 in
set_option maxRecDepth 100000 in
theorem c_X11_needed (l : Launch) (dC : Nat → ClassId) (dI : Nat → Nat → Nat) (g : Nat → Nat) (ty : Nat → ClassId) (sz : Nat) (pl : Nat → Option Nat) (ac : Int64) (ft : Int32) (md : Int32) (Z : cZ) (P : cQ) (x0 : Int32) (s0 : Int32) (wf : cWF pl P) : Met l yX11_needed (Cond.code yX11_needed cX11_needed 3 (some (.object "FaultMill$Thing")) :: gT) ({ frames := 3, cells := 0, slots := 0, locals := 65 }) (cP (dC, dI) (cTy ty) (cW g ty pl ac ft md Z P) sz [.ref (g 0), .int x0, .int s0]) (va_Qq (fun (rz : Option Nat) (u : Int32) => (∃ t : Nat, (some t) = rz ∧ ft = u ∧ vp_in x0 32 ∧ pl x0.toNatClampNeg = some t ∧ kOf (P.2.1 t) (P.2.2.1 t) s0 = true) ∨ (none = rz ∧ 2 = u ∧ ¬ vp_in x0 32) ∨ (∃ t : Nat, none = rz ∧ 3 = u ∧ vp_in x0 32 ∧ pl x0.toNatClampNeg = some t ∧ kOf (P.2.1 t) (P.2.2.1 t) s0 = false) ∨ (none = rz ∧ 1 = u ∧ vp_in x0 32 ∧ pl x0.toNatClampNeg = none)) (cB (dC, dI) (fun u : Int32 => cW g ty pl ac u md Z P) (va_A (cW g ty pl ac ft md Z P) sz)) (va_A (cW g ty pl ac ft md Z P) sz)) 0 0 (va_A (cW g ty pl ac ft md Z P) sz) := by
  refine cc_of (Qa := fun A => va_Qq (fun (rz : Option Nat) (u : Int32) => (∃ t : Nat, (some t) = rz ∧ ft = u ∧ vp_in x0 32 ∧ pl x0.toNatClampNeg = some t ∧ kOf (P.2.1 t) (P.2.2.1 t) s0 = true) ∨ (none = rz ∧ 2 = u ∧ ¬ vp_in x0 32) ∨ (∃ t : Nat, none = rz ∧ 3 = u ∧ vp_in x0 32 ∧ pl x0.toNatClampNeg = some t ∧ kOf (P.2.1 t) (P.2.2.1 t) s0 = false) ∨ (none = rz ∧ 1 = u ∧ vp_in x0 32 ∧ pl x0.toNatClampNeg = none)) (cB (dC, dI) (fun u : Int32 => cW g ty pl ac u md Z P) A) A) (by decide) (Nat.le_of_ble_eq_true rfl) ?_
  intro p e s m below meth c A hx hb hr hml hown hg hlk hmn hP hK hD hT hS hA hsz ls hl
  have hown : s.vm.findClass RX11 = some m.cls := hown
  have hl : lv_has ls 3 [(0, .ref (g 0)), (1, .int x0), (2, .int s0)] := hl
  refine lv_aload_n hx hb dX11_needed_0 rfl (lv_at hl 0 rfl) ?_
  refine lv_iload_n hx hb dX11_needed_1 rfl (lv_at hl 1 rfl) ?_
  refine lv_iload_n hx hb dX11_needed_2 rfl (lv_at hl 2 rfl) ?_
  refine cV_i (C := RX11) (n := 2) (rest := []) hx hb hml hown hg hT (c_X11_fits l dC dI g ty s.heap.size pl ac ft md Z P x0 s0 wf ) (cv_of hg wM_X11_254 wN_X11_fits wL_X11_X11_fits wK_X11_fits wI_X11 (by decide +kernel) ⟨Nat.le_of_ble_eq_true rfl, Nat.le_of_ble_eq_true rfl⟩) hK hP hD hS hA (va_recv hK hP (ci := 13) (q0 := 0) rfl rfl) rfl hl.1 rfl (Nat.le_of_ble_eq_true rfl) dX11_needed_3 ⟨Nat.le_of_ble_eq_true rfl, Nat.le_of_ble_eq_true rfl⟩ (fun r_2 u_3 H locs q_1 hP hD hS => ?_)
  rcases q_1 with ⟨rfl, rfl, f_4, f_5⟩ | ⟨t_6, rfl, rfl, f_7, f_8, f_9⟩ | ⟨rfl, rfl, f_10⟩ | ⟨t_11, rfl, rfl, f_12, f_13, f_14⟩
  · show _
    have hP : va_P (dC, dI) vwCl (cW g ty pl ac ft md Z P) H := hP
    have hD : va_D A (cW g ty pl ac ft md Z P) := hD
    refine lv_if_eq (tgt := 31) hx hb dX11_needed_6 (by decide) (fun c9 => absurd c9 (by decide)) (fun _ => ?_)
    refine lv_aload_n hx hb dX11_needed_9 rfl (lv_at hl 0 rfl) ?_
    refine lv_aload_n hx hb dX11_needed_10 rfl (lv_at hl 0 rfl) ?_
    refine va_get (D := (dC, dI)) (ci := 13) (v := .ref (g 1)) (C := RX11) (T := TX11) (N := 12) hx hb hg inG11 hown hK hP 0 rfl rfl 0 (by decide) (hg _ wF_X11_11) (fun _ h9 => h9) rfl dX11_needed_11 ?_
    refine lv_iload_n hx hb dX11_needed_14 rfl (lv_at hl 1 rfl) ?_
    refine va_aldq hx hb hK hP 1 1 rfl rfl (by first | assumption | exact cln_lt (by assumption) (by assumption) (by assumption) | exact cln_no (by assumption) (by assumption) | exact cin_lt (by assumption) (by assumption) (by decide) | rfl) dX11_needed_15 ?_
    rw [f_5]
    refine cV_i (C := RX11) (n := 1) (rest := []) hx hb hml hown hg hT (c_X11_isThere l dC dI g ty H.size pl ac ft md Z P none ) (cv_of hg wM_X11_258 wN_X11_isThere wL_X11_X11_isThere wK_X11_isThere wI_X11 (by decide +kernel) ⟨Nat.le_of_ble_eq_true rfl, Nat.le_of_ble_eq_true rfl⟩) hK hP hD hS hA (va_recv hK hP (ci := 13) (q0 := 0) rfl rfl) rfl hl.1 rfl (Nat.le_of_ble_eq_true rfl) dX11_needed_16 ⟨Nat.le_of_ble_eq_true rfl, Nat.le_of_ble_eq_true rfl⟩ (fun r_16 u_17 H locs q_15 hP hD hS => ?_)
    rcases q_15 with ⟨rfl, rfl, f_18⟩ | ⟨rfl, rfl, f_19⟩
    · show _
      exact absurd rfl f_18
    · show _
      have hP : va_P (dC, dI) vwCl (cW g ty pl ac 1 md Z P) H := hP
      have hD : va_D A (cW g ty pl ac 1 md Z P) := hD
      refine lv_if_eq (tgt := 31) hx hb dX11_needed_19 (by decide) (fun _ => ?_) (fun c9 => absurd (by decide) c9) 
      refine lv_null hx hb dX11_needed_31 ?_
      refine cr_q (v := none) (wo := fun u : Int32 => cW g ty pl ac u md Z P) (1) hx hb hr hlk hS hP hD ?_ dX11_needed_32
      first | exact Or.inl ⟨_, rfl, rfl, (by first | assumption | exact cln_lt (by assumption) (by assumption) (by assumption) | exact cln_no (by assumption) (by assumption) | exact cin_lt (by assumption) (by assumption) (by decide) | rfl), (by first | assumption | exact cln_lt (by assumption) (by assumption) (by assumption) | exact cln_no (by assumption) (by assumption) | exact cin_lt (by assumption) (by assumption) (by decide) | rfl), (by first | assumption | exact cln_lt (by assumption) (by assumption) (by assumption) | exact cln_no (by assumption) (by assumption) | exact cin_lt (by assumption) (by assumption) (by decide) | rfl)⟩ | exact Or.inr (Or.inl ⟨rfl, rfl, (by first | assumption | exact cln_lt (by assumption) (by assumption) (by assumption) | exact cln_no (by assumption) (by assumption) | exact cin_lt (by assumption) (by assumption) (by decide) | rfl)⟩) | exact Or.inr (Or.inr (Or.inl ⟨_, rfl, rfl, (by first | assumption | exact cln_lt (by assumption) (by assumption) (by assumption) | exact cln_no (by assumption) (by assumption) | exact cin_lt (by assumption) (by assumption) (by decide) | rfl), (by first | assumption | exact cln_lt (by assumption) (by assumption) (by assumption) | exact cln_no (by assumption) (by assumption) | exact cin_lt (by assumption) (by assumption) (by decide) | rfl), (by first | assumption | exact cln_lt (by assumption) (by assumption) (by assumption) | exact cln_no (by assumption) (by assumption) | exact cin_lt (by assumption) (by assumption) (by decide) | rfl)⟩)) | exact Or.inr (Or.inr (Or.inr ⟨rfl, rfl, (by first | assumption | exact cln_lt (by assumption) (by assumption) (by assumption) | exact cln_no (by assumption) (by assumption) | exact cin_lt (by assumption) (by assumption) (by decide) | rfl), (by first | assumption | exact cln_lt (by assumption) (by assumption) (by assumption) | exact cln_no (by assumption) (by assumption) | exact cin_lt (by assumption) (by assumption) (by decide) | rfl)⟩))
  · show _
    have hP : va_P (dC, dI) vwCl (cW g ty pl ac ft md Z P) H := hP
    have hD : va_D A (cW g ty pl ac ft md Z P) := hD
    have th_20 := wf.1 _ _ f_8
    refine lv_if_eq (tgt := 31) hx hb dX11_needed_6 (by decide) (fun c9 => absurd c9 (by decide)) (fun _ => ?_)
    refine lv_aload_n hx hb dX11_needed_9 rfl (lv_at hl 0 rfl) ?_
    refine lv_aload_n hx hb dX11_needed_10 rfl (lv_at hl 0 rfl) ?_
    refine va_get (D := (dC, dI)) (ci := 13) (v := .ref (g 1)) (C := RX11) (T := TX11) (N := 12) hx hb hg inG11 hown hK hP 0 rfl rfl 0 (by decide) (hg _ wF_X11_11) (fun _ h9 => h9) rfl dX11_needed_11 ?_
    refine lv_iload_n hx hb dX11_needed_14 rfl (lv_at hl 1 rfl) ?_
    refine va_aldq hx hb hK hP 1 1 rfl rfl (by first | assumption | exact cln_lt (by assumption) (by assumption) (by assumption) | exact cln_no (by assumption) (by assumption) | exact cin_lt (by assumption) (by assumption) (by decide) | rfl) dX11_needed_15 ?_
    rw [f_8]
    refine cV_i (C := RX11) (n := 1) (rest := []) hx hb hml hown hg hT (c_X11_isThere l dC dI g ty H.size pl ac ft md Z P (some t_6) ) (cv_of hg wM_X11_258 wN_X11_isThere wL_X11_X11_isThere wK_X11_isThere wI_X11 (by decide +kernel) ⟨Nat.le_of_ble_eq_true rfl, Nat.le_of_ble_eq_true rfl⟩) hK hP hD hS hA (va_recv hK hP (ci := 13) (q0 := 0) rfl rfl) rfl hl.1 rfl (Nat.le_of_ble_eq_true rfl) dX11_needed_16 ⟨Nat.le_of_ble_eq_true rfl, Nat.le_of_ble_eq_true rfl⟩ (fun r_22 u_23 H locs q_21 hP hD hS => ?_)
    rcases q_21 with ⟨rfl, rfl, f_24⟩ | ⟨rfl, rfl, f_25⟩
    · show _
      have hP : va_P (dC, dI) vwCl (cW g ty pl ac ft md Z P) H := hP
      have hD : va_D A (cW g ty pl ac ft md Z P) := hD
      refine lv_if_eq (tgt := 31) hx hb dX11_needed_19 (by decide) (fun c9 => absurd c9 (by decide)) (fun _ => ?_)
      refine lv_aload_n hx hb dX11_needed_22 rfl (lv_at hl 0 rfl) ?_
      refine va_get (D := (dC, dI)) (ci := 13) (v := .ref (g 1)) (C := RX11) (T := TX11) (N := 12) hx hb hg inG11 hown hK hP 0 rfl rfl 0 (by decide) (hg _ wF_X11_11) (fun _ h9 => h9) rfl dX11_needed_23 ?_
      refine lv_iload_n hx hb dX11_needed_26 rfl (lv_at hl 1 rfl) ?_
      refine va_aldq hx hb hK hP 1 1 rfl rfl (by first | assumption | exact cln_lt (by assumption) (by assumption) (by assumption) | exact cln_no (by assumption) (by assumption) | exact cin_lt (by assumption) (by assumption) (by decide) | rfl) dX11_needed_27 ?_
      rw [f_8]
      refine lv_goto (tgt := 32) hx hb dX11_needed_28 (by decide) ?_
      refine cr_q (v := some t_6) (wo := fun u : Int32 => cW g ty pl ac u md Z P) (ft) hx hb hr hlk hS hP hD ?_ dX11_needed_32
      first | exact Or.inl ⟨_, rfl, rfl, (by first | assumption | exact cln_lt (by assumption) (by assumption) (by assumption) | exact cln_no (by assumption) (by assumption) | exact cin_lt (by assumption) (by assumption) (by decide) | rfl), (by first | assumption | exact cln_lt (by assumption) (by assumption) (by assumption) | exact cln_no (by assumption) (by assumption) | exact cin_lt (by assumption) (by assumption) (by decide) | rfl), (by first | assumption | exact cln_lt (by assumption) (by assumption) (by assumption) | exact cln_no (by assumption) (by assumption) | exact cin_lt (by assumption) (by assumption) (by decide) | rfl)⟩ | exact Or.inr (Or.inl ⟨rfl, rfl, (by first | assumption | exact cln_lt (by assumption) (by assumption) (by assumption) | exact cln_no (by assumption) (by assumption) | exact cin_lt (by assumption) (by assumption) (by decide) | rfl)⟩) | exact Or.inr (Or.inr (Or.inl ⟨_, rfl, rfl, (by first | assumption | exact cln_lt (by assumption) (by assumption) (by assumption) | exact cln_no (by assumption) (by assumption) | exact cin_lt (by assumption) (by assumption) (by decide) | rfl), (by first | assumption | exact cln_lt (by assumption) (by assumption) (by assumption) | exact cln_no (by assumption) (by assumption) | exact cin_lt (by assumption) (by assumption) (by decide) | rfl), (by first | assumption | exact cln_lt (by assumption) (by assumption) (by assumption) | exact cln_no (by assumption) (by assumption) | exact cin_lt (by assumption) (by assumption) (by decide) | rfl)⟩)) | exact Or.inr (Or.inr (Or.inr ⟨rfl, rfl, (by first | assumption | exact cln_lt (by assumption) (by assumption) (by assumption) | exact cln_no (by assumption) (by assumption) | exact cin_lt (by assumption) (by assumption) (by decide) | rfl), (by first | assumption | exact cln_lt (by assumption) (by assumption) (by assumption) | exact cln_no (by assumption) (by assumption) | exact cin_lt (by assumption) (by assumption) (by decide) | rfl)⟩))
    · show _
      cases f_25
  · show _
    have hP : va_P (dC, dI) vwCl (cW g ty pl ac 2 md Z P) H := hP
    have hD : va_D A (cW g ty pl ac 2 md Z P) := hD
    refine lv_if_eq (tgt := 31) hx hb dX11_needed_6 (by decide) (fun _ => ?_) (fun c9 => absurd (by decide) c9) 
    refine lv_null hx hb dX11_needed_31 ?_
    refine cr_q (v := none) (wo := fun u : Int32 => cW g ty pl ac u md Z P) (2) hx hb hr hlk hS hP hD ?_ dX11_needed_32
    first | exact Or.inl ⟨_, rfl, rfl, (by first | assumption | exact cln_lt (by assumption) (by assumption) (by assumption) | exact cln_no (by assumption) (by assumption) | exact cin_lt (by assumption) (by assumption) (by decide) | rfl), (by first | assumption | exact cln_lt (by assumption) (by assumption) (by assumption) | exact cln_no (by assumption) (by assumption) | exact cin_lt (by assumption) (by assumption) (by decide) | rfl), (by first | assumption | exact cln_lt (by assumption) (by assumption) (by assumption) | exact cln_no (by assumption) (by assumption) | exact cin_lt (by assumption) (by assumption) (by decide) | rfl)⟩ | exact Or.inr (Or.inl ⟨rfl, rfl, (by first | assumption | exact cln_lt (by assumption) (by assumption) (by assumption) | exact cln_no (by assumption) (by assumption) | exact cin_lt (by assumption) (by assumption) (by decide) | rfl)⟩) | exact Or.inr (Or.inr (Or.inl ⟨_, rfl, rfl, (by first | assumption | exact cln_lt (by assumption) (by assumption) (by assumption) | exact cln_no (by assumption) (by assumption) | exact cin_lt (by assumption) (by assumption) (by decide) | rfl), (by first | assumption | exact cln_lt (by assumption) (by assumption) (by assumption) | exact cln_no (by assumption) (by assumption) | exact cin_lt (by assumption) (by assumption) (by decide) | rfl), (by first | assumption | exact cln_lt (by assumption) (by assumption) (by assumption) | exact cln_no (by assumption) (by assumption) | exact cin_lt (by assumption) (by assumption) (by decide) | rfl)⟩)) | exact Or.inr (Or.inr (Or.inr ⟨rfl, rfl, (by first | assumption | exact cln_lt (by assumption) (by assumption) (by assumption) | exact cln_no (by assumption) (by assumption) | exact cin_lt (by assumption) (by assumption) (by decide) | rfl), (by first | assumption | exact cln_lt (by assumption) (by assumption) (by assumption) | exact cln_no (by assumption) (by assumption) | exact cin_lt (by assumption) (by assumption) (by decide) | rfl)⟩))
  · show _
    have hP : va_P (dC, dI) vwCl (cW g ty pl ac 3 md Z P) H := hP
    have hD : va_D A (cW g ty pl ac 3 md Z P) := hD
    have th_26 := wf.1 _ _ f_13
    refine lv_if_eq (tgt := 31) hx hb dX11_needed_6 (by decide) (fun _ => ?_) (fun c9 => absurd (by decide) c9) 
    refine lv_null hx hb dX11_needed_31 ?_
    refine cr_q (v := none) (wo := fun u : Int32 => cW g ty pl ac u md Z P) (3) hx hb hr hlk hS hP hD ?_ dX11_needed_32
    first | exact Or.inl ⟨_, rfl, rfl, (by first | assumption | exact cln_lt (by assumption) (by assumption) (by assumption) | exact cln_no (by assumption) (by assumption) | exact cin_lt (by assumption) (by assumption) (by decide) | rfl), (by first | assumption | exact cln_lt (by assumption) (by assumption) (by assumption) | exact cln_no (by assumption) (by assumption) | exact cin_lt (by assumption) (by assumption) (by decide) | rfl), (by first | assumption | exact cln_lt (by assumption) (by assumption) (by assumption) | exact cln_no (by assumption) (by assumption) | exact cin_lt (by assumption) (by assumption) (by decide) | rfl)⟩ | exact Or.inr (Or.inl ⟨rfl, rfl, (by first | assumption | exact cln_lt (by assumption) (by assumption) (by assumption) | exact cln_no (by assumption) (by assumption) | exact cin_lt (by assumption) (by assumption) (by decide) | rfl)⟩) | exact Or.inr (Or.inr (Or.inl ⟨_, rfl, rfl, (by first | assumption | exact cln_lt (by assumption) (by assumption) (by assumption) | exact cln_no (by assumption) (by assumption) | exact cin_lt (by assumption) (by assumption) (by decide) | rfl), (by first | assumption | exact cln_lt (by assumption) (by assumption) (by assumption) | exact cln_no (by assumption) (by assumption) | exact cin_lt (by assumption) (by assumption) (by decide) | rfl), (by first | assumption | exact cln_lt (by assumption) (by assumption) (by assumption) | exact cln_no (by assumption) (by assumption) | exact cin_lt (by assumption) (by assumption) (by decide) | rfl)⟩)) | exact Or.inr (Or.inr (Or.inr ⟨rfl, rfl, (by first | assumption | exact cln_lt (by assumption) (by assumption) (by assumption) | exact cln_no (by assumption) (by assumption) | exact cin_lt (by assumption) (by assumption) (by decide) | rfl), (by first | assumption | exact cln_lt (by assumption) (by assumption) (by assumption) | exact cln_no (by assumption) (by assumption) | exact cin_lt (by assumption) (by assumption) (by decide) | rfl)⟩))
set_option maxHeartbeats 4000000 in
set_option maxRecDepth 100000 in
theorem c_X11_holdsSort (l : Launch) (dC : Nat → ClassId) (dI : Nat → Nat → Nat) (g : Nat → Nat) (ty : Nat → ClassId) (sz : Nat) (pl : Nat → Option Nat) (ac : Int64) (ft : Int32) (md : Int32) (Z : cZ) (P : cQ) (x0 : Int32) (s0 : Int32) (wf : cWF pl P) : Met l yX11_holdsSort (Cond.code yX11_holdsSort cX11_holdsSort 3 (some .long) :: gT) ({ frames := 2, cells := 0, slots := 0, locals := 42 }) (cP (dC, dI) (cTy ty) (cW g ty pl ac ft md Z P) sz [.ref (g 0), .int x0, .int s0]) (va_Ql (fun (rz : Int64) (u : Int32) => (0 = rz ∧ 2 = u ∧ ¬ vp_in x0 32) ∨ (0 = rz ∧ ft = u ∧ vp_in x0 32 ∧ pl x0.toNatClampNeg = none) ∨ (∃ t : Nat, 1 = rz ∧ ft = u ∧ vp_in x0 32 ∧ pl x0.toNatClampNeg = some t ∧ kOf (P.2.1 t) (P.2.2.1 t) (s0 &&& 15) = true) ∨ (∃ t : Nat, 0 = rz ∧ ft = u ∧ vp_in x0 32 ∧ pl x0.toNatClampNeg = some t ∧ kOf (P.2.1 t) (P.2.2.1 t) (s0 &&& 15) = false)) (cB (dC, dI) (fun u : Int32 => cW g ty pl ac u md Z P) (va_A (cW g ty pl ac ft md Z P) sz)) (va_A (cW g ty pl ac ft md Z P) sz)) 0 0 (va_A (cW g ty pl ac ft md Z P) sz) := by
  refine cc_of (Qa := fun A => va_Ql (fun (rz : Int64) (u : Int32) => (0 = rz ∧ 2 = u ∧ ¬ vp_in x0 32) ∨ (0 = rz ∧ ft = u ∧ vp_in x0 32 ∧ pl x0.toNatClampNeg = none) ∨ (∃ t : Nat, 1 = rz ∧ ft = u ∧ vp_in x0 32 ∧ pl x0.toNatClampNeg = some t ∧ kOf (P.2.1 t) (P.2.2.1 t) (s0 &&& 15) = true) ∨ (∃ t : Nat, 0 = rz ∧ ft = u ∧ vp_in x0 32 ∧ pl x0.toNatClampNeg = some t ∧ kOf (P.2.1 t) (P.2.2.1 t) (s0 &&& 15) = false)) (cB (dC, dI) (fun u : Int32 => cW g ty pl ac u md Z P) A) A) (by decide) (Nat.le_of_ble_eq_true rfl) ?_
  intro p e s m below meth c A hx hb hr hml hown hg hlk hmn hP hK hD hT hS hA hsz ls hl
  have hown : s.vm.findClass RX11 = some m.cls := hown
  have hl : lv_has ls 3 [(0, .ref (g 0)), (1, .int x0), (2, .int s0)] := hl
  refine lv_aload_n hx hb dX11_holdsSort_0 rfl (lv_at hl 0 rfl) ?_
  refine lv_iload_n hx hb dX11_holdsSort_1 rfl (lv_at hl 1 rfl) ?_
  refine cV_i (C := RX11) (n := 1) (rest := []) hx hb hml hown hg hT (c_X11_isPlace l dC dI g ty s.heap.size pl ac ft md Z P x0 ) (cv_of hg wM_X11_248 wN_X11_isPlace wL_X11_X11_isPlace wK_X11_isPlace wI_X11 (by decide +kernel) ⟨Nat.le_of_ble_eq_true rfl, Nat.le_of_ble_eq_true rfl⟩) hK hP hD hS hA (va_recv hK hP (ci := 13) (q0 := 0) rfl rfl) rfl hl.1 rfl (Nat.le_of_ble_eq_true rfl) dX11_holdsSort_2 ⟨Nat.le_of_ble_eq_true rfl, Nat.le_of_ble_eq_true rfl⟩ (fun r_2 u_3 H locs q_1 hP hD hS => ?_)
  rcases q_1 with ⟨rfl, rfl, f_4⟩ | ⟨rfl, rfl, f_5⟩
  · show _
    have hP : va_P (dC, dI) vwCl (cW g ty pl ac ft md Z P) H := hP
    have hD : va_D A (cW g ty pl ac ft md Z P) := hD
    refine lv_if_eq (tgt := 37) hx hb dX11_holdsSort_5 (by decide) (fun c9 => absurd c9 (by decide)) (fun _ => ?_)
    refine lv_aload_n hx hb dX11_holdsSort_8 rfl (lv_at hl 0 rfl) ?_
    refine va_get (D := (dC, dI)) (ci := 13) (v := .ref (g 1)) (C := RX11) (T := TX11) (N := 12) hx hb hg inG11 hown hK hP 0 rfl rfl 0 (by decide) (hg _ wF_X11_11) (fun _ h9 => h9) rfl dX11_holdsSort_9 ?_
    refine lv_iload_n hx hb dX11_holdsSort_12 rfl (lv_at hl 1 rfl) ?_
    refine va_aldq hx hb hK hP 1 1 rfl rfl (by first | assumption | exact cln_lt (by assumption) (by assumption) (by assumption) | exact cln_no (by assumption) (by assumption) | exact cin_lt (by assumption) (by assumption) (by decide) | rfl) dX11_holdsSort_13 ?_
    obtain ⟨o_6, ho_6⟩ : ∃ z, z = pl x0.toNatClampNeg := ⟨_, rfl⟩
    rw [← ho_6]
    cases o_6 with
    | none =>
      have ho_6 := ho_6.symm
      refine lv_ifnullN (tgt := 37) hx hb dX11_holdsSort_14 (by decide) ?_
      refine lv_lconst (v := 0) hx hb dX11_holdsSort_37 (by decide) ?_
      refine cr_l (wo := fun u : Int32 => cW g ty pl ac u md Z P) (ft) hx hb hr hlk hS hP hD ?_ dX11_holdsSort_38
      first | exact Or.inl ⟨rfl, rfl, (by first | assumption | exact cln_lt (by assumption) (by assumption) (by assumption) | exact cln_no (by assumption) (by assumption) | exact cin_lt (by assumption) (by assumption) (by decide) | rfl)⟩ | exact Or.inr (Or.inl ⟨rfl, rfl, (by first | assumption | exact cln_lt (by assumption) (by assumption) (by assumption) | exact cln_no (by assumption) (by assumption) | exact cin_lt (by assumption) (by assumption) (by decide) | rfl), (by first | assumption | exact cln_lt (by assumption) (by assumption) (by assumption) | exact cln_no (by assumption) (by assumption) | exact cin_lt (by assumption) (by assumption) (by decide) | rfl)⟩) | exact Or.inr (Or.inr (Or.inr ⟨_, rfl, rfl, (by first | assumption | exact cln_lt (by assumption) (by assumption) (by assumption) | exact cln_no (by assumption) (by assumption) | exact cin_lt (by assumption) (by assumption) (by decide) | rfl), (by first | assumption | exact cln_lt (by assumption) (by assumption) (by assumption) | exact cln_no (by assumption) (by assumption) | exact cin_lt (by assumption) (by assumption) (by decide) | rfl), (by first | assumption | exact cln_lt (by assumption) (by assumption) (by assumption) | exact cln_no (by assumption) (by assumption) | exact cin_lt (by assumption) (by assumption) (by decide) | rfl)⟩))
    | some t_7 =>
      have ho_6 := ho_6.symm
      have th_8 := wf.1 _ _ ho_6
      refine lv_ifnull hx hb dX11_holdsSort_14 ?_
      refine lv_aload_n hx hb dX11_holdsSort_17 rfl (lv_at hl 0 rfl) ?_
      refine va_get (D := (dC, dI)) (ci := 13) (v := .ref (g 1)) (C := RX11) (T := TX11) (N := 12) hx hb hg inG11 hown hK hP 0 rfl rfl 0 (by decide) (hg _ wF_X11_11) (fun _ h9 => h9) rfl dX11_holdsSort_18 ?_
      refine lv_iload_n hx hb dX11_holdsSort_21 rfl (lv_at hl 1 rfl) ?_
      refine va_aldq hx hb hK hP 1 1 rfl rfl (by first | assumption | exact cln_lt (by assumption) (by assumption) (by assumption) | exact cln_no (by assumption) (by assumption) | exact cin_lt (by assumption) (by assumption) (by decide) | rfl) dX11_holdsSort_22 ?_
      rw [ho_6]
      refine lv_iload_n hx hb dX11_holdsSort_23 rfl (lv_at hl 2 rfl) ?_
      refine lv_bipush (v := 15) hx hb dX11_holdsSort_24 (by decide) ?_
      refine lv_iand hx hb dX11_holdsSort_26 ?_
      refine cI_isOf (s0 := (s0 &&& 15)) hx hb hml hown hg hT wM_X11_251 hK hP hD hS hA th_8.1 th_8.2 hl.1 (Nat.le_of_ble_eq_true rfl) dX11_holdsSort_27 ⟨Nat.le_of_ble_eq_true rfl, Nat.le_of_ble_eq_true rfl⟩ ⟨Nat.le_of_ble_eq_true rfl, Nat.le_of_ble_eq_true rfl⟩ (fun H locs c_9 hP hS => ?_) (fun H locs c_9 hP hS => ?_)
      · show _
        refine lv_if_eq (tgt := 37) hx hb dX11_holdsSort_30 (by decide) (fun c9 => absurd c9 (by decide)) (fun _ => ?_)
        refine lv_lconst (v := 1) hx hb dX11_holdsSort_33 (by decide) ?_
        refine lv_goto (tgt := 38) hx hb dX11_holdsSort_34 (by decide) ?_
        refine cr_l (wo := fun u : Int32 => cW g ty pl ac u md Z P) (ft) hx hb hr hlk hS hP hD ?_ dX11_holdsSort_38
        exact Or.inr (Or.inr (Or.inl ⟨_, rfl, rfl, (by first | assumption | exact cln_lt (by assumption) (by assumption) (by assumption) | exact cln_no (by assumption) (by assumption) | exact cin_lt (by assumption) (by assumption) (by decide) | rfl), (by first | assumption | exact cln_lt (by assumption) (by assumption) (by assumption) | exact cln_no (by assumption) (by assumption) | exact cin_lt (by assumption) (by assumption) (by decide) | rfl), (by first | assumption | exact cln_lt (by assumption) (by assumption) (by assumption) | exact cln_no (by assumption) (by assumption) | exact cin_lt (by assumption) (by assumption) (by decide) | rfl)⟩))
      · show _
        refine lv_if_eq (tgt := 37) hx hb dX11_holdsSort_30 (by decide) (fun _ => ?_) (fun c9 => absurd (by decide) c9) 
        refine lv_lconst (v := 0) hx hb dX11_holdsSort_37 (by decide) ?_
        refine cr_l (wo := fun u : Int32 => cW g ty pl ac u md Z P) (ft) hx hb hr hlk hS hP hD ?_ dX11_holdsSort_38
        first | exact Or.inl ⟨rfl, rfl, (by first | assumption | exact cln_lt (by assumption) (by assumption) (by assumption) | exact cln_no (by assumption) (by assumption) | exact cin_lt (by assumption) (by assumption) (by decide) | rfl)⟩ | exact Or.inr (Or.inl ⟨rfl, rfl, (by first | assumption | exact cln_lt (by assumption) (by assumption) (by assumption) | exact cln_no (by assumption) (by assumption) | exact cin_lt (by assumption) (by assumption) (by decide) | rfl), (by first | assumption | exact cln_lt (by assumption) (by assumption) (by assumption) | exact cln_no (by assumption) (by assumption) | exact cin_lt (by assumption) (by assumption) (by decide) | rfl)⟩) | exact Or.inr (Or.inr (Or.inr ⟨_, rfl, rfl, (by first | assumption | exact cln_lt (by assumption) (by assumption) (by assumption) | exact cln_no (by assumption) (by assumption) | exact cin_lt (by assumption) (by assumption) (by decide) | rfl), (by first | assumption | exact cln_lt (by assumption) (by assumption) (by assumption) | exact cln_no (by assumption) (by assumption) | exact cin_lt (by assumption) (by assumption) (by decide) | rfl), (by first | assumption | exact cln_lt (by assumption) (by assumption) (by assumption) | exact cln_no (by assumption) (by assumption) | exact cin_lt (by assumption) (by assumption) (by decide) | rfl)⟩))
  · show _
    have hP : va_P (dC, dI) vwCl (cW g ty pl ac 2 md Z P) H := hP
    have hD : va_D A (cW g ty pl ac 2 md Z P) := hD
    refine lv_if_eq (tgt := 37) hx hb dX11_holdsSort_5 (by decide) (fun _ => ?_) (fun c9 => absurd (by decide) c9) 
    refine lv_lconst (v := 0) hx hb dX11_holdsSort_37 (by decide) ?_
    refine cr_l (wo := fun u : Int32 => cW g ty pl ac u md Z P) (2) hx hb hr hlk hS hP hD ?_ dX11_holdsSort_38
    first | exact Or.inl ⟨rfl, rfl, (by first | assumption | exact cln_lt (by assumption) (by assumption) (by assumption) | exact cln_no (by assumption) (by assumption) | exact cin_lt (by assumption) (by assumption) (by decide) | rfl)⟩ | exact Or.inr (Or.inl ⟨rfl, rfl, (by first | assumption | exact cln_lt (by assumption) (by assumption) (by assumption) | exact cln_no (by assumption) (by assumption) | exact cin_lt (by assumption) (by assumption) (by decide) | rfl), (by first | assumption | exact cln_lt (by assumption) (by assumption) (by assumption) | exact cln_no (by assumption) (by assumption) | exact cin_lt (by assumption) (by assumption) (by decide) | rfl)⟩) | exact Or.inr (Or.inr (Or.inr ⟨_, rfl, rfl, (by first | assumption | exact cln_lt (by assumption) (by assumption) (by assumption) | exact cln_no (by assumption) (by assumption) | exact cin_lt (by assumption) (by assumption) (by decide) | rfl), (by first | assumption | exact cln_lt (by assumption) (by assumption) (by assumption) | exact cln_no (by assumption) (by assumption) | exact cin_lt (by assumption) (by assumption) (by decide) | rfl), (by first | assumption | exact cln_lt (by assumption) (by assumption) (by assumption) | exact cln_no (by assumption) (by assumption) | exact cin_lt (by assumption) (by assumption) (by decide) | rfl)⟩))
set_option maxHeartbeats 4000000 in
set_option maxRecDepth 100000 in
theorem c_X11_clear (l : Launch) (dC : Nat → ClassId) (dI : Nat → Nat → Nat) (g : Nat → Nat) (ty : Nat → ClassId) (sz : Nat) (pl : Nat → Option Nat) (ac : Int64) (ft : Int32) (md : Int32) (Z : cZ) (P : cQ) (x0 : Int32) : Met l yX11_clear (Cond.code yX11_clear cX11_clear 2 (some .long) :: gT) ({ frames := 2, cells := 0, slots := 0, locals := 42 }) (cP (dC, dI) (cTy ty) (cW g ty pl ac ft md Z P) sz [.ref (g 0), .int x0]) (va_Ql (fun (rz : Int64) (u : (Nat → Option Nat) × Int32) => (0 = rz ∧ (pl, 2) = u ∧ ¬ vp_in x0 32) ∨ (0 = rz ∧ (va_up pl x0.toNatClampNeg none, ft) = u ∧ vp_in x0 32)) (cB (dC, dI) (fun u : (Nat → Option Nat) × Int32 => cW g ty u.1 ac u.2 md Z P) (va_A (cW g ty pl ac ft md Z P) sz)) (va_A (cW g ty pl ac ft md Z P) sz)) 0 0 (va_A (cW g ty pl ac ft md Z P) sz) := by
  refine cc_of (Qa := fun A => va_Ql (fun (rz : Int64) (u : (Nat → Option Nat) × Int32) => (0 = rz ∧ (pl, 2) = u ∧ ¬ vp_in x0 32) ∨ (0 = rz ∧ (va_up pl x0.toNatClampNeg none, ft) = u ∧ vp_in x0 32)) (cB (dC, dI) (fun u : (Nat → Option Nat) × Int32 => cW g ty u.1 ac u.2 md Z P) A) A) (by decide) (Nat.le_of_ble_eq_true rfl) ?_
  intro p e s m below meth c A hx hb hr hml hown hg hlk hmn hP hK hD hT hS hA hsz ls hl
  have hown : s.vm.findClass RX11 = some m.cls := hown
  have hl : lv_has ls 2 [(0, .ref (g 0)), (1, .int x0)] := hl
  refine lv_aload_n hx hb dX11_clear_0 rfl (lv_at hl 0 rfl) ?_
  refine lv_iload_n hx hb dX11_clear_1 rfl (lv_at hl 1 rfl) ?_
  refine cV_i (C := RX11) (n := 1) (rest := []) hx hb hml hown hg hT (c_X11_isPlace l dC dI g ty s.heap.size pl ac ft md Z P x0 ) (cv_of hg wM_X11_248 wN_X11_isPlace wL_X11_X11_isPlace wK_X11_isPlace wI_X11 (by decide +kernel) ⟨Nat.le_of_ble_eq_true rfl, Nat.le_of_ble_eq_true rfl⟩) hK hP hD hS hA (va_recv hK hP (ci := 13) (q0 := 0) rfl rfl) rfl hl.1 rfl (Nat.le_of_ble_eq_true rfl) dX11_clear_2 ⟨Nat.le_of_ble_eq_true rfl, Nat.le_of_ble_eq_true rfl⟩ (fun r_2 u_3 H locs q_1 hP hD hS => ?_)
  rcases q_1 with ⟨rfl, rfl, f_4⟩ | ⟨rfl, rfl, f_5⟩
  · show _
    have hP : va_P (dC, dI) vwCl (cW g ty pl ac ft md Z P) H := hP
    have hD : va_D A (cW g ty pl ac ft md Z P) := hD
    refine lv_if_eq (tgt := 15) hx hb dX11_clear_5 (by decide) (fun c9 => absurd c9 (by decide)) (fun _ => ?_)
    refine lv_aload_n hx hb dX11_clear_8 rfl (lv_at hl 0 rfl) ?_
    refine va_get (D := (dC, dI)) (ci := 13) (v := .ref (g 1)) (C := RX11) (T := TX11) (N := 12) hx hb hg inG11 hown hK hP 0 rfl rfl 0 (by decide) (hg _ wF_X11_11) (fun _ h9 => h9) rfl dX11_clear_9 ?_
    refine lv_iload_n hx hb dX11_clear_12 rfl (lv_at hl 1 rfl) ?_
    refine lv_null hx hb dX11_clear_13 ?_
    refine va_astqN hx hb hK hP hD hS 1 1 rfl rfl (by first | assumption | exact cln_lt (by assumption) (by assumption) (by assumption) | exact cln_no (by assumption) (by assumption) | exact cin_lt (by assumption) (by assumption) (by decide) | rfl) dX11_clear_14 (fun H locs hP hD hS => ?_)
    have hP : va_P (dC, dI) vwCl (cW g ty (va_up pl x0.toNatClampNeg none) ac ft md Z P) H := hP
    have hD : va_D A (cW g ty (va_up pl x0.toNatClampNeg none) ac ft md Z P) := hD
    refine lv_lconst (v := 0) hx hb dX11_clear_15 (by decide) ?_
    refine cr_l (wo := fun u : (Nat → Option Nat) × Int32 => cW g ty u.1 ac u.2 md Z P) (((va_up pl x0.toNatClampNeg none), ft)) hx hb hr hlk hS hP hD ?_ dX11_clear_16
    first | exact Or.inl ⟨rfl, rfl, (by first | assumption | exact cln_lt (by assumption) (by assumption) (by assumption) | exact cln_no (by assumption) (by assumption) | exact cin_lt (by assumption) (by assumption) (by decide) | rfl)⟩ | exact Or.inr ⟨rfl, rfl, (by first | assumption | exact cln_lt (by assumption) (by assumption) (by assumption) | exact cln_no (by assumption) (by assumption) | exact cin_lt (by assumption) (by assumption) (by decide) | rfl)⟩
  · show _
    have hP : va_P (dC, dI) vwCl (cW g ty pl ac 2 md Z P) H := hP
    have hD : va_D A (cW g ty pl ac 2 md Z P) := hD
    refine lv_if_eq (tgt := 15) hx hb dX11_clear_5 (by decide) (fun _ => ?_) (fun c9 => absurd (by decide) c9) 
    refine lv_lconst (v := 0) hx hb dX11_clear_15 (by decide) ?_
    refine cr_l (wo := fun u : (Nat → Option Nat) × Int32 => cW g ty u.1 ac u.2 md Z P) ((pl, 2)) hx hb hr hlk hS hP hD ?_ dX11_clear_16
    first | exact Or.inl ⟨rfl, rfl, (by first | assumption | exact cln_lt (by assumption) (by assumption) (by assumption) | exact cln_no (by assumption) (by assumption) | exact cin_lt (by assumption) (by assumption) (by decide) | rfl)⟩ | exact Or.inr ⟨rfl, rfl, (by first | assumption | exact cln_lt (by assumption) (by assumption) (by assumption) | exact cln_no (by assumption) (by assumption) | exact cin_lt (by assumption) (by assumption) (by decide) | rfl)⟩
set_option maxHeartbeats 4000000 in
set_option maxRecDepth 100000 in
theorem c_X11_move (l : Launch) (dC : Nat → ClassId) (dI : Nat → Nat → Nat) (g : Nat → Nat) (ty : Nat → ClassId) (sz : Nat) (pl : Nat → Option Nat) (ac : Int64) (ft : Int32) (md : Int32) (Z : cZ) (P : cQ) (x0 : Int32) (y0 : Int32) (wf : cWF pl P) : Met l yX11_move (Cond.code yX11_move cX11_move 3 (some .long) :: gT) ({ frames := 2, cells := 0, slots := 0, locals := 42 }) (cP (dC, dI) (cTy ty) (cW g ty pl ac ft md Z P) sz [.ref (g 0), .int x0, .int y0]) (va_Ql (fun (rz : Int64) (u : (Nat → Option Nat) × Int32) => (0 = rz ∧ (pl, 2) = u ∧ ¬ vp_in y0 32) ∨ (0 = rz ∧ (pl, 2) = u ∧ vp_in y0 32 ∧ ¬ vp_in x0 32) ∨ (0 = rz ∧ (va_up pl y0.toNatClampNeg (pl x0.toNatClampNeg), ft) = u ∧ vp_in y0 32 ∧ vp_in x0 32)) (cB (dC, dI) (fun u : (Nat → Option Nat) × Int32 => cW g ty u.1 ac u.2 md Z P) (va_A (cW g ty pl ac ft md Z P) sz)) (va_A (cW g ty pl ac ft md Z P) sz)) 0 0 (va_A (cW g ty pl ac ft md Z P) sz) := by
  refine cc_of (Qa := fun A => va_Ql (fun (rz : Int64) (u : (Nat → Option Nat) × Int32) => (0 = rz ∧ (pl, 2) = u ∧ ¬ vp_in y0 32) ∨ (0 = rz ∧ (pl, 2) = u ∧ vp_in y0 32 ∧ ¬ vp_in x0 32) ∨ (0 = rz ∧ (va_up pl y0.toNatClampNeg (pl x0.toNatClampNeg), ft) = u ∧ vp_in y0 32 ∧ vp_in x0 32)) (cB (dC, dI) (fun u : (Nat → Option Nat) × Int32 => cW g ty u.1 ac u.2 md Z P) A) A) (by decide) (Nat.le_of_ble_eq_true rfl) ?_
  intro p e s m below meth c A hx hb hr hml hown hg hlk hmn hP hK hD hT hS hA hsz ls hl
  have hown : s.vm.findClass RX11 = some m.cls := hown
  have hl : lv_has ls 3 [(0, .ref (g 0)), (1, .int x0), (2, .int y0)] := hl
  refine lv_aload_n hx hb dX11_move_0 rfl (lv_at hl 0 rfl) ?_
  refine lv_iload_n hx hb dX11_move_1 rfl (lv_at hl 2 rfl) ?_
  refine cV_i (C := RX11) (n := 1) (rest := []) hx hb hml hown hg hT (c_X11_isPlace l dC dI g ty s.heap.size pl ac ft md Z P y0 ) (cv_of hg wM_X11_248 wN_X11_isPlace wL_X11_X11_isPlace wK_X11_isPlace wI_X11 (by decide +kernel) ⟨Nat.le_of_ble_eq_true rfl, Nat.le_of_ble_eq_true rfl⟩) hK hP hD hS hA (va_recv hK hP (ci := 13) (q0 := 0) rfl rfl) rfl hl.1 rfl (Nat.le_of_ble_eq_true rfl) dX11_move_2 ⟨Nat.le_of_ble_eq_true rfl, Nat.le_of_ble_eq_true rfl⟩ (fun r_2 u_3 H locs q_1 hP hD hS => ?_)
  rcases q_1 with ⟨rfl, rfl, f_4⟩ | ⟨rfl, rfl, f_5⟩
  · show _
    have hP : va_P (dC, dI) vwCl (cW g ty pl ac ft md Z P) H := hP
    have hD : va_D A (cW g ty pl ac ft md Z P) := hD
    refine lv_if_eq (tgt := 28) hx hb dX11_move_5 (by decide) (fun c9 => absurd c9 (by decide)) (fun _ => ?_)
    refine lv_aload_n hx hb dX11_move_8 rfl (lv_at hl 0 rfl) ?_
    refine lv_iload_n hx hb dX11_move_9 rfl (lv_at hl 1 rfl) ?_
    refine cV_i (C := RX11) (n := 1) (rest := []) hx hb hml hown hg hT (c_X11_isPlace l dC dI g ty H.size pl ac ft md Z P x0 ) (cv_of hg wM_X11_248 wN_X11_isPlace wL_X11_X11_isPlace wK_X11_isPlace wI_X11 (by decide +kernel) ⟨Nat.le_of_ble_eq_true rfl, Nat.le_of_ble_eq_true rfl⟩) hK hP hD hS hA (va_recv hK hP (ci := 13) (q0 := 0) rfl rfl) rfl hl.1 rfl (Nat.le_of_ble_eq_true rfl) dX11_move_10 ⟨Nat.le_of_ble_eq_true rfl, Nat.le_of_ble_eq_true rfl⟩ (fun r_7 u_8 H locs q_6 hP hD hS => ?_)
    rcases q_6 with ⟨rfl, rfl, f_9⟩ | ⟨rfl, rfl, f_10⟩
    · show _
      have hP : va_P (dC, dI) vwCl (cW g ty pl ac ft md Z P) H := hP
      have hD : va_D A (cW g ty pl ac ft md Z P) := hD
      refine lv_if_eq (tgt := 28) hx hb dX11_move_13 (by decide) (fun c9 => absurd c9 (by decide)) (fun _ => ?_)
      refine lv_aload_n hx hb dX11_move_16 rfl (lv_at hl 0 rfl) ?_
      refine va_get (D := (dC, dI)) (ci := 13) (v := .ref (g 1)) (C := RX11) (T := TX11) (N := 12) hx hb hg inG11 hown hK hP 0 rfl rfl 0 (by decide) (hg _ wF_X11_11) (fun _ h9 => h9) rfl dX11_move_17 ?_
      refine lv_iload_n hx hb dX11_move_20 rfl (lv_at hl 2 rfl) ?_
      refine lv_aload_n hx hb dX11_move_21 rfl (lv_at hl 0 rfl) ?_
      refine va_get (D := (dC, dI)) (ci := 13) (v := .ref (g 1)) (C := RX11) (T := TX11) (N := 12) hx hb hg inG11 hown hK hP 0 rfl rfl 0 (by decide) (hg _ wF_X11_11) (fun _ h9 => h9) rfl dX11_move_22 ?_
      refine lv_iload_n hx hb dX11_move_25 rfl (lv_at hl 1 rfl) ?_
      refine va_aldq hx hb hK hP 1 1 rfl rfl (by first | assumption | exact cln_lt (by assumption) (by assumption) (by assumption) | exact cln_no (by assumption) (by assumption) | exact cin_lt (by assumption) (by assumption) (by decide) | rfl) dX11_move_26 ?_
      obtain ⟨o_11, ho_11⟩ : ∃ z, z = pl x0.toNatClampNeg := ⟨_, rfl⟩
      rw [← ho_11]
      cases o_11 with
      | none =>
        have ho_11 := ho_11.symm
        refine va_astqN hx hb hK hP hD hS 1 1 rfl rfl (by first | assumption | exact cln_lt (by assumption) (by assumption) (by assumption) | exact cln_no (by assumption) (by assumption) | exact cin_lt (by assumption) (by assumption) (by decide) | rfl) dX11_move_27 (fun H locs hP hD hS => ?_)
        have hP : va_P (dC, dI) vwCl (cW g ty (va_up pl y0.toNatClampNeg none) ac ft md Z P) H := hP
        have hD : va_D A (cW g ty (va_up pl y0.toNatClampNeg none) ac ft md Z P) := hD
        refine lv_lconst (v := 0) hx hb dX11_move_28 (by decide) ?_
        refine cr_l (wo := fun u : (Nat → Option Nat) × Int32 => cW g ty u.1 ac u.2 md Z P) (((va_up pl y0.toNatClampNeg none), ft)) hx hb hr hlk hS hP hD ?_ dX11_move_29
        first | exact Or.inl ⟨rfl, rfl, (by first | assumption | exact cln_lt (by assumption) (by assumption) (by assumption) | exact cln_no (by assumption) (by assumption) | exact cin_lt (by assumption) (by assumption) (by decide) | rfl)⟩ | exact Or.inr (Or.inl ⟨rfl, rfl, (by first | assumption | exact cln_lt (by assumption) (by assumption) (by assumption) | exact cln_no (by assumption) (by assumption) | exact cin_lt (by assumption) (by assumption) (by decide) | rfl), (by first | assumption | exact cln_lt (by assumption) (by assumption) (by assumption) | exact cln_no (by assumption) (by assumption) | exact cin_lt (by assumption) (by assumption) (by decide) | rfl)⟩) | exact Or.inr (Or.inr ⟨rfl, (by first | rfl | simp_all), (by first | assumption | exact cln_lt (by assumption) (by assumption) (by assumption) | exact cln_no (by assumption) (by assumption) | exact cin_lt (by assumption) (by assumption) (by decide) | rfl), (by first | assumption | exact cln_lt (by assumption) (by assumption) (by assumption) | exact cln_no (by assumption) (by assumption) | exact cin_lt (by assumption) (by assumption) (by decide) | rfl)⟩)
      | some t_12 =>
        have ho_11 := ho_11.symm
        have th_13 := wf.1 _ _ ho_11
        refine va_astqM hx hb hK hP hD hS 1 1 rfl rfl (cI_any hT hK hP th_13.1 th_13.2) (by first | assumption | exact cln_lt (by assumption) (by assumption) (by assumption) | exact cln_no (by assumption) (by assumption) | exact cin_lt (by assumption) (by assumption) (by decide) | rfl) dX11_move_27 (fun H locs hP hD hS => ?_)
        have hP : va_P (dC, dI) vwCl (cW g ty (va_up pl y0.toNatClampNeg (some t_12)) ac ft md Z P) H := hP
        have hD : va_D A (cW g ty (va_up pl y0.toNatClampNeg (some t_12)) ac ft md Z P) := hD
        refine lv_lconst (v := 0) hx hb dX11_move_28 (by decide) ?_
        refine cr_l (wo := fun u : (Nat → Option Nat) × Int32 => cW g ty u.1 ac u.2 md Z P) (((va_up pl y0.toNatClampNeg (some t_12)), ft)) hx hb hr hlk hS hP hD ?_ dX11_move_29
        first | exact Or.inl ⟨rfl, rfl, (by first | assumption | exact cln_lt (by assumption) (by assumption) (by assumption) | exact cln_no (by assumption) (by assumption) | exact cin_lt (by assumption) (by assumption) (by decide) | rfl)⟩ | exact Or.inr (Or.inl ⟨rfl, rfl, (by first | assumption | exact cln_lt (by assumption) (by assumption) (by assumption) | exact cln_no (by assumption) (by assumption) | exact cin_lt (by assumption) (by assumption) (by decide) | rfl), (by first | assumption | exact cln_lt (by assumption) (by assumption) (by assumption) | exact cln_no (by assumption) (by assumption) | exact cin_lt (by assumption) (by assumption) (by decide) | rfl)⟩) | exact Or.inr (Or.inr ⟨rfl, (by first | rfl | simp_all), (by first | assumption | exact cln_lt (by assumption) (by assumption) (by assumption) | exact cln_no (by assumption) (by assumption) | exact cin_lt (by assumption) (by assumption) (by decide) | rfl), (by first | assumption | exact cln_lt (by assumption) (by assumption) (by assumption) | exact cln_no (by assumption) (by assumption) | exact cin_lt (by assumption) (by assumption) (by decide) | rfl)⟩)
    · show _
      have hP : va_P (dC, dI) vwCl (cW g ty pl ac 2 md Z P) H := hP
      have hD : va_D A (cW g ty pl ac 2 md Z P) := hD
      refine lv_if_eq (tgt := 28) hx hb dX11_move_13 (by decide) (fun _ => ?_) (fun c9 => absurd (by decide) c9) 
      refine lv_lconst (v := 0) hx hb dX11_move_28 (by decide) ?_
      refine cr_l (wo := fun u : (Nat → Option Nat) × Int32 => cW g ty u.1 ac u.2 md Z P) ((pl, 2)) hx hb hr hlk hS hP hD ?_ dX11_move_29
      first | exact Or.inl ⟨rfl, rfl, (by first | assumption | exact cln_lt (by assumption) (by assumption) (by assumption) | exact cln_no (by assumption) (by assumption) | exact cin_lt (by assumption) (by assumption) (by decide) | rfl)⟩ | exact Or.inr (Or.inl ⟨rfl, rfl, (by first | assumption | exact cln_lt (by assumption) (by assumption) (by assumption) | exact cln_no (by assumption) (by assumption) | exact cin_lt (by assumption) (by assumption) (by decide) | rfl), (by first | assumption | exact cln_lt (by assumption) (by assumption) (by assumption) | exact cln_no (by assumption) (by assumption) | exact cin_lt (by assumption) (by assumption) (by decide) | rfl)⟩) | exact Or.inr (Or.inr ⟨rfl, (by first | rfl | simp_all), (by first | assumption | exact cln_lt (by assumption) (by assumption) (by assumption) | exact cln_no (by assumption) (by assumption) | exact cin_lt (by assumption) (by assumption) (by decide) | rfl), (by first | assumption | exact cln_lt (by assumption) (by assumption) (by assumption) | exact cln_no (by assumption) (by assumption) | exact cin_lt (by assumption) (by assumption) (by decide) | rfl)⟩)
  · show _
    have hP : va_P (dC, dI) vwCl (cW g ty pl ac 2 md Z P) H := hP
    have hD : va_D A (cW g ty pl ac 2 md Z P) := hD
    refine lv_if_eq (tgt := 28) hx hb dX11_move_5 (by decide) (fun _ => ?_) (fun c9 => absurd (by decide) c9) 
    refine lv_lconst (v := 0) hx hb dX11_move_28 (by decide) ?_
    refine cr_l (wo := fun u : (Nat → Option Nat) × Int32 => cW g ty u.1 ac u.2 md Z P) ((pl, 2)) hx hb hr hlk hS hP hD ?_ dX11_move_29
    first | exact Or.inl ⟨rfl, rfl, (by first | assumption | exact cln_lt (by assumption) (by assumption) (by assumption) | exact cln_no (by assumption) (by assumption) | exact cin_lt (by assumption) (by assumption) (by decide) | rfl)⟩ | exact Or.inr (Or.inl ⟨rfl, rfl, (by first | assumption | exact cln_lt (by assumption) (by assumption) (by assumption) | exact cln_no (by assumption) (by assumption) | exact cin_lt (by assumption) (by assumption) (by decide) | rfl), (by first | assumption | exact cln_lt (by assumption) (by assumption) (by assumption) | exact cln_no (by assumption) (by assumption) | exact cin_lt (by assumption) (by assumption) (by decide) | rfl)⟩) | exact Or.inr (Or.inr ⟨rfl, (by first | rfl | simp_all), (by first | assumption | exact cln_lt (by assumption) (by assumption) (by assumption) | exact cln_no (by assumption) (by assumption) | exact cin_lt (by assumption) (by assumption) (by decide) | rfl), (by first | assumption | exact cln_lt (by assumption) (by assumption) (by assumption) | exact cln_no (by assumption) (by assumption) | exact cin_lt (by assumption) (by assumption) (by decide) | rfl)⟩)
set_option maxHeartbeats 4000000 in
set_option maxRecDepth 100000 in
theorem c_X11_holdSame (l : Launch) (dC : Nat → ClassId) (dI : Nat → Nat → Nat) (g : Nat → Nat) (ty : Nat → ClassId) (sz : Nat) (pl : Nat → Option Nat) (ac : Int64) (ft : Int32) (md : Int32) (Z : cZ) (P : cQ) (x0 : Int32) (y0 : Int32) (wf : cWF pl P) : Met l yX11_holdSame (Cond.code yX11_holdSame cX11_holdSame 3 (some .long) :: gT) ({ frames := 2, cells := 0, slots := 0, locals := 42 }) (cP (dC, dI) (cTy ty) (cW g ty pl ac ft md Z P) sz [.ref (g 0), .int x0, .int y0]) (va_Ql (fun (rz : Int64) (u : Int32) => (0 = rz ∧ 2 = u ∧ ¬ vp_in x0 32) ∨ (0 = rz ∧ 2 = u ∧ vp_in x0 32 ∧ ¬ vp_in y0 32) ∨ (1 = rz ∧ ft = u ∧ vp_in x0 32 ∧ vp_in y0 32 ∧ pl x0.toNatClampNeg = pl y0.toNatClampNeg) ∨ (0 = rz ∧ ft = u ∧ vp_in x0 32 ∧ vp_in y0 32 ∧ ¬ pl x0.toNatClampNeg = pl y0.toNatClampNeg)) (cB (dC, dI) (fun u : Int32 => cW g ty pl ac u md Z P) (va_A (cW g ty pl ac ft md Z P) sz)) (va_A (cW g ty pl ac ft md Z P) sz)) 0 0 (va_A (cW g ty pl ac ft md Z P) sz) := by
  refine cc_of (Qa := fun A => va_Ql (fun (rz : Int64) (u : Int32) => (0 = rz ∧ 2 = u ∧ ¬ vp_in x0 32) ∨ (0 = rz ∧ 2 = u ∧ vp_in x0 32 ∧ ¬ vp_in y0 32) ∨ (1 = rz ∧ ft = u ∧ vp_in x0 32 ∧ vp_in y0 32 ∧ pl x0.toNatClampNeg = pl y0.toNatClampNeg) ∨ (0 = rz ∧ ft = u ∧ vp_in x0 32 ∧ vp_in y0 32 ∧ ¬ pl x0.toNatClampNeg = pl y0.toNatClampNeg)) (cB (dC, dI) (fun u : Int32 => cW g ty pl ac u md Z P) A) A) (by decide) (Nat.le_of_ble_eq_true rfl) ?_
  intro p e s m below meth c A hx hb hr hml hown hg hlk hmn hP hK hD hT hS hA hsz ls hl
  have hown : s.vm.findClass RX11 = some m.cls := hown
  have hl : lv_has ls 3 [(0, .ref (g 0)), (1, .int x0), (2, .int y0)] := hl
  refine lv_aload_n hx hb dX11_holdSame_0 rfl (lv_at hl 0 rfl) ?_
  refine lv_iload_n hx hb dX11_holdSame_1 rfl (lv_at hl 1 rfl) ?_
  refine cV_i (C := RX11) (n := 1) (rest := []) hx hb hml hown hg hT (c_X11_isPlace l dC dI g ty s.heap.size pl ac ft md Z P x0 ) (cv_of hg wM_X11_248 wN_X11_isPlace wL_X11_X11_isPlace wK_X11_isPlace wI_X11 (by decide +kernel) ⟨Nat.le_of_ble_eq_true rfl, Nat.le_of_ble_eq_true rfl⟩) hK hP hD hS hA (va_recv hK hP (ci := 13) (q0 := 0) rfl rfl) rfl hl.1 rfl (Nat.le_of_ble_eq_true rfl) dX11_holdSame_2 ⟨Nat.le_of_ble_eq_true rfl, Nat.le_of_ble_eq_true rfl⟩ (fun r_2 u_3 H locs q_1 hP hD hS => ?_)
  rcases q_1 with ⟨rfl, rfl, f_4⟩ | ⟨rfl, rfl, f_5⟩
  · show _
    have hP : va_P (dC, dI) vwCl (cW g ty pl ac ft md Z P) H := hP
    have hD : va_D A (cW g ty pl ac ft md Z P) := hD
    refine lv_if_eq (tgt := 35) hx hb dX11_holdSame_5 (by decide) (fun c9 => absurd c9 (by decide)) (fun _ => ?_)
    refine lv_aload_n hx hb dX11_holdSame_8 rfl (lv_at hl 0 rfl) ?_
    refine lv_iload_n hx hb dX11_holdSame_9 rfl (lv_at hl 2 rfl) ?_
    refine cV_i (C := RX11) (n := 1) (rest := []) hx hb hml hown hg hT (c_X11_isPlace l dC dI g ty H.size pl ac ft md Z P y0 ) (cv_of hg wM_X11_248 wN_X11_isPlace wL_X11_X11_isPlace wK_X11_isPlace wI_X11 (by decide +kernel) ⟨Nat.le_of_ble_eq_true rfl, Nat.le_of_ble_eq_true rfl⟩) hK hP hD hS hA (va_recv hK hP (ci := 13) (q0 := 0) rfl rfl) rfl hl.1 rfl (Nat.le_of_ble_eq_true rfl) dX11_holdSame_10 ⟨Nat.le_of_ble_eq_true rfl, Nat.le_of_ble_eq_true rfl⟩ (fun r_7 u_8 H locs q_6 hP hD hS => ?_)
    rcases q_6 with ⟨rfl, rfl, f_9⟩ | ⟨rfl, rfl, f_10⟩
    · show _
      have hP : va_P (dC, dI) vwCl (cW g ty pl ac ft md Z P) H := hP
      have hD : va_D A (cW g ty pl ac ft md Z P) := hD
      refine lv_if_eq (tgt := 35) hx hb dX11_holdSame_13 (by decide) (fun c9 => absurd c9 (by decide)) (fun _ => ?_)
      refine lv_aload_n hx hb dX11_holdSame_16 rfl (lv_at hl 0 rfl) ?_
      refine va_get (D := (dC, dI)) (ci := 13) (v := .ref (g 1)) (C := RX11) (T := TX11) (N := 12) hx hb hg inG11 hown hK hP 0 rfl rfl 0 (by decide) (hg _ wF_X11_11) (fun _ h9 => h9) rfl dX11_holdSame_17 ?_
      refine lv_iload_n hx hb dX11_holdSame_20 rfl (lv_at hl 1 rfl) ?_
      refine va_aldq hx hb hK hP 1 1 rfl rfl (by first | assumption | exact cln_lt (by assumption) (by assumption) (by assumption) | exact cln_no (by assumption) (by assumption) | exact cin_lt (by assumption) (by assumption) (by decide) | rfl) dX11_holdSame_21 ?_
      obtain ⟨o_11, ho_11⟩ : ∃ z, z = pl x0.toNatClampNeg := ⟨_, rfl⟩
      rw [← ho_11]
      cases o_11 with
      | none =>
        have ho_11 := ho_11.symm
        refine lv_aload_n hx hb dX11_holdSame_22 rfl (lv_at hl 0 rfl) ?_
        refine va_get (D := (dC, dI)) (ci := 13) (v := .ref (g 1)) (C := RX11) (T := TX11) (N := 12) hx hb hg inG11 hown hK hP 0 rfl rfl 0 (by decide) (hg _ wF_X11_11) (fun _ h9 => h9) rfl dX11_holdSame_23 ?_
        refine lv_iload_n hx hb dX11_holdSame_26 rfl (lv_at hl 2 rfl) ?_
        refine va_aldq hx hb hK hP 1 1 rfl rfl (by first | assumption | exact cln_lt (by assumption) (by assumption) (by assumption) | exact cln_no (by assumption) (by assumption) | exact cin_lt (by assumption) (by assumption) (by decide) | rfl) dX11_holdSame_27 ?_
        obtain ⟨o_13, ho_13⟩ : ∃ z, z = pl y0.toNatClampNeg := ⟨_, rfl⟩
        rw [← ho_13]
        cases o_13 with
        | none =>
          have ho_13 := ho_13.symm
          refine lv_acmp_ne (rx := none) (ry := none) (tgt := 35) hx hb dX11_holdSame_28 (by decide) (fun c_15 => ?_) (fun c_15 => ?_)
          · show _
            refine lv_lconst (v := 0) hx hb dX11_holdSame_35 (by decide) ?_
            refine cr_l (wo := fun u : Int32 => cW g ty pl ac u md Z P) (ft) hx hb hr hlk hS hP hD ?_ dX11_holdSame_36
            first | exact Or.inl ⟨rfl, rfl, (by first | assumption | exact cln_lt (by assumption) (by assumption) (by assumption) | exact cln_no (by assumption) (by assumption) | exact cin_lt (by assumption) (by assumption) (by decide) | rfl)⟩ | exact Or.inr (Or.inl ⟨rfl, rfl, (by first | assumption | exact cln_lt (by assumption) (by assumption) (by assumption) | exact cln_no (by assumption) (by assumption) | exact cin_lt (by assumption) (by assumption) (by decide) | rfl), (by first | assumption | exact cln_lt (by assumption) (by assumption) (by assumption) | exact cln_no (by assumption) (by assumption) | exact cin_lt (by assumption) (by assumption) (by decide) | rfl)⟩) | exact Or.inr (Or.inr (Or.inr ⟨rfl, rfl, (by first | assumption | simp_all), (by first | assumption | simp_all), (by first | assumption | simp_all)⟩))
          · show _
            refine lv_lconst (v := 1) hx hb dX11_holdSame_31 (by decide) ?_
            refine lv_goto (tgt := 36) hx hb dX11_holdSame_32 (by decide) ?_
            refine cr_l (wo := fun u : Int32 => cW g ty pl ac u md Z P) (ft) hx hb hr hlk hS hP hD ?_ dX11_holdSame_36
            exact Or.inr (Or.inr (Or.inl ⟨rfl, rfl, (by first | assumption | simp_all), (by first | assumption | simp_all), (by first | assumption | simp_all)⟩))
        | some t_14 =>
          have ho_13 := ho_13.symm
          have th_16 := wf.1 _ _ ho_13
          refine lv_acmp_ne (rx := none) (ry := (some t_14)) (tgt := 35) hx hb dX11_holdSame_28 (by decide) (fun c_17 => ?_) (fun c_17 => ?_)
          · show _
            refine lv_lconst (v := 0) hx hb dX11_holdSame_35 (by decide) ?_
            refine cr_l (wo := fun u : Int32 => cW g ty pl ac u md Z P) (ft) hx hb hr hlk hS hP hD ?_ dX11_holdSame_36
            first | exact Or.inl ⟨rfl, rfl, (by first | assumption | exact cln_lt (by assumption) (by assumption) (by assumption) | exact cln_no (by assumption) (by assumption) | exact cin_lt (by assumption) (by assumption) (by decide) | rfl)⟩ | exact Or.inr (Or.inl ⟨rfl, rfl, (by first | assumption | exact cln_lt (by assumption) (by assumption) (by assumption) | exact cln_no (by assumption) (by assumption) | exact cin_lt (by assumption) (by assumption) (by decide) | rfl), (by first | assumption | exact cln_lt (by assumption) (by assumption) (by assumption) | exact cln_no (by assumption) (by assumption) | exact cin_lt (by assumption) (by assumption) (by decide) | rfl)⟩) | exact Or.inr (Or.inr (Or.inr ⟨rfl, rfl, (by first | assumption | simp_all), (by first | assumption | simp_all), (by first | assumption | simp_all)⟩))
          · show _
            refine lv_lconst (v := 1) hx hb dX11_holdSame_31 (by decide) ?_
            refine lv_goto (tgt := 36) hx hb dX11_holdSame_32 (by decide) ?_
            refine cr_l (wo := fun u : Int32 => cW g ty pl ac u md Z P) (ft) hx hb hr hlk hS hP hD ?_ dX11_holdSame_36
            exact Or.inr (Or.inr (Or.inl ⟨rfl, rfl, (by first | assumption | simp_all), (by first | assumption | simp_all), (by first | assumption | simp_all)⟩))
      | some t_12 =>
        have ho_11 := ho_11.symm
        have th_18 := wf.1 _ _ ho_11
        refine lv_aload_n hx hb dX11_holdSame_22 rfl (lv_at hl 0 rfl) ?_
        refine va_get (D := (dC, dI)) (ci := 13) (v := .ref (g 1)) (C := RX11) (T := TX11) (N := 12) hx hb hg inG11 hown hK hP 0 rfl rfl 0 (by decide) (hg _ wF_X11_11) (fun _ h9 => h9) rfl dX11_holdSame_23 ?_
        refine lv_iload_n hx hb dX11_holdSame_26 rfl (lv_at hl 2 rfl) ?_
        refine va_aldq hx hb hK hP 1 1 rfl rfl (by first | assumption | exact cln_lt (by assumption) (by assumption) (by assumption) | exact cln_no (by assumption) (by assumption) | exact cin_lt (by assumption) (by assumption) (by decide) | rfl) dX11_holdSame_27 ?_
        obtain ⟨o_19, ho_19⟩ : ∃ z, z = pl y0.toNatClampNeg := ⟨_, rfl⟩
        rw [← ho_19]
        cases o_19 with
        | none =>
          have ho_19 := ho_19.symm
          refine lv_acmp_ne (rx := (some t_12)) (ry := none) (tgt := 35) hx hb dX11_holdSame_28 (by decide) (fun c_21 => ?_) (fun c_21 => ?_)
          · show _
            refine lv_lconst (v := 0) hx hb dX11_holdSame_35 (by decide) ?_
            refine cr_l (wo := fun u : Int32 => cW g ty pl ac u md Z P) (ft) hx hb hr hlk hS hP hD ?_ dX11_holdSame_36
            first | exact Or.inl ⟨rfl, rfl, (by first | assumption | exact cln_lt (by assumption) (by assumption) (by assumption) | exact cln_no (by assumption) (by assumption) | exact cin_lt (by assumption) (by assumption) (by decide) | rfl)⟩ | exact Or.inr (Or.inl ⟨rfl, rfl, (by first | assumption | exact cln_lt (by assumption) (by assumption) (by assumption) | exact cln_no (by assumption) (by assumption) | exact cin_lt (by assumption) (by assumption) (by decide) | rfl), (by first | assumption | exact cln_lt (by assumption) (by assumption) (by assumption) | exact cln_no (by assumption) (by assumption) | exact cin_lt (by assumption) (by assumption) (by decide) | rfl)⟩) | exact Or.inr (Or.inr (Or.inr ⟨rfl, rfl, (by first | assumption | simp_all), (by first | assumption | simp_all), (by first | assumption | simp_all)⟩))
          · show _
            refine lv_lconst (v := 1) hx hb dX11_holdSame_31 (by decide) ?_
            refine lv_goto (tgt := 36) hx hb dX11_holdSame_32 (by decide) ?_
            refine cr_l (wo := fun u : Int32 => cW g ty pl ac u md Z P) (ft) hx hb hr hlk hS hP hD ?_ dX11_holdSame_36
            exact Or.inr (Or.inr (Or.inl ⟨rfl, rfl, (by first | assumption | simp_all), (by first | assumption | simp_all), (by first | assumption | simp_all)⟩))
        | some t_20 =>
          have ho_19 := ho_19.symm
          have th_22 := wf.1 _ _ ho_19
          refine lv_acmp_ne (rx := (some t_12)) (ry := (some t_20)) (tgt := 35) hx hb dX11_holdSame_28 (by decide) (fun c_23 => ?_) (fun c_23 => ?_)
          · show _
            refine lv_lconst (v := 0) hx hb dX11_holdSame_35 (by decide) ?_
            refine cr_l (wo := fun u : Int32 => cW g ty pl ac u md Z P) (ft) hx hb hr hlk hS hP hD ?_ dX11_holdSame_36
            first | exact Or.inl ⟨rfl, rfl, (by first | assumption | exact cln_lt (by assumption) (by assumption) (by assumption) | exact cln_no (by assumption) (by assumption) | exact cin_lt (by assumption) (by assumption) (by decide) | rfl)⟩ | exact Or.inr (Or.inl ⟨rfl, rfl, (by first | assumption | exact cln_lt (by assumption) (by assumption) (by assumption) | exact cln_no (by assumption) (by assumption) | exact cin_lt (by assumption) (by assumption) (by decide) | rfl), (by first | assumption | exact cln_lt (by assumption) (by assumption) (by assumption) | exact cln_no (by assumption) (by assumption) | exact cin_lt (by assumption) (by assumption) (by decide) | rfl)⟩) | exact Or.inr (Or.inr (Or.inr ⟨rfl, rfl, (by first | assumption | simp_all), (by first | assumption | simp_all), (by first | assumption | simp_all)⟩))
          · show _
            refine lv_lconst (v := 1) hx hb dX11_holdSame_31 (by decide) ?_
            refine lv_goto (tgt := 36) hx hb dX11_holdSame_32 (by decide) ?_
            refine cr_l (wo := fun u : Int32 => cW g ty pl ac u md Z P) (ft) hx hb hr hlk hS hP hD ?_ dX11_holdSame_36
            exact Or.inr (Or.inr (Or.inl ⟨rfl, rfl, (by first | assumption | simp_all), (by first | assumption | simp_all), (by first | assumption | simp_all)⟩))
    · show _
      have hP : va_P (dC, dI) vwCl (cW g ty pl ac 2 md Z P) H := hP
      have hD : va_D A (cW g ty pl ac 2 md Z P) := hD
      refine lv_if_eq (tgt := 35) hx hb dX11_holdSame_13 (by decide) (fun _ => ?_) (fun c9 => absurd (by decide) c9) 
      refine lv_lconst (v := 0) hx hb dX11_holdSame_35 (by decide) ?_
      refine cr_l (wo := fun u : Int32 => cW g ty pl ac u md Z P) (2) hx hb hr hlk hS hP hD ?_ dX11_holdSame_36
      first | exact Or.inl ⟨rfl, rfl, (by first | assumption | exact cln_lt (by assumption) (by assumption) (by assumption) | exact cln_no (by assumption) (by assumption) | exact cin_lt (by assumption) (by assumption) (by decide) | rfl)⟩ | exact Or.inr (Or.inl ⟨rfl, rfl, (by first | assumption | exact cln_lt (by assumption) (by assumption) (by assumption) | exact cln_no (by assumption) (by assumption) | exact cin_lt (by assumption) (by assumption) (by decide) | rfl), (by first | assumption | exact cln_lt (by assumption) (by assumption) (by assumption) | exact cln_no (by assumption) (by assumption) | exact cin_lt (by assumption) (by assumption) (by decide) | rfl)⟩) | exact Or.inr (Or.inr (Or.inr ⟨rfl, rfl, (by first | assumption | simp_all), (by first | assumption | simp_all), (by first | assumption | simp_all)⟩))
  · show _
    have hP : va_P (dC, dI) vwCl (cW g ty pl ac 2 md Z P) H := hP
    have hD : va_D A (cW g ty pl ac 2 md Z P) := hD
    refine lv_if_eq (tgt := 35) hx hb dX11_holdSame_5 (by decide) (fun _ => ?_) (fun c9 => absurd (by decide) c9) 
    refine lv_lconst (v := 0) hx hb dX11_holdSame_35 (by decide) ?_
    refine cr_l (wo := fun u : Int32 => cW g ty pl ac u md Z P) (2) hx hb hr hlk hS hP hD ?_ dX11_holdSame_36
    first | exact Or.inl ⟨rfl, rfl, (by first | assumption | exact cln_lt (by assumption) (by assumption) (by assumption) | exact cln_no (by assumption) (by assumption) | exact cin_lt (by assumption) (by assumption) (by decide) | rfl)⟩ | exact Or.inr (Or.inl ⟨rfl, rfl, (by first | assumption | exact cln_lt (by assumption) (by assumption) (by assumption) | exact cln_no (by assumption) (by assumption) | exact cin_lt (by assumption) (by assumption) (by decide) | rfl), (by first | assumption | exact cln_lt (by assumption) (by assumption) (by assumption) | exact cln_no (by assumption) (by assumption) | exact cin_lt (by assumption) (by assumption) (by decide) | rfl)⟩) | exact Or.inr (Or.inr (Or.inr ⟨rfl, rfl, (by first | assumption | simp_all), (by first | assumption | simp_all), (by first | assumption | simp_all)⟩))

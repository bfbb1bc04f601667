theorem cin_lt {x N : Int32} {n : Nat} (h0 : ¬ x < 0) (h1 : x < N) (hN : N.toInt = n) : vp_in x n := by
  rw [vp_in_iff]
  rw [Int32.lt_iff_toInt_lt, ci_0] at h0
  rw [Int32.lt_iff_toInt_lt, hN] at h1
  omega
theorem cin_ng {x : Int32} {n : Nat} (h : x < 0) : ¬ vp_in x n := by
  rw [vp_in_iff]
  rw [Int32.lt_iff_toInt_lt, ci_0] at h
  omega
theorem cin_nl {x N : Int32} {n : Nat} (h : ¬ x < N) (hN : N.toInt = n) : ¬ vp_in x n := by
  rw [vp_in_iff]
  rw [Int32.lt_iff_toInt_lt, hN] at h
  omega
set_option maxHeartbeats 4000000 in
set_option maxRecDepth 100000 in
theorem c_X11_tell (l : Launch) (dC : Nat → ClassId) (dI : Nat → Nat → Nat) (g : Nat → Nat) (ty : Nat → ClassId) (sz : Nat) (pl : Nat → Option Nat) (ac : Int64) (ft : Int32) (md : Int32) (Z : cZ) (P : cQ) (s0 : Int32) : Met l yX11_tell (Cond.code yX11_tell cX11_tell 2 (some .boolean) :: gT) ({ frames := 0, cells := 0, slots := 0, locals := 0 }) (cP (dC, dI) (cTy ty) (cW g ty pl ac ft md Z P) sz [.ref (g 0), .int s0]) (va_Qi (fun (rz : Int32) (u : Int32) => 0 = rz ∧ s0 = u) (cB (dC, dI) (fun u : Int32 => cW g ty pl ac u md Z P) (va_A (cW g ty pl ac ft md Z P) sz)) (va_A (cW g ty pl ac ft md Z P) sz)) 0 0 (va_A (cW g ty pl ac ft md Z P) sz) := by
  refine cc_of (Qa := fun A => va_Qi (fun (rz : Int32) (u : Int32) => 0 = rz ∧ s0 = u) (cB (dC, dI) (fun u : Int32 => cW g ty pl ac u md Z P) A) A) (by decide) (Nat.le_of_ble_eq_true rfl) ?_
  intro p e s m below meth c A hx hb hr hml hown hg hlk hmn hP hK hD hT hS hA hsz ls hl
  have hown : s.vm.findClass RX11 = some m.cls := hown
  have hl : lv_has ls 2 [(0, .ref (g 0)), (1, .int s0)] := hl
  refine lv_aload_n hx hb dX11_tell_0 rfl (lv_at hl 0 rfl) ?_
  refine lv_iload_n hx hb dX11_tell_1 rfl (lv_at hl 1 rfl) ?_
  refine va_put (D := (dC, dI)) (ci := 13) (v := .int s0) (ty := .int) (C := RX11) (T := TX11) (N := 12) hx hb hg inG11 tyX11 tyX11_ok nmX11 hown hK hP hD hS 0 rfl rfl 4 (by decide) (hg _ wF_X11_26) (fun _ h9 => h9) rfl (by decide +kernel) rfl rfl (Nat.le_of_ble_eq_true rfl) dX11_tell_2 (fun H locs hP hD hS => ?_)
  have hP : va_P (dC, dI) vwCl (cW g ty pl ac s0 md Z P) H := hP
  have hD : va_D A (cW g ty pl ac s0 md Z P) := hD
  refine lv_iconst (v := 0) hx hb dX11_tell_5 (by decide) ?_
  refine cr_z (wo := fun u : Int32 => cW g ty pl ac u md Z P) (s0) hx hb hr hlk hS hP hD rfl ?_ dX11_tell_6
  exact ⟨rfl, rfl⟩
set_option maxHeartbeats 4000000 in
set_option maxRecDepth 100000 in
theorem c_X11_isPlace (l : Launch) (dC : Nat → ClassId) (dI : Nat → Nat → Nat) (g : Nat → Nat) (ty : Nat → ClassId) (sz : Nat) (pl : Nat → Option Nat) (ac : Int64) (ft : Int32) (md : Int32) (Z : cZ) (P : cQ) (x0 : Int32) : Met l yX11_isPlace (Cond.code yX11_isPlace cX11_isPlace 2 (some .boolean) :: gT) ({ frames := 1, cells := 0, slots := 0, locals := 21 }) (cP (dC, dI) (cTy ty) (cW g ty pl ac ft md Z P) sz [.ref (g 0), .int x0]) (va_Qi (fun (rz : Int32) (u : Int32) => (1 = rz ∧ ft = u ∧ vp_in x0 32) ∨ (0 = rz ∧ 2 = u ∧ ¬ vp_in x0 32)) (cB (dC, dI) (fun u : Int32 => cW g ty pl ac u md Z P) (va_A (cW g ty pl ac ft md Z P) sz)) (va_A (cW g ty pl ac ft md Z P) sz)) 0 0 (va_A (cW g ty pl ac ft md Z P) sz) := by
  refine cc_of (Qa := fun A => va_Qi (fun (rz : Int32) (u : Int32) => (1 = rz ∧ ft = u ∧ vp_in x0 32) ∨ (0 = rz ∧ 2 = u ∧ ¬ vp_in x0 32)) (cB (dC, dI) (fun u : Int32 => cW g ty pl ac u md Z P) A) A) (by decide) (Nat.le_of_ble_eq_true rfl) ?_
  intro p e s m below meth c A hx hb hr hml hown hg hlk hmn hP hK hD hT hS hA hsz ls hl
  have hown : s.vm.findClass RX11 = some m.cls := hown
  have hl : lv_has ls 2 [(0, .ref (g 0)), (1, .int x0)] := hl
  refine lv_iload_n hx hb dX11_isPlace_0 rfl (lv_at hl 1 rfl) ?_
  refine lv_if_lt (tgt := 10) hx hb dX11_isPlace_1 (by decide) (fun c_1 => ?_) (fun c_1 => ?_)
  · show _
    refine lv_aload_n hx hb dX11_isPlace_10 rfl (lv_at hl 0 rfl) ?_
    refine lv_iconst (v := 2) hx hb dX11_isPlace_11 (by decide) ?_
    refine cV_i (C := RX11) (n := 1) (rest := []) hx hb hml hown hg hT (c_X11_tell l dC dI g ty s.heap.size pl ac ft md Z P 2 ) (cv_of hg wM_X11_245 wN_X11_tell wL_X11_X11_tell wK_X11_tell wI_X11 (by decide +kernel) ⟨Nat.le_of_ble_eq_true rfl, Nat.le_of_ble_eq_true rfl⟩) hK hP hD hS hA (va_recv hK hP (ci := 13) (q0 := 0) rfl rfl) rfl hl.1 rfl (Nat.le_of_ble_eq_true rfl) dX11_isPlace_12 ⟨Nat.le_of_ble_eq_true rfl, Nat.le_of_ble_eq_true rfl⟩ (fun r_3 u_4 H locs q_2 hP hD hS => ?_)
    obtain ⟨rfl, rfl⟩ := q_2
    have hP : va_P (dC, dI) vwCl (cW g ty pl ac 2 md Z P) H := hP
    have hD : va_D A (cW g ty pl ac 2 md Z P) := hD
    refine lv_if_eq (tgt := 22) hx hb dX11_isPlace_15 (by decide) (fun _ => ?_) (fun c9 => absurd (by decide) c9) 
    refine lv_iconst (v := 0) hx hb dX11_isPlace_22 (by decide) ?_
    refine cr_z (wo := fun u : Int32 => cW g ty pl ac u md Z P) (2) hx hb hr hlk hS hP hD rfl ?_ dX11_isPlace_23
    exact Or.inr ⟨rfl, rfl, (by first | assumption | exact cin_lt (by assumption) (by assumption) (by decide) | exact cin_ng (by assumption) | exact cin_nl (by assumption) (by decide) | exact Or.inl (by assumption) | exact Or.inr (by assumption) | exact Or.inr (Or.inl (by assumption)) | exact Or.inr (Or.inr (by assumption)))⟩
  · show _
    refine lv_iload_n hx hb dX11_isPlace_4 rfl (lv_at hl 1 rfl) ?_
    refine lv_bipush (v := 32) hx hb dX11_isPlace_5 (by decide) ?_
    refine lv_icmp_lt (tgt := 18) hx hb dX11_isPlace_7 (by decide) (fun c_5 => ?_) (fun c_5 => ?_)
    · show _
      refine lv_iconst (v := 1) hx hb dX11_isPlace_18 (by decide) ?_
      refine lv_goto (tgt := 23) hx hb dX11_isPlace_19 (by decide) ?_
      refine cr_z (wo := fun u : Int32 => cW g ty pl ac u md Z P) (ft) hx hb hr hlk hS hP hD rfl ?_ dX11_isPlace_23
      exact Or.inl ⟨rfl, rfl, (by first | assumption | exact cin_lt (by assumption) (by assumption) (by decide) | exact cin_ng (by assumption) | exact cin_nl (by assumption) (by decide) | exact Or.inl (by assumption) | exact Or.inr (by assumption) | exact Or.inr (Or.inl (by assumption)) | exact Or.inr (Or.inr (by assumption)))⟩
    · show _
      refine lv_aload_n hx hb dX11_isPlace_10 rfl (lv_at hl 0 rfl) ?_
      refine lv_iconst (v := 2) hx hb dX11_isPlace_11 (by decide) ?_
      refine cV_i (C := RX11) (n := 1) (rest := []) hx hb hml hown hg hT (c_X11_tell l dC dI g ty s.heap.size pl ac ft md Z P 2 ) (cv_of hg wM_X11_245 wN_X11_tell wL_X11_X11_tell wK_X11_tell wI_X11 (by decide +kernel) ⟨Nat.le_of_ble_eq_true rfl, Nat.le_of_ble_eq_true rfl⟩) hK hP hD hS hA (va_recv hK hP (ci := 13) (q0 := 0) rfl rfl) rfl hl.1 rfl (Nat.le_of_ble_eq_true rfl) dX11_isPlace_12 ⟨Nat.le_of_ble_eq_true rfl, Nat.le_of_ble_eq_true rfl⟩ (fun r_7 u_8 H locs q_6 hP hD hS => ?_)
      obtain ⟨rfl, rfl⟩ := q_6
      have hP : va_P (dC, dI) vwCl (cW g ty pl ac 2 md Z P) H := hP
      have hD : va_D A (cW g ty pl ac 2 md Z P) := hD
      refine lv_if_eq (tgt := 22) hx hb dX11_isPlace_15 (by decide) (fun _ => ?_) (fun c9 => absurd (by decide) c9) 
      refine lv_iconst (v := 0) hx hb dX11_isPlace_22 (by decide) ?_
      refine cr_z (wo := fun u : Int32 => cW g ty pl ac u md Z P) (2) hx hb hr hlk hS hP hD rfl ?_ dX11_isPlace_23
      exact Or.inr ⟨rfl, rfl, (by first | assumption | exact cin_lt (by assumption) (by assumption) (by decide) | exact cin_ng (by assumption) | exact cin_nl (by assumption) (by decide) | exact Or.inl (by assumption) | exact Or.inr (by assumption) | exact Or.inr (Or.inl (by assumption)) | exact Or.inr (Or.inr (by assumption)))⟩
set_option maxHeartbeats 4000000 in
set_option maxRecDepth 100000 in
theorem c_X11_isCell (l : Launch) (dC : Nat → ClassId) (dI : Nat → Nat → Nat) (g : Nat → Nat) (ty : Nat → ClassId) (sz : Nat) (pl : Nat → Option Nat) (ac : Int64) (ft : Int32) (md : Int32) (Z : cZ) (P : cQ) (i0 : Int32) (n0 : Int32) : Met l yX11_isCell (Cond.code yX11_isCell cX11_isCell 3 (some .boolean) :: gT) ({ frames := 1, cells := 0, slots := 0, locals := 21 }) (cP (dC, dI) (cTy ty) (cW g ty pl ac ft md Z P) sz [.ref (g 0), .int i0, .int n0]) (va_Qi (fun (rz : Int32) (u : Int32) => (1 = rz ∧ ft = u ∧ ¬ i0 < 0 ∧ i0 < n0) ∨ (0 = rz ∧ 2 = u ∧ (i0 < 0 ∨ ¬ i0 < n0))) (cB (dC, dI) (fun u : Int32 => cW g ty pl ac u md Z P) (va_A (cW g ty pl ac ft md Z P) sz)) (va_A (cW g ty pl ac ft md Z P) sz)) 0 0 (va_A (cW g ty pl ac ft md Z P) sz) := by
  refine cc_of (Qa := fun A => va_Qi (fun (rz : Int32) (u : Int32) => (1 = rz ∧ ft = u ∧ ¬ i0 < 0 ∧ i0 < n0) ∨ (0 = rz ∧ 2 = u ∧ (i0 < 0 ∨ ¬ i0 < n0))) (cB (dC, dI) (fun u : Int32 => cW g ty pl ac u md Z P) A) A) (by decide) (Nat.le_of_ble_eq_true rfl) ?_
  intro p e s m below meth c A hx hb hr hml hown hg hlk hmn hP hK hD hT hS hA hsz ls hl
  have hown : s.vm.findClass RX11 = some m.cls := hown
  have hl : lv_has ls 3 [(0, .ref (g 0)), (1, .int i0), (2, .int n0)] := hl
  refine lv_iload_n hx hb dX11_isCell_0 rfl (lv_at hl 1 rfl) ?_
  refine lv_if_lt (tgt := 9) hx hb dX11_isCell_1 (by decide) (fun c_1 => ?_) (fun c_1 => ?_)
  · show _
    refine lv_aload_n hx hb dX11_isCell_9 rfl (lv_at hl 0 rfl) ?_
    refine lv_iconst (v := 2) hx hb dX11_isCell_10 (by decide) ?_
    refine cV_i (C := RX11) (n := 1) (rest := []) hx hb hml hown hg hT (c_X11_tell l dC dI g ty s.heap.size pl ac ft md Z P 2 ) (cv_of hg wM_X11_245 wN_X11_tell wL_X11_X11_tell wK_X11_tell wI_X11 (by decide +kernel) ⟨Nat.le_of_ble_eq_true rfl, Nat.le_of_ble_eq_true rfl⟩) hK hP hD hS hA (va_recv hK hP (ci := 13) (q0 := 0) rfl rfl) rfl hl.1 rfl (Nat.le_of_ble_eq_true rfl) dX11_isCell_11 ⟨Nat.le_of_ble_eq_true rfl, Nat.le_of_ble_eq_true rfl⟩ (fun r_3 u_4 H locs q_2 hP hD hS => ?_)
    obtain ⟨rfl, rfl⟩ := q_2
    have hP : va_P (dC, dI) vwCl (cW g ty pl ac 2 md Z P) H := hP
    have hD : va_D A (cW g ty pl ac 2 md Z P) := hD
    refine lv_if_eq (tgt := 21) hx hb dX11_isCell_14 (by decide) (fun _ => ?_) (fun c9 => absurd (by decide) c9) 
    refine lv_iconst (v := 0) hx hb dX11_isCell_21 (by decide) ?_
    refine cr_z (wo := fun u : Int32 => cW g ty pl ac u md Z P) (2) hx hb hr hlk hS hP hD rfl ?_ dX11_isCell_22
    exact Or.inr ⟨rfl, rfl, (by first | assumption | exact cin_lt (by assumption) (by assumption) (by decide) | exact cin_ng (by assumption) | exact cin_nl (by assumption) (by decide) | exact Or.inl (by assumption) | exact Or.inr (by assumption) | exact Or.inr (Or.inl (by assumption)) | exact Or.inr (Or.inr (by assumption)))⟩
  · show _
    refine lv_iload_n hx hb dX11_isCell_4 rfl (lv_at hl 1 rfl) ?_
    refine lv_iload_n hx hb dX11_isCell_5 rfl (lv_at hl 2 rfl) ?_
    refine lv_icmp_lt (tgt := 17) hx hb dX11_isCell_6 (by decide) (fun c_5 => ?_) (fun c_5 => ?_)
    · show _
      refine lv_iconst (v := 1) hx hb dX11_isCell_17 (by decide) ?_
      refine lv_goto (tgt := 22) hx hb dX11_isCell_18 (by decide) ?_
      refine cr_z (wo := fun u : Int32 => cW g ty pl ac u md Z P) (ft) hx hb hr hlk hS hP hD rfl ?_ dX11_isCell_22
      exact Or.inl ⟨rfl, rfl, (by first | assumption | exact cin_lt (by assumption) (by assumption) (by decide) | exact cin_ng (by assumption) | exact cin_nl (by assumption) (by decide) | exact Or.inl (by assumption) | exact Or.inr (by assumption) | exact Or.inr (Or.inl (by assumption)) | exact Or.inr (Or.inr (by assumption))), (by first | assumption | exact cin_lt (by assumption) (by assumption) (by decide) | exact cin_ng (by assumption) | exact cin_nl (by assumption) (by decide) | exact Or.inl (by assumption) | exact Or.inr (by assumption) | exact Or.inr (Or.inl (by assumption)) | exact Or.inr (Or.inr (by assumption)))⟩
    · show _
      refine lv_aload_n hx hb dX11_isCell_9 rfl (lv_at hl 0 rfl) ?_
      refine lv_iconst (v := 2) hx hb dX11_isCell_10 (by decide) ?_
      refine cV_i (C := RX11) (n := 1) (rest := []) hx hb hml hown hg hT (c_X11_tell l dC dI g ty s.heap.size pl ac ft md Z P 2 ) (cv_of hg wM_X11_245 wN_X11_tell wL_X11_X11_tell wK_X11_tell wI_X11 (by decide +kernel) ⟨Nat.le_of_ble_eq_true rfl, Nat.le_of_ble_eq_true rfl⟩) hK hP hD hS hA (va_recv hK hP (ci := 13) (q0 := 0) rfl rfl) rfl hl.1 rfl (Nat.le_of_ble_eq_true rfl) dX11_isCell_11 ⟨Nat.le_of_ble_eq_true rfl, Nat.le_of_ble_eq_true rfl⟩ (fun r_7 u_8 H locs q_6 hP hD hS => ?_)
      obtain ⟨rfl, rfl⟩ := q_6
      have hP : va_P (dC, dI) vwCl (cW g ty pl ac 2 md Z P) H := hP
      have hD : va_D A (cW g ty pl ac 2 md Z P) := hD
      refine lv_if_eq (tgt := 21) hx hb dX11_isCell_14 (by decide) (fun _ => ?_) (fun c9 => absurd (by decide) c9) 
      refine lv_iconst (v := 0) hx hb dX11_isCell_21 (by decide) ?_
      refine cr_z (wo := fun u : Int32 => cW g ty pl ac u md Z P) (2) hx hb hr hlk hS hP hD rfl ?_ dX11_isCell_22
      exact Or.inr ⟨rfl, rfl, (by first | assumption | exact cin_lt (by assumption) (by assumption) (by decide) | exact cin_ng (by assumption) | exact cin_nl (by assumption) (by decide) | exact Or.inl (by assumption) | exact Or.inr (by assumption) | exact Or.inr (Or.inl (by assumption)) | exact Or.inr (Or.inr (by assumption)))⟩
set_option maxHeartbeats 4000000 in
set_option maxRecDepth 100000 in
theorem c_X11_isSpan (l : Launch) (dC : Nat → ClassId) (dI : Nat → Nat → Nat) (g : Nat → Nat) (ty : Nat → ClassId) (sz : Nat) (pl : Nat → Option Nat) (ac : Int64) (ft : Int32) (md : Int32) (Z : cZ) (P : cQ) (i0 : Int32) (n0 : Int32) (k0 : Int32) : Met l yX11_isSpan (Cond.code yX11_isSpan cX11_isSpan 4 (some .boolean) :: gT) ({ frames := 1, cells := 0, slots := 0, locals := 21 }) (cP (dC, dI) (cTy ty) (cW g ty pl ac ft md Z P) sz [.ref (g 0), .int i0, .int n0, .int k0]) (va_Qi (fun (rz : Int32) (u : Int32) => (1 = rz ∧ ft = u ∧ ¬ i0 < 0 ∧ ¬ n0 < 0 ∧ n0 ≤ k0 - i0) ∨ (0 = rz ∧ 2 = u ∧ (i0 < 0 ∨ n0 < 0 ∨ ¬ n0 ≤ k0 - i0))) (cB (dC, dI) (fun u : Int32 => cW g ty pl ac u md Z P) (va_A (cW g ty pl ac ft md Z P) sz)) (va_A (cW g ty pl ac ft md Z P) sz)) 0 0 (va_A (cW g ty pl ac ft md Z P) sz) := by
  refine cc_of (Qa := fun A => va_Qi (fun (rz : Int32) (u : Int32) => (1 = rz ∧ ft = u ∧ ¬ i0 < 0 ∧ ¬ n0 < 0 ∧ n0 ≤ k0 - i0) ∨ (0 = rz ∧ 2 = u ∧ (i0 < 0 ∨ n0 < 0 ∨ ¬ n0 ≤ k0 - i0))) (cB (dC, dI) (fun u : Int32 => cW g ty pl ac u md Z P) A) A) (by decide) (Nat.le_of_ble_eq_true rfl) ?_
  intro p e s m below meth c A hx hb hr hml hown hg hlk hmn hP hK hD hT hS hA hsz ls hl
  have hown : s.vm.findClass RX11 = some m.cls := hown
  have hl : lv_has ls 4 [(0, .ref (g 0)), (1, .int i0), (2, .int n0), (3, .int k0)] := hl
  refine lv_iload_n hx hb dX11_isSpan_0 rfl (lv_at hl 1 rfl) ?_
  refine lv_if_lt (tgt := 15) hx hb dX11_isSpan_1 (by decide) (fun c_1 => ?_) (fun c_1 => ?_)
  · show _
    refine lv_aload_n hx hb dX11_isSpan_15 rfl (lv_at hl 0 rfl) ?_
    refine lv_iconst (v := 2) hx hb dX11_isSpan_16 (by decide) ?_
    refine cV_i (C := RX11) (n := 1) (rest := []) hx hb hml hown hg hT (c_X11_tell l dC dI g ty s.heap.size pl ac ft md Z P 2 ) (cv_of hg wM_X11_245 wN_X11_tell wL_X11_X11_tell wK_X11_tell wI_X11 (by decide +kernel) ⟨Nat.le_of_ble_eq_true rfl, Nat.le_of_ble_eq_true rfl⟩) hK hP hD hS hA (va_recv hK hP (ci := 13) (q0 := 0) rfl rfl) rfl hl.1 rfl (Nat.le_of_ble_eq_true rfl) dX11_isSpan_17 ⟨Nat.le_of_ble_eq_true rfl, Nat.le_of_ble_eq_true rfl⟩ (fun r_3 u_4 H locs q_2 hP hD hS => ?_)
    obtain ⟨rfl, rfl⟩ := q_2
    have hP : va_P (dC, dI) vwCl (cW g ty pl ac 2 md Z P) H := hP
    have hD : va_D A (cW g ty pl ac 2 md Z P) := hD
    refine lv_if_eq (tgt := 27) hx hb dX11_isSpan_20 (by decide) (fun _ => ?_) (fun c9 => absurd (by decide) c9) 
    refine lv_iconst (v := 0) hx hb dX11_isSpan_27 (by decide) ?_
    refine cr_z (wo := fun u : Int32 => cW g ty pl ac u md Z P) (2) hx hb hr hlk hS hP hD rfl ?_ dX11_isSpan_28
    exact Or.inr ⟨rfl, rfl, (by first | assumption | exact cin_lt (by assumption) (by assumption) (by decide) | exact cin_ng (by assumption) | exact cin_nl (by assumption) (by decide) | exact Or.inl (by assumption) | exact Or.inr (by assumption) | exact Or.inr (Or.inl (by assumption)) | exact Or.inr (Or.inr (by assumption)))⟩
  · show _
    refine lv_iload_n hx hb dX11_isSpan_4 rfl (lv_at hl 2 rfl) ?_
    refine lv_if_lt (tgt := 15) hx hb dX11_isSpan_5 (by decide) (fun c_5 => ?_) (fun c_5 => ?_)
    · show _
      refine lv_aload_n hx hb dX11_isSpan_15 rfl (lv_at hl 0 rfl) ?_
      refine lv_iconst (v := 2) hx hb dX11_isSpan_16 (by decide) ?_
      refine cV_i (C := RX11) (n := 1) (rest := []) hx hb hml hown hg hT (c_X11_tell l dC dI g ty s.heap.size pl ac ft md Z P 2 ) (cv_of hg wM_X11_245 wN_X11_tell wL_X11_X11_tell wK_X11_tell wI_X11 (by decide +kernel) ⟨Nat.le_of_ble_eq_true rfl, Nat.le_of_ble_eq_true rfl⟩) hK hP hD hS hA (va_recv hK hP (ci := 13) (q0 := 0) rfl rfl) rfl hl.1 rfl (Nat.le_of_ble_eq_true rfl) dX11_isSpan_17 ⟨Nat.le_of_ble_eq_true rfl, Nat.le_of_ble_eq_true rfl⟩ (fun r_7 u_8 H locs q_6 hP hD hS => ?_)
      obtain ⟨rfl, rfl⟩ := q_6
      have hP : va_P (dC, dI) vwCl (cW g ty pl ac 2 md Z P) H := hP
      have hD : va_D A (cW g ty pl ac 2 md Z P) := hD
      refine lv_if_eq (tgt := 27) hx hb dX11_isSpan_20 (by decide) (fun _ => ?_) (fun c9 => absurd (by decide) c9) 
      refine lv_iconst (v := 0) hx hb dX11_isSpan_27 (by decide) ?_
      refine cr_z (wo := fun u : Int32 => cW g ty pl ac u md Z P) (2) hx hb hr hlk hS hP hD rfl ?_ dX11_isSpan_28
      exact Or.inr ⟨rfl, rfl, (by first | assumption | exact cin_lt (by assumption) (by assumption) (by decide) | exact cin_ng (by assumption) | exact cin_nl (by assumption) (by decide) | exact Or.inl (by assumption) | exact Or.inr (by assumption) | exact Or.inr (Or.inl (by assumption)) | exact Or.inr (Or.inr (by assumption)))⟩
    · show _
      refine lv_iload_n hx hb dX11_isSpan_8 rfl (lv_at hl 2 rfl) ?_
      refine lv_iload_n hx hb dX11_isSpan_9 rfl (lv_at hl 3 rfl) ?_
      refine lv_iload_n hx hb dX11_isSpan_10 rfl (lv_at hl 1 rfl) ?_
      refine lv_isub hx hb dX11_isSpan_11 ?_
      refine lv_icmp_le (tgt := 23) hx hb dX11_isSpan_12 (by decide) (fun c_9 => ?_) (fun c_9 => ?_)
      · show _
        refine lv_iconst (v := 1) hx hb dX11_isSpan_23 (by decide) ?_
        refine lv_goto (tgt := 28) hx hb dX11_isSpan_24 (by decide) ?_
        refine cr_z (wo := fun u : Int32 => cW g ty pl ac u md Z P) (ft) hx hb hr hlk hS hP hD rfl ?_ dX11_isSpan_28
        exact Or.inl ⟨rfl, rfl, (by first | assumption | exact cin_lt (by assumption) (by assumption) (by decide) | exact cin_ng (by assumption) | exact cin_nl (by assumption) (by decide) | exact Or.inl (by assumption) | exact Or.inr (by assumption) | exact Or.inr (Or.inl (by assumption)) | exact Or.inr (Or.inr (by assumption))), (by first | assumption | exact cin_lt (by assumption) (by assumption) (by decide) | exact cin_ng (by assumption) | exact cin_nl (by assumption) (by decide) | exact Or.inl (by assumption) | exact Or.inr (by assumption) | exact Or.inr (Or.inl (by assumption)) | exact Or.inr (Or.inr (by assumption))), (by first | assumption | exact cin_lt (by assumption) (by assumption) (by decide) | exact cin_ng (by assumption) | exact cin_nl (by assumption) (by decide) | exact Or.inl (by assumption) | exact Or.inr (by assumption) | exact Or.inr (Or.inl (by assumption)) | exact Or.inr (Or.inr (by assumption)))⟩
      · show _
        refine lv_aload_n hx hb dX11_isSpan_15 rfl (lv_at hl 0 rfl) ?_
        refine lv_iconst (v := 2) hx hb dX11_isSpan_16 (by decide) ?_
        refine cV_i (C := RX11) (n := 1) (rest := []) hx hb hml hown hg hT (c_X11_tell l dC dI g ty s.heap.size pl ac ft md Z P 2 ) (cv_of hg wM_X11_245 wN_X11_tell wL_X11_X11_tell wK_X11_tell wI_X11 (by decide +kernel) ⟨Nat.le_of_ble_eq_true rfl, Nat.le_of_ble_eq_true rfl⟩) hK hP hD hS hA (va_recv hK hP (ci := 13) (q0 := 0) rfl rfl) rfl hl.1 rfl (Nat.le_of_ble_eq_true rfl) dX11_isSpan_17 ⟨Nat.le_of_ble_eq_true rfl, Nat.le_of_ble_eq_true rfl⟩ (fun r_11 u_12 H locs q_10 hP hD hS => ?_)
        obtain ⟨rfl, rfl⟩ := q_10
        have hP : va_P (dC, dI) vwCl (cW g ty pl ac 2 md Z P) H := hP
        have hD : va_D A (cW g ty pl ac 2 md Z P) := hD
        refine lv_if_eq (tgt := 27) hx hb dX11_isSpan_20 (by decide) (fun _ => ?_) (fun c9 => absurd (by decide) c9) 
        refine lv_iconst (v := 0) hx hb dX11_isSpan_27 (by decide) ?_
        refine cr_z (wo := fun u : Int32 => cW g ty pl ac u md Z P) (2) hx hb hr hlk hS hP hD rfl ?_ dX11_isSpan_28
        exact Or.inr ⟨rfl, rfl, (by first | assumption | exact cin_lt (by assumption) (by assumption) (by decide) | exact cin_ng (by assumption) | exact cin_nl (by assumption) (by decide) | exact Or.inl (by assumption) | exact Or.inr (by assumption) | exact Or.inr (Or.inl (by assumption)) | exact Or.inr (Or.inr (by assumption)))⟩
set_option maxHeartbeats 4000000 in
set_option maxRecDepth 100000 in
theorem c_X11_isSize (l : Launch) (dC : Nat → ClassId) (dI : Nat → Nat → Nat) (g : Nat → Nat) (ty : Nat → ClassId) (sz : Nat) (pl : Nat → Option Nat) (ac : Int64) (ft : Int32) (md : Int32) (Z : cZ) (P : cQ) (n0 : Int32) : Met l yX11_isSize (Cond.code yX11_isSize cX11_isSize 2 (some .boolean) :: gT) ({ frames := 1, cells := 0, slots := 0, locals := 21 }) (cP (dC, dI) (cTy ty) (cW g ty pl ac ft md Z P) sz [.ref (g 0), .int n0]) (va_Qi (fun (rz : Int32) (u : Int32) => (1 = rz ∧ ft = u ∧ 0 ≤ n0) ∨ (0 = rz ∧ 4 = u ∧ ¬ 0 ≤ n0)) (cB (dC, dI) (fun u : Int32 => cW g ty pl ac u md Z P) (va_A (cW g ty pl ac ft md Z P) sz)) (va_A (cW g ty pl ac ft md Z P) sz)) 0 0 (va_A (cW g ty pl ac ft md Z P) sz) := by
  refine cc_of (Qa := fun A => va_Qi (fun (rz : Int32) (u : Int32) => (1 = rz ∧ ft = u ∧ 0 ≤ n0) ∨ (0 = rz ∧ 4 = u ∧ ¬ 0 ≤ n0)) (cB (dC, dI) (fun u : Int32 => cW g ty pl ac u md Z P) A) A) (by decide) (Nat.le_of_ble_eq_true rfl) ?_
  intro p e s m below meth c A hx hb hr hml hown hg hlk hmn hP hK hD hT hS hA hsz ls hl
  have hown : s.vm.findClass RX11 = some m.cls := hown
  have hl : lv_has ls 2 [(0, .ref (g 0)), (1, .int n0)] := hl
  refine lv_iload_n hx hb dX11_isSize_0 rfl (lv_at hl 1 rfl) ?_
  refine lv_if_ge (tgt := 12) hx hb dX11_isSize_1 (by decide) (fun c_1 => ?_) (fun c_1 => ?_)
  · show _
    refine lv_iconst (v := 1) hx hb dX11_isSize_12 (by decide) ?_
    refine lv_goto (tgt := 17) hx hb dX11_isSize_13 (by decide) ?_
    refine cr_z (wo := fun u : Int32 => cW g ty pl ac u md Z P) (ft) hx hb hr hlk hS hP hD rfl ?_ dX11_isSize_17
    exact Or.inl ⟨rfl, rfl, (by first | assumption | exact cin_lt (by assumption) (by assumption) (by decide) | exact cin_ng (by assumption) | exact cin_nl (by assumption) (by decide) | exact Or.inl (by assumption) | exact Or.inr (by assumption) | exact Or.inr (Or.inl (by assumption)) | exact Or.inr (Or.inr (by assumption)))⟩
  · show _
    refine lv_aload_n hx hb dX11_isSize_4 rfl (lv_at hl 0 rfl) ?_
    refine lv_iconst (v := 4) hx hb dX11_isSize_5 (by decide) ?_
    refine cV_i (C := RX11) (n := 1) (rest := []) hx hb hml hown hg hT (c_X11_tell l dC dI g ty s.heap.size pl ac ft md Z P 4 ) (cv_of hg wM_X11_245 wN_X11_tell wL_X11_X11_tell wK_X11_tell wI_X11 (by decide +kernel) ⟨Nat.le_of_ble_eq_true rfl, Nat.le_of_ble_eq_true rfl⟩) hK hP hD hS hA (va_recv hK hP (ci := 13) (q0 := 0) rfl rfl) rfl hl.1 rfl (Nat.le_of_ble_eq_true rfl) dX11_isSize_6 ⟨Nat.le_of_ble_eq_true rfl, Nat.le_of_ble_eq_true rfl⟩ (fun r_3 u_4 H locs q_2 hP hD hS => ?_)
    obtain ⟨rfl, rfl⟩ := q_2
    have hP : va_P (dC, dI) vwCl (cW g ty pl ac 4 md Z P) H := hP
    have hD : va_D A (cW g ty pl ac 4 md Z P) := hD
    refine lv_if_eq (tgt := 16) hx hb dX11_isSize_9 (by decide) (fun _ => ?_) (fun c9 => absurd (by decide) c9) 
    refine lv_iconst (v := 0) hx hb dX11_isSize_16 (by decide) ?_
    refine cr_z (wo := fun u : Int32 => cW g ty pl ac u md Z P) (4) hx hb hr hlk hS hP hD rfl ?_ dX11_isSize_17
    exact Or.inr ⟨rfl, rfl, (by first | assumption | exact cin_lt (by assumption) (by assumption) (by decide) | exact cin_ng (by assumption) | exact cin_nl (by assumption) (by decide) | exact Or.inl (by assumption) | exact Or.inr (by assumption) | exact Or.inr (Or.inl (by assumption)) | exact Or.inr (Or.inr (by assumption)))⟩
set_option maxHeartbeats 4000000 in
set_option maxRecDepth 100000 in
theorem c_X11_isDivisor (l : Launch) (dC : Nat → ClassId) (dI : Nat → Nat → Nat) (g : Nat → Nat) (ty : Nat → ClassId) (sz : Nat) (pl : Nat → Option Nat) (ac : Int64) (ft : Int32) (md : Int32) (Z : cZ) (P : cQ) (b0 : Int32) : Met l yX11_isDivisor (Cond.code yX11_isDivisor cX11_isDivisor 2 (some .boolean) :: gT) ({ frames := 1, cells := 0, slots := 0, locals := 21 }) (cP (dC, dI) (cTy ty) (cW g ty pl ac ft md Z P) sz [.ref (g 0), .int b0]) (va_Qi (fun (rz : Int32) (u : Int32) => (1 = rz ∧ ft = u ∧ ¬ b0 = 0) ∨ (0 = rz ∧ 0 = u ∧ b0 = 0)) (cB (dC, dI) (fun u : Int32 => cW g ty pl ac u md Z P) (va_A (cW g ty pl ac ft md Z P) sz)) (va_A (cW g ty pl ac ft md Z P) sz)) 0 0 (va_A (cW g ty pl ac ft md Z P) sz) := by
  refine cc_of (Qa := fun A => va_Qi (fun (rz : Int32) (u : Int32) => (1 = rz ∧ ft = u ∧ ¬ b0 = 0) ∨ (0 = rz ∧ 0 = u ∧ b0 = 0)) (cB (dC, dI) (fun u : Int32 => cW g ty pl ac u md Z P) A) A) (by decide) (Nat.le_of_ble_eq_true rfl) ?_
  intro p e s m below meth c A hx hb hr hml hown hg hlk hmn hP hK hD hT hS hA hsz ls hl
  have hown : s.vm.findClass RX11 = some m.cls := hown
  have hl : lv_has ls 2 [(0, .ref (g 0)), (1, .int b0)] := hl
  refine lv_iload_n hx hb dX11_isDivisor_0 rfl (lv_at hl 1 rfl) ?_
  refine lv_if_ne (tgt := 12) hx hb dX11_isDivisor_1 (by decide) (fun c_1 => ?_) (fun c_1 => ?_)
  · show _
    refine lv_iconst (v := 1) hx hb dX11_isDivisor_12 (by decide) ?_
    refine lv_goto (tgt := 17) hx hb dX11_isDivisor_13 (by decide) ?_
    refine cr_z (wo := fun u : Int32 => cW g ty pl ac u md Z P) (ft) hx hb hr hlk hS hP hD rfl ?_ dX11_isDivisor_17
    exact Or.inl ⟨rfl, rfl, (by first | assumption | exact cin_lt (by assumption) (by assumption) (by decide) | exact cin_ng (by assumption) | exact cin_nl (by assumption) (by decide) | exact Or.inl (by assumption) | exact Or.inr (by assumption) | exact Or.inr (Or.inl (by assumption)) | exact Or.inr (Or.inr (by assumption)))⟩
  · show _
    refine lv_aload_n hx hb dX11_isDivisor_4 rfl (lv_at hl 0 rfl) ?_
    refine lv_iconst (v := 0) hx hb dX11_isDivisor_5 (by decide) ?_
    refine cV_i (C := RX11) (n := 1) (rest := []) hx hb hml hown hg hT (c_X11_tell l dC dI g ty s.heap.size pl ac ft md Z P 0 ) (cv_of hg wM_X11_245 wN_X11_tell wL_X11_X11_tell wK_X11_tell wI_X11 (by decide +kernel) ⟨Nat.le_of_ble_eq_true rfl, Nat.le_of_ble_eq_true rfl⟩) hK hP hD hS hA (va_recv hK hP (ci := 13) (q0 := 0) rfl rfl) rfl hl.1 rfl (Nat.le_of_ble_eq_true rfl) dX11_isDivisor_6 ⟨Nat.le_of_ble_eq_true rfl, Nat.le_of_ble_eq_true rfl⟩ (fun r_3 u_4 H locs q_2 hP hD hS => ?_)
    obtain ⟨rfl, rfl⟩ := q_2
    have hP : va_P (dC, dI) vwCl (cW g ty pl ac 0 md Z P) H := hP
    have hD : va_D A (cW g ty pl ac 0 md Z P) := hD
    refine lv_if_eq (tgt := 16) hx hb dX11_isDivisor_9 (by decide) (fun _ => ?_) (fun c9 => absurd (by decide) c9) 
    refine lv_iconst (v := 0) hx hb dX11_isDivisor_16 (by decide) ?_
    refine cr_z (wo := fun u : Int32 => cW g ty pl ac u md Z P) (0) hx hb hr hlk hS hP hD rfl ?_ dX11_isDivisor_17
    exact Or.inr ⟨rfl, rfl, (by first | assumption | exact cin_lt (by assumption) (by assumption) (by decide) | exact cin_ng (by assumption) | exact cin_nl (by assumption) (by decide) | exact Or.inl (by assumption) | exact Or.inr (by assumption) | exact Or.inr (Or.inl (by assumption)) | exact Or.inr (Or.inr (by assumption)))⟩
set_option maxHeartbeats 4000000 in
set_option maxRecDepth 100000 in
theorem c_X11_isThere (l : Launch) (dC : Nat → ClassId) (dI : Nat → Nat → Nat) (g : Nat → Nat) (ty : Nat → ClassId) (sz : Nat) (pl : Nat → Option Nat) (ac : Int64) (ft : Int32) (md : Int32) (Z : cZ) (P : cQ) (t0 : Option Nat) : Met l yX11_isThere (Cond.code yX11_isThere cX11_isThere 2 (some .boolean) :: gT) ({ frames := 1, cells := 0, slots := 0, locals := 21 }) (cP (dC, dI) (cTy ty) (cW g ty pl ac ft md Z P) sz [.ref (g 0), va_rf t0]) (va_Qi (fun (rz : Int32) (u : Int32) => (1 = rz ∧ ft = u ∧ t0 ≠ none) ∨ (0 = rz ∧ 1 = u ∧ t0 = none)) (cB (dC, dI) (fun u : Int32 => cW g ty pl ac u md Z P) (va_A (cW g ty pl ac ft md Z P) sz)) (va_A (cW g ty pl ac ft md Z P) sz)) 0 0 (va_A (cW g ty pl ac ft md Z P) sz) := by
  refine cc_of (Qa := fun A => va_Qi (fun (rz : Int32) (u : Int32) => (1 = rz ∧ ft = u ∧ t0 ≠ none) ∨ (0 = rz ∧ 1 = u ∧ t0 = none)) (cB (dC, dI) (fun u : Int32 => cW g ty pl ac u md Z P) A) A) (by decide) (by cases t0 <;> exact Nat.le_of_ble_eq_true rfl) ?_
  intro p e s m below meth c A hx hb hr hml hown hg hlk hmn hP hK hD hT hS hA hsz ls hl
  have hown : s.vm.findClass RX11 = some m.cls := hown
  cases t0 with
  | none =>
    have hl : lv_has ls 2 [(0, .ref (g 0)), (1, .null)] := hl
    refine lv_aload_nN hx hb dX11_isThere_0 rfl (lv_at hl 1 rfl) ?_
    refine lv_ifnonnullN hx hb dX11_isThere_1 ?_
    refine lv_aload_n hx hb dX11_isThere_4 rfl (lv_at hl 0 rfl) ?_
    refine lv_iconst (v := 1) hx hb dX11_isThere_5 (by decide) ?_
    refine cV_i (C := RX11) (n := 1) (rest := []) hx hb hml hown hg hT (c_X11_tell l dC dI g ty s.heap.size pl ac ft md Z P 1 ) (cv_of hg wM_X11_245 wN_X11_tell wL_X11_X11_tell wK_X11_tell wI_X11 (by decide +kernel) ⟨Nat.le_of_ble_eq_true rfl, Nat.le_of_ble_eq_true rfl⟩) hK hP hD hS hA (va_recv hK hP (ci := 13) (q0 := 0) rfl rfl) rfl hl.1 rfl (Nat.le_of_ble_eq_true rfl) dX11_isThere_6 ⟨Nat.le_of_ble_eq_true rfl, Nat.le_of_ble_eq_true rfl⟩ (fun r_2 u_3 H locs q_1 hP hD hS => ?_)
    obtain ⟨rfl, rfl⟩ := q_1
    have hP : va_P (dC, dI) vwCl (cW g ty pl ac 1 md Z P) H := hP
    have hD : va_D A (cW g ty pl ac 1 md Z P) := hD
    refine lv_if_eq (tgt := 16) hx hb dX11_isThere_9 (by decide) (fun _ => ?_) (fun c9 => absurd (by decide) c9) 
    refine lv_iconst (v := 0) hx hb dX11_isThere_16 (by decide) ?_
    refine cr_z (wo := fun u : Int32 => cW g ty pl ac u md Z P) (1) hx hb hr hlk hS hP hD rfl ?_ dX11_isThere_17
    exact Or.inr ⟨rfl, rfl, (by first | rfl | assumption | (intro h9; cases h9))⟩
  | some t0 =>
    have hl : lv_has ls 2 [(0, .ref (g 0)), (1, .ref t0)] := hl
    refine lv_aload_n hx hb dX11_isThere_0 rfl (lv_at hl 1 rfl) ?_
    refine lv_ifnonnull (tgt := 12) hx hb dX11_isThere_1 (by decide) ?_
    refine lv_iconst (v := 1) hx hb dX11_isThere_12 (by decide) ?_
    refine lv_goto (tgt := 17) hx hb dX11_isThere_13 (by decide) ?_
    refine cr_z (wo := fun u : Int32 => cW g ty pl ac u md Z P) (ft) hx hb hr hlk hS hP hD rfl ?_ dX11_isThere_17
    exact Or.inl ⟨rfl, rfl, (by first | rfl | assumption | (intro h9; cases h9))⟩
set_option maxHeartbeats 4000000 in
set_option maxRecDepth 100000 in
theorem c_X11_mayMake (l : Launch) (dC : Nat → ClassId) (dI : Nat → Nat → Nat) (g : Nat → Nat) (ty : Nat → ClassId) (sz : Nat) (pl : Nat → Option Nat) (ac : Int64) (ft : Int32) (md : Int32) (Z : cZ) (P : cQ) : Met l yX11_mayMake (Cond.code yX11_mayMake cX11_mayMake 1 (some .boolean) :: gT) ({ frames := 1, cells := 0, slots := 0, locals := 21 }) (cP (dC, dI) (cTy ty) (cW g ty pl ac ft md Z P) sz [.ref (g 0)]) (va_Qi (fun (rz : Int32) (u : Int32) => (1 = rz ∧ ft = u ∧ md < 6000) ∨ (0 = rz ∧ 6 = u ∧ ¬ md < 6000)) (cB (dC, dI) (fun u : Int32 => cW g ty pl ac u md Z P) (va_A (cW g ty pl ac ft md Z P) sz)) (va_A (cW g ty pl ac ft md Z P) sz)) 0 0 (va_A (cW g ty pl ac ft md Z P) sz) := by
  refine cc_of (Qa := fun A => va_Qi (fun (rz : Int32) (u : Int32) => (1 = rz ∧ ft = u ∧ md < 6000) ∨ (0 = rz ∧ 6 = u ∧ ¬ md < 6000)) (cB (dC, dI) (fun u : Int32 => cW g ty pl ac u md Z P) A) A) (by decide) (Nat.le_of_ble_eq_true rfl) ?_
  intro p e s m below meth c A hx hb hr hml hown hg hlk hmn hP hK hD hT hS hA hsz ls hl
  have hown : s.vm.findClass RX11 = some m.cls := hown
  have hl : lv_has ls 1 [(0, .ref (g 0))] := hl
  refine lv_aload_n hx hb dX11_mayMake_0 rfl (lv_at hl 0 rfl) ?_
  refine va_get (D := (dC, dI)) (ci := 13) (v := .int md) (C := RX11) (T := TX11) (N := 12) hx hb hg inG11 hown hK hP 0 rfl rfl 11 (by decide) (hg _ wF_X11_81) (fun _ h9 => h9) rfl dX11_mayMake_1 ?_
  refine lv_sipush (v := 6000) hx hb dX11_mayMake_4 (by decide) ?_
  refine lv_icmp_lt (tgt := 19) hx hb dX11_mayMake_7 (by decide) (fun c_1 => ?_) (fun c_1 => ?_)
  · show _
    refine lv_iconst (v := 1) hx hb dX11_mayMake_19 (by decide) ?_
    refine lv_goto (tgt := 24) hx hb dX11_mayMake_20 (by decide) ?_
    refine cr_z (wo := fun u : Int32 => cW g ty pl ac u md Z P) (ft) hx hb hr hlk hS hP hD rfl ?_ dX11_mayMake_24
    exact Or.inl ⟨rfl, rfl, (by first | assumption | exact cin_lt (by assumption) (by assumption) (by decide) | exact cin_ng (by assumption) | exact cin_nl (by assumption) (by decide) | exact Or.inl (by assumption) | exact Or.inr (by assumption) | exact Or.inr (Or.inl (by assumption)) | exact Or.inr (Or.inr (by assumption)))⟩
  · show _
    refine lv_aload_n hx hb dX11_mayMake_10 rfl (lv_at hl 0 rfl) ?_
    refine lv_bipush (v := 6) hx hb dX11_mayMake_11 (by decide) ?_
    refine cV_i (C := RX11) (n := 1) (rest := []) hx hb hml hown hg hT (c_X11_tell l dC dI g ty s.heap.size pl ac ft md Z P 6 ) (cv_of hg wM_X11_245 wN_X11_tell wL_X11_X11_tell wK_X11_tell wI_X11 (by decide +kernel) ⟨Nat.le_of_ble_eq_true rfl, Nat.le_of_ble_eq_true rfl⟩) hK hP hD hS hA (va_recv hK hP (ci := 13) (q0 := 0) rfl rfl) rfl hl.1 rfl (Nat.le_of_ble_eq_true rfl) dX11_mayMake_13 ⟨Nat.le_of_ble_eq_true rfl, Nat.le_of_ble_eq_true rfl⟩ (fun r_3 u_4 H locs q_2 hP hD hS => ?_)
    obtain ⟨rfl, rfl⟩ := q_2
    have hP : va_P (dC, dI) vwCl (cW g ty pl ac 6 md Z P) H := hP
    have hD : va_D A (cW g ty pl ac 6 md Z P) := hD
    refine lv_if_eq (tgt := 23) hx hb dX11_mayMake_16 (by decide) (fun _ => ?_) (fun c9 => absurd (by decide) c9) 
    refine lv_iconst (v := 0) hx hb dX11_mayMake_23 (by decide) ?_
    refine cr_z (wo := fun u : Int32 => cW g ty pl ac u md Z P) (6) hx hb hr hlk hS hP hD rfl ?_ dX11_mayMake_24
    exact Or.inr ⟨rfl, rfl, (by first | assumption | exact cin_lt (by assumption) (by assumption) (by decide) | exact cin_ng (by assumption) | exact cin_nl (by assumption) (by decide) | exact Or.inl (by assumption) | exact Or.inr (by assumption) | exact Or.inr (Or.inl (by assumption)) | exact Or.inr (Or.inr (by assumption)))⟩
set_option maxHeartbeats 4000000 in
set_option maxRecDepth 100000 in
theorem c_X11_acc (l : Launch) (dC : Nat → ClassId) (dI : Nat → Nat → Nat) (g : Nat → Nat) (ty : Nat → ClassId) (sz : Nat) (pl : Nat → Option Nat) (ac : Int64) (ft : Int32) (md : Int32) (Z : cZ) (P : cQ) : Met l yX11_acc (Cond.code yX11_acc cX11_acc 1 (some .long) :: gT) ({ frames := 0, cells := 0, slots := 0, locals := 0 }) (cP (dC, dI) (cTy ty) (cW g ty pl ac ft md Z P) sz [.ref (g 0)]) (va_Ql (fun (rz : Int64) (u : Unit) => ac = rz) (cB (dC, dI) (fun u : Unit => cW g ty pl ac ft md Z P) (va_A (cW g ty pl ac ft md Z P) sz)) (va_A (cW g ty pl ac ft md Z P) sz)) 0 0 (va_A (cW g ty pl ac ft md Z P) sz) := by
  refine cc_of (Qa := fun A => va_Ql (fun (rz : Int64) (u : Unit) => ac = rz) (cB (dC, dI) (fun u : Unit => cW g ty pl ac ft md Z P) A) A) (by decide) (Nat.le_of_ble_eq_true rfl) ?_
  intro p e s m below meth c A hx hb hr hml hown hg hlk hmn hP hK hD hT hS hA hsz ls hl
  have hown : s.vm.findClass RX11 = some m.cls := hown
  have hl : lv_has ls 1 [(0, .ref (g 0))] := hl
  refine lv_aload_n hx hb dX11_acc_0 rfl (lv_at hl 0 rfl) ?_
  refine va_get (D := (dC, dI)) (ci := 13) (v := .long ac) (C := RX11) (T := TX11) (N := 12) hx hb hg inG11 hown hK hP 0 rfl rfl 3 (by decide) (hg _ wF_X11_68) (fun _ h9 => h9) rfl dX11_acc_1 ?_
  refine cr_l (wo := fun u : Unit => cW g ty pl ac ft md Z P) (()) hx hb hr hlk hS hP hD ?_ dX11_acc_4
  exact rfl

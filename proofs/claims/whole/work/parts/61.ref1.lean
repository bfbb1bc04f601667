set_option maxHeartbeats 800000 in
set_option maxRecDepth 100000 in
theorem c_X12_thrown (l : Launch) (dC : Nat → ClassId) (dI : Nat → Nat → Nat) (g : Nat → Nat) (ty : Nat → ClassId) (sz : Nat) (Y : rY) (pa : Nat → Int32) (kp : Nat → Int32) (ks : Int32) (I : rI) (tl : Nat → Int32) (ac : Int64) (wr : Int32) (tw : Int32) : Met l yX12_thrown (Cond.code yX12_thrown cX12_thrown 1 (some .int) :: gT) ({ frames := 0, cells := 0, slots := 0, locals := 0 }) (cP (dC, dI) (rTy ty) (rW g ty Y pa kp ks I tl ac wr tw) sz [.ref (g 8)]) (va_Qi (fun (rz : Int32) (u : Unit) => I.2.2.2.2.2 = rz) (cB (dC, dI) (fun u : Unit => rW g ty Y pa kp ks I tl ac wr tw) (va_A (rW g ty Y pa kp ks I tl ac wr tw) sz)) (va_A (rW g ty Y pa kp ks I tl ac wr tw) sz)) 0 0 (va_A (rW g ty Y pa kp ks I tl ac wr tw) sz) := by
  refine cc_of (Qa := fun A => va_Qi (fun (rz : Int32) (u : Unit) => I.2.2.2.2.2 = rz) (cB (dC, dI) (fun u : Unit => rW g ty Y pa kp ks I tl ac wr tw) A) A) (by decide) (Nat.le_of_ble_eq_true rfl) ?_
  intro p e s m below meth c A hx hb hr hml hown hg hlk hmn hP hK hD hT hS hA hsz ls hl
  have hown : s.vm.findClass RX12 = some m.cls := hown
  have hl : lv_has ls 1 [(0, .ref (g 8))] := hl
  refine lv_aload_n hx hb dX12_thrown_0 rfl (lv_at hl 0 rfl) ?_
  refine va_get (D := (dC, dI)) (ci := 14) (v := .int I.2.2.2.2.2) (C := RX12) (T := TX12) (N := 21) hx hb hg inG12 hown hK hP 0 rfl rfl 15 (by decide) (hg _ wF_X12_55) (fun _ h9 => h9) rfl dX12_thrown_1 ?_
  refine cr_i (wo := fun u : Unit => rW g ty Y pa kp ks I tl ac wr tw) (()) hx hb hr hlk hS hP hD ?_ dX12_thrown_4
  exact rfl
set_option maxHeartbeats 800000 in
set_option maxRecDepth 100000 in
theorem c_X12_acc (l : Launch) (dC : Nat → ClassId) (dI : Nat → Nat → Nat) (g : Nat → Nat) (ty : Nat → ClassId) (sz : Nat) (Y : rY) (pa : Nat → Int32) (kp : Nat → Int32) (ks : Int32) (I : rI) (tl : Nat → Int32) (ac : Int64) (wr : Int32) (tw : Int32) : Met l yX12_acc (Cond.code yX12_acc cX12_acc 1 (some .long) :: gT) ({ frames := 0, cells := 0, slots := 0, locals := 0 }) (cP (dC, dI) (rTy ty) (rW g ty Y pa kp ks I tl ac wr tw) sz [.ref (g 8)]) (va_Ql (fun (rz : Int64) (u : rI) => ac = rz ∧ (I.1, I.2.1, I.2.2.1, I.2.2.2.1, I.2.2.2.2.1, 0) = u) (cB (dC, dI) (fun u : rI => rW g ty Y pa kp ks u tl ac wr tw) (va_A (rW g ty Y pa kp ks I tl ac wr tw) sz)) (va_A (rW g ty Y pa kp ks I tl ac wr tw) sz)) 0 0 (va_A (rW g ty Y pa kp ks I tl ac wr tw) sz) := by
  refine cc_of (Qa := fun A => va_Ql (fun (rz : Int64) (u : rI) => ac = rz ∧ (I.1, I.2.1, I.2.2.1, I.2.2.2.1, I.2.2.2.2.1, 0) = u) (cB (dC, dI) (fun u : rI => rW g ty Y pa kp ks u tl ac wr tw) A) A) (by decide) (Nat.le_of_ble_eq_true rfl) ?_
  intro p e s m below meth c A hx hb hr hml hown hg hlk hmn hP hK hD hT hS hA hsz ls hl
  have hown : s.vm.findClass RX12 = some m.cls := hown
  have hl : lv_has ls 1 [(0, .ref (g 8))] := hl
  refine lv_aload_n hx hb dX12_acc_0 rfl (lv_at hl 0 rfl) ?_
  refine lv_iconst (v := 0) hx hb dX12_acc_1 (by decide) ?_
  refine va_put (D := (dC, dI)) (ci := 14) (v := .int 0) (ty := .int) (C := RX12) (T := TX12) (N := 21) hx hb hg inG12 tyX12 tyX12_ok nmX12 hown hK hP hD hS 0 rfl rfl 15 (by decide) (hg _ wF_X12_55) (fun _ h9 => h9) rfl (by decide +kernel) rfl rfl (Nat.le_of_ble_eq_true rfl) dX12_acc_2 (fun H locs hP hD hS => ?_)
  have hP : va_P (dC, dI) vwCl (rW g ty Y pa kp ks (I.1, I.2.1, I.2.2.1, I.2.2.2.1, I.2.2.2.2.1, 0) tl ac wr tw) H := hP
  have hD : va_D A (rW g ty Y pa kp ks (I.1, I.2.1, I.2.2.1, I.2.2.2.1, I.2.2.2.2.1, 0) tl ac wr tw) := hD
  refine lv_aload_n hx hb dX12_acc_5 rfl (lv_at hl 0 rfl) ?_
  refine va_get (D := (dC, dI)) (ci := 14) (v := .long ac) (C := RX12) (T := TX12) (N := 21) hx hb hg inG12 hown hK hP 0 rfl rfl 13 (by decide) (hg _ wF_X12_143) (fun _ h9 => h9) rfl dX12_acc_6 ?_
  refine cr_l (wo := fun u : rI => rW g ty Y pa kp ks u tl ac wr tw) ((I.1, I.2.1, I.2.2.1, I.2.2.2.1, I.2.2.2.2.1, 0)) hx hb hr hlk hS hP hD ?_ dX12_acc_9
  exact ⟨rfl, rfl⟩
set_option maxHeartbeats 800000 in
set_option maxRecDepth 100000 in
theorem c_X12_fails (l : Launch) (dC : Nat → ClassId) (dI : Nat → Nat → Nat) (g : Nat → Nat) (ty : Nat → ClassId) (sz : Nat) (Y : rY) (pa : Nat → Int32) (kp : Nat → Int32) (ks : Int32) (I : rI) (tl : Nat → Int32) (ac : Int64) (wr : Int32) (tw : Int32) (s0 : Int32) : Met l yX12_fails (Cond.code yX12_fails cX12_fails 2 (some .boolean) :: gT) ({ frames := 0, cells := 0, slots := 0, locals := 0 }) (cP (dC, dI) (rTy ty) (rW g ty Y pa kp ks I tl ac wr tw) sz [.ref (g 8), .int s0]) (va_Qi (fun (rz : Int32) (u : Int32) => 0 = rz ∧ s0 = u) (cB (dC, dI) (fun u : Int32 => rW g ty Y pa kp ks I tl ac u tw) (va_A (rW g ty Y pa kp ks I tl ac wr tw) sz)) (va_A (rW g ty Y pa kp ks I tl ac wr tw) sz)) 0 0 (va_A (rW g ty Y pa kp ks I tl ac wr tw) sz) := by
  refine cc_of (Qa := fun A => va_Qi (fun (rz : Int32) (u : Int32) => 0 = rz ∧ s0 = u) (cB (dC, dI) (fun u : Int32 => rW g ty Y pa kp ks I tl ac u tw) A) A) (by decide) (Nat.le_of_ble_eq_true rfl) ?_
  intro p e s m below meth c A hx hb hr hml hown hg hlk hmn hP hK hD hT hS hA hsz ls hl
  have hown : s.vm.findClass RX12 = some m.cls := hown
  have hl : lv_has ls 2 [(0, .ref (g 8)), (1, .int s0)] := hl
  refine lv_aload_n hx hb dX12_fails_0 rfl (lv_at hl 0 rfl) ?_
  refine lv_iload_n hx hb dX12_fails_1 rfl (lv_at hl 1 rfl) ?_
  refine va_put (D := (dC, dI)) (ci := 14) (v := .int s0) (ty := .int) (C := RX12) (T := TX12) (N := 21) hx hb hg inG12 tyX12 tyX12_ok nmX12 hown hK hP hD hS 0 rfl rfl 16 (by decide) (hg _ wF_X12_76) (fun _ h9 => h9) rfl (by decide +kernel) rfl rfl (Nat.le_of_ble_eq_true rfl) dX12_fails_2 (fun H locs hP hD hS => ?_)
  have hP : va_P (dC, dI) vwCl (rW g ty Y pa kp ks I tl ac s0 tw) H := hP
  have hD : va_D A (rW g ty Y pa kp ks I tl ac s0 tw) := hD
  refine lv_iconst (v := 0) hx hb dX12_fails_5 (by decide) ?_
  refine cr_z (wo := fun u : Int32 => rW g ty Y pa kp ks I tl ac u tw) (s0) hx hb hr hlk hS hP hD rfl ?_ dX12_fails_6
  exact ⟨rfl, rfl⟩
set_option maxHeartbeats 800000 in
set_option maxRecDepth 100000 in
theorem c_X12_no (l : Launch) (dC : Nat → ClassId) (dI : Nat → Nat → Nat) (g : Nat → Nat) (ty : Nat → ClassId) (sz : Nat) (Y : rY) (pa : Nat → Int32) (kp : Nat → Int32) (ks : Int32) (I : rI) (tl : Nat → Int32) (ac : Int64) (wr : Int32) (tw : Int32) : Met l yX12_no (Cond.code yX12_no cX12_no 1 (some .long) :: gT) ({ frames := 0, cells := 0, slots := 0, locals := 0 }) (cP (dC, dI) (rTy ty) (rW g ty Y pa kp ks I tl ac wr tw) sz [.ref (g 8)]) (va_Ql (fun (rz : Int64) (u : Int32) => 0 = rz ∧ 1 = u) (cB (dC, dI) (fun u : Int32 => rW g ty Y pa kp ks I tl ac wr u) (va_A (rW g ty Y pa kp ks I tl ac wr tw) sz)) (va_A (rW g ty Y pa kp ks I tl ac wr tw) sz)) 0 0 (va_A (rW g ty Y pa kp ks I tl ac wr tw) sz) := by
  refine cc_of (Qa := fun A => va_Ql (fun (rz : Int64) (u : Int32) => 0 = rz ∧ 1 = u) (cB (dC, dI) (fun u : Int32 => rW g ty Y pa kp ks I tl ac wr u) A) A) (by decide) (Nat.le_of_ble_eq_true rfl) ?_
  intro p e s m below meth c A hx hb hr hml hown hg hlk hmn hP hK hD hT hS hA hsz ls hl
  have hown : s.vm.findClass RX12 = some m.cls := hown
  have hl : lv_has ls 1 [(0, .ref (g 8))] := hl
  refine lv_aload_n hx hb dX12_no_0 rfl (lv_at hl 0 rfl) ?_
  refine lv_iconst (v := 1) hx hb dX12_no_1 (by decide) ?_
  refine va_put (D := (dC, dI)) (ci := 14) (v := .int 1) (ty := .boolean) (C := RX12) (T := TX12) (N := 21) hx hb hg inG12 tyX12 tyX12_ok nmX12 hown hK hP hD hS 0 rfl rfl 20 (by decide) (hg _ wF_X12_101) (fun _ h9 => h9) rfl (by decide +kernel) rfl rfl (Nat.le_of_ble_eq_true rfl) dX12_no_2 (fun H locs hP hD hS => ?_)
  have hP : va_P (dC, dI) vwCl (rW g ty Y pa kp ks I tl ac wr 1) H := hP
  have hD : va_D A (rW g ty Y pa kp ks I tl ac wr 1) := hD
  refine lv_lconst (v := 0) hx hb dX12_no_5 (by decide) ?_
  refine cr_l (wo := fun u : Int32 => rW g ty Y pa kp ks I tl ac wr u) (1) hx hb hr hlk hS hP hD ?_ dX12_no_6
  exact ⟨rfl, rfl⟩
set_option maxHeartbeats 800000 in
set_option maxRecDepth 100000 in
theorem c_X12_place (l : Launch) (dC : Nat → ClassId) (dI : Nat → Nat → Nat) (g : Nat → Nat) (ty : Nat → ClassId) (sz : Nat) (Y : rY) (pa : Nat → Int32) (kp : Nat → Int32) (ks : Int32) (I : rI) (tl : Nat → Int32) (ac : Int64) (wr : Int32) (tw : Int32) (x0 : Int32) : Met l yX12_place (Cond.code yX12_place cX12_place 2 (some .boolean) :: gT) ({ frames := 1, cells := 0, slots := 0, locals := 21 }) (cP (dC, dI) (rTy ty) (rW g ty Y pa kp ks I tl ac wr tw) sz [.ref (g 8), .int x0]) (va_Qi (fun (rz : Int32) (u : Int32) => (0 = rz ∧ 2 = u ∧ ¬ vp_in x0 32) ∨ (1 = rz ∧ wr = u ∧ vp_in x0 32)) (cB (dC, dI) (fun u : Int32 => rW g ty Y pa kp ks I tl ac u tw) (va_A (rW g ty Y pa kp ks I tl ac wr tw) sz)) (va_A (rW g ty Y pa kp ks I tl ac wr tw) sz)) 0 0 (va_A (rW g ty Y pa kp ks I tl ac wr tw) sz) := by
  refine cc_of (Qa := fun A => va_Qi (fun (rz : Int32) (u : Int32) => (0 = rz ∧ 2 = u ∧ ¬ vp_in x0 32) ∨ (1 = rz ∧ wr = u ∧ vp_in x0 32)) (cB (dC, dI) (fun u : Int32 => rW g ty Y pa kp ks I tl ac u tw) A) A) (by decide) (Nat.le_of_ble_eq_true rfl) ?_
  intro p e s m below meth c A hx hb hr hml hown hg hlk hmn hP hK hD hT hS hA hsz ls hl
  have hown : s.vm.findClass RX12 = some m.cls := hown
  have hl : lv_has ls 2 [(0, .ref (g 8)), (1, .int x0)] := hl
  refine lv_iload_n hx hb dX12_place_0 rfl (lv_at hl 1 rfl) ?_
  refine lv_if_lt (tgt := 10) hx hb dX12_place_1 (by decide) (fun c_1 => ?_) (fun c_1 => ?_)
  · show _
    refine lv_aload_n hx hb dX12_place_10 rfl (lv_at hl 0 rfl) ?_
    refine lv_iconst (v := 2) hx hb dX12_place_11 (by decide) ?_
    refine cV_i (C := RX12) (n := 1) (rest := []) hx hb hml hown hg hT (c_X12_fails l dC dI g ty s.heap.size Y pa kp ks I tl ac wr tw 2 ) (cv_of hg wM_X12_79 wN_X12_fails wL_X12_X12_fails wK_X12_fails wI_X12 (by decide +kernel) ⟨Nat.le_of_ble_eq_true rfl, Nat.le_of_ble_eq_true rfl⟩) hK hP hD hS hA (va_recv hK hP (ci := 14) (q0 := 0) rfl rfl) rfl hl.1 rfl (Nat.le_of_ble_eq_true rfl) dX12_place_12 ⟨Nat.le_of_ble_eq_true rfl, Nat.le_of_ble_eq_true rfl⟩ (fun r_3 u_4 H locs q_2 hP hD hS => ?_)
    obtain ⟨rfl, rfl⟩ := q_2
    have hP : va_P (dC, dI) vwCl (rW g ty Y pa kp ks I tl ac 2 tw) H := hP
    have hD : va_D A (rW g ty Y pa kp ks I tl ac 2 tw) := hD
    refine lv_if_eq (tgt := 22) hx hb dX12_place_15 (by decide) (fun _ => ?_) (fun c9 => absurd (by decide) c9) 
    refine lv_iconst (v := 0) hx hb dX12_place_22 (by decide) ?_
    refine cr_z (wo := fun u : Int32 => rW g ty Y pa kp ks I tl ac u tw) (2) hx hb hr hlk hS hP hD rfl ?_ dX12_place_23
    exact Or.inl ⟨rfl, rfl, (by first | assumption | exact cin_of (by assumption) (ge_of (by assumption)) ci_32 | exact cin_no (Or.inl (by assumption)) ci_32 | exact cin_no (Or.inr (le_of (by assumption))) ci_32)⟩
  · show _
    refine lv_iload_n hx hb dX12_place_4 rfl (lv_at hl 1 rfl) ?_
    refine lv_bipush (v := 32) hx hb dX12_place_5 (by decide) ?_
    refine lv_icmp_lt (tgt := 18) hx hb dX12_place_7 (by decide) (fun c_5 => ?_) (fun c_5 => ?_)
    · show _
      refine lv_iconst (v := 1) hx hb dX12_place_18 (by decide) ?_
      refine lv_goto (tgt := 23) hx hb dX12_place_19 (by decide) ?_
      refine cr_z (wo := fun u : Int32 => rW g ty Y pa kp ks I tl ac u tw) (wr) hx hb hr hlk hS hP hD rfl ?_ dX12_place_23
      exact Or.inr ⟨rfl, rfl, (by first | assumption | exact cin_of (by assumption) (ge_of (by assumption)) ci_32 | exact cin_no (Or.inl (by assumption)) ci_32 | exact cin_no (Or.inr (le_of (by assumption))) ci_32)⟩
    · show _
      refine lv_aload_n hx hb dX12_place_10 rfl (lv_at hl 0 rfl) ?_
      refine lv_iconst (v := 2) hx hb dX12_place_11 (by decide) ?_
      refine cV_i (C := RX12) (n := 1) (rest := []) hx hb hml hown hg hT (c_X12_fails l dC dI g ty s.heap.size Y pa kp ks I tl ac wr tw 2 ) (cv_of hg wM_X12_79 wN_X12_fails wL_X12_X12_fails wK_X12_fails wI_X12 (by decide +kernel) ⟨Nat.le_of_ble_eq_true rfl, Nat.le_of_ble_eq_true rfl⟩) hK hP hD hS hA (va_recv hK hP (ci := 14) (q0 := 0) rfl rfl) rfl hl.1 rfl (Nat.le_of_ble_eq_true rfl) dX12_place_12 ⟨Nat.le_of_ble_eq_true rfl, Nat.le_of_ble_eq_true rfl⟩ (fun r_7 u_8 H locs q_6 hP hD hS => ?_)
      obtain ⟨rfl, rfl⟩ := q_6
      have hP : va_P (dC, dI) vwCl (rW g ty Y pa kp ks I tl ac 2 tw) H := hP
      have hD : va_D A (rW g ty Y pa kp ks I tl ac 2 tw) := hD
      refine lv_if_eq (tgt := 22) hx hb dX12_place_15 (by decide) (fun _ => ?_) (fun c9 => absurd (by decide) c9) 
      refine lv_iconst (v := 0) hx hb dX12_place_22 (by decide) ?_
      refine cr_z (wo := fun u : Int32 => rW g ty Y pa kp ks I tl ac u tw) (2) hx hb hr hlk hS hP hD rfl ?_ dX12_place_23
      exact Or.inl ⟨rfl, rfl, (by first | assumption | exact cin_of (by assumption) (ge_of (by assumption)) ci_32 | exact cin_no (Or.inl (by assumption)) ci_32 | exact cin_no (Or.inr (le_of (by assumption))) ci_32)⟩
set_option maxHeartbeats 800000 in
set_option maxRecDepth 100000 in
theorem c_X12_size (l : Launch) (dC : Nat → ClassId) (dI : Nat → Nat → Nat) (g : Nat → Nat) (ty : Nat → ClassId) (sz : Nat) (Y : rY) (pa : Nat → Int32) (kp : Nat → Int32) (ks : Int32) (I : rI) (tl : Nat → Int32) (ac : Int64) (wr : Int32) (tw : Int32) (n0 : Int32) : Met l yX12_size (Cond.code yX12_size cX12_size 2 (some .boolean) :: gT) ({ frames := 1, cells := 0, slots := 0, locals := 21 }) (cP (dC, dI) (rTy ty) (rW g ty Y pa kp ks I tl ac wr tw) sz [.ref (g 8), .int n0]) (va_Qi (fun (rz : Int32) (u : Int32) => (0 = rz ∧ 4 = u ∧ ¬ 0 ≤ n0) ∨ (1 = rz ∧ wr = u ∧ 0 ≤ n0)) (cB (dC, dI) (fun u : Int32 => rW g ty Y pa kp ks I tl ac u tw) (va_A (rW g ty Y pa kp ks I tl ac wr tw) sz)) (va_A (rW g ty Y pa kp ks I tl ac wr tw) sz)) 0 0 (va_A (rW g ty Y pa kp ks I tl ac wr tw) sz) := by
  refine cc_of (Qa := fun A => va_Qi (fun (rz : Int32) (u : Int32) => (0 = rz ∧ 4 = u ∧ ¬ 0 ≤ n0) ∨ (1 = rz ∧ wr = u ∧ 0 ≤ n0)) (cB (dC, dI) (fun u : Int32 => rW g ty Y pa kp ks I tl ac u tw) A) A) (by decide) (Nat.le_of_ble_eq_true rfl) ?_
  intro p e s m below meth c A hx hb hr hml hown hg hlk hmn hP hK hD hT hS hA hsz ls hl
  have hown : s.vm.findClass RX12 = some m.cls := hown
  have hl : lv_has ls 2 [(0, .ref (g 8)), (1, .int n0)] := hl
  refine lv_iload_n hx hb dX12_size_0 rfl (lv_at hl 1 rfl) ?_
  refine lv_if_ge (tgt := 12) hx hb dX12_size_1 (by decide) (fun c_1 => ?_) (fun c_1 => ?_)
  · show _
    refine lv_iconst (v := 1) hx hb dX12_size_12 (by decide) ?_
    refine lv_goto (tgt := 17) hx hb dX12_size_13 (by decide) ?_
    refine cr_z (wo := fun u : Int32 => rW g ty Y pa kp ks I tl ac u tw) (wr) hx hb hr hlk hS hP hD rfl ?_ dX12_size_17
    exact Or.inr ⟨rfl, rfl, (by assumption)⟩
  · show _
    refine lv_aload_n hx hb dX12_size_4 rfl (lv_at hl 0 rfl) ?_
    refine lv_iconst (v := 4) hx hb dX12_size_5 (by decide) ?_
    refine cV_i (C := RX12) (n := 1) (rest := []) hx hb hml hown hg hT (c_X12_fails l dC dI g ty s.heap.size Y pa kp ks I tl ac wr tw 4 ) (cv_of hg wM_X12_79 wN_X12_fails wL_X12_X12_fails wK_X12_fails wI_X12 (by decide +kernel) ⟨Nat.le_of_ble_eq_true rfl, Nat.le_of_ble_eq_true rfl⟩) hK hP hD hS hA (va_recv hK hP (ci := 14) (q0 := 0) rfl rfl) rfl hl.1 rfl (Nat.le_of_ble_eq_true rfl) dX12_size_6 ⟨Nat.le_of_ble_eq_true rfl, Nat.le_of_ble_eq_true rfl⟩ (fun r_3 u_4 H locs q_2 hP hD hS => ?_)
    obtain ⟨rfl, rfl⟩ := q_2
    have hP : va_P (dC, dI) vwCl (rW g ty Y pa kp ks I tl ac 4 tw) H := hP
    have hD : va_D A (rW g ty Y pa kp ks I tl ac 4 tw) := hD
    refine lv_if_eq (tgt := 16) hx hb dX12_size_9 (by decide) (fun _ => ?_) (fun c9 => absurd (by decide) c9) 
    refine lv_iconst (v := 0) hx hb dX12_size_16 (by decide) ?_
    refine cr_z (wo := fun u : Int32 => rW g ty Y pa kp ks I tl ac u tw) (4) hx hb hr hlk hS hP hD rfl ?_ dX12_size_17
    exact Or.inl ⟨rfl, rfl, (by assumption)⟩
set_option maxHeartbeats 800000 in
set_option maxRecDepth 100000 in
theorem c_X12_need (l : Launch) (dC : Nat → ClassId) (dI : Nat → Nat → Nat) (g : Nat → Nat) (ty : Nat → ClassId) (sz : Nat) (Y : rY) (pa : Nat → Int32) (kp : Nat → Int32) (ks : Int32) (I : rI) (tl : Nat → Int32) (ac : Int64) (wr : Int32) (tw : Int32) (x0 : Int32) (pre0 : vp_in x0 32) : Met l yX12_need (Cond.code yX12_need cX12_need 2 (some .boolean) :: gT) ({ frames := 1, cells := 0, slots := 0, locals := 21 }) (cP (dC, dI) (rTy ty) (rW g ty Y pa kp ks I tl ac wr tw) sz [.ref (g 8), .int x0]) (va_Qi (fun (rz : Int32) (u : Int32) => (0 = rz ∧ 1 = u ∧ pa x0.toNatClampNeg = 0) ∨ (1 = rz ∧ wr = u ∧ ¬ pa x0.toNatClampNeg = 0)) (cB (dC, dI) (fun u : Int32 => rW g ty Y pa kp ks I tl ac u tw) (va_A (rW g ty Y pa kp ks I tl ac wr tw) sz)) (va_A (rW g ty Y pa kp ks I tl ac wr tw) sz)) 0 0 (va_A (rW g ty Y pa kp ks I tl ac wr tw) sz) := by
  refine cc_of (Qa := fun A => va_Qi (fun (rz : Int32) (u : Int32) => (0 = rz ∧ 1 = u ∧ pa x0.toNatClampNeg = 0) ∨ (1 = rz ∧ wr = u ∧ ¬ pa x0.toNatClampNeg = 0)) (cB (dC, dI) (fun u : Int32 => rW g ty Y pa kp ks I tl ac u tw) A) A) (by decide) (Nat.le_of_ble_eq_true rfl) ?_
  intro p e s m below meth c A hx hb hr hml hown hg hlk hmn hP hK hD hT hS hA hsz ls hl
  have hown : s.vm.findClass RX12 = some m.cls := hown
  have hl : lv_has ls 2 [(0, .ref (g 8)), (1, .int x0)] := hl
  refine lv_aload_n hx hb dX12_need_0 rfl (lv_at hl 0 rfl) ?_
  refine va_get (D := (dC, dI)) (ci := 14) (v := .ref (g 9)) (C := RX12) (T := TX12) (N := 21) hx hb hg inG12 hown hK hP 0 rfl rfl 8 (by decide) (hg _ wF_X12_34) (fun _ h9 => h9) rfl dX12_need_1 ?_
  refine lv_iload_n hx hb dX12_need_4 rfl (lv_at hl 1 rfl) ?_
  refine va_iald hx hb hK hP 7 0 rfl rfl (by assumption) dX12_need_5 ?_
  refine lv_if_ne (tgt := 17) hx hb dX12_need_6 (by decide) (fun c_1 => ?_) (fun c_1 => ?_)
  · show _
    refine lv_iconst (v := 1) hx hb dX12_need_17 (by decide) ?_
    refine lv_goto (tgt := 22) hx hb dX12_need_18 (by decide) ?_
    refine cr_z (wo := fun u : Int32 => rW g ty Y pa kp ks I tl ac u tw) (wr) hx hb hr hlk hS hP hD rfl ?_ dX12_need_22
    exact Or.inr ⟨rfl, rfl, (by assumption)⟩
  · show _
    refine lv_aload_n hx hb dX12_need_9 rfl (lv_at hl 0 rfl) ?_
    refine lv_iconst (v := 1) hx hb dX12_need_10 (by decide) ?_
    refine cV_i (C := RX12) (n := 1) (rest := []) hx hb hml hown hg hT (c_X12_fails l dC dI g ty s.heap.size Y pa kp ks I tl ac wr tw 1 ) (cv_of hg wM_X12_79 wN_X12_fails wL_X12_X12_fails wK_X12_fails wI_X12 (by decide +kernel) ⟨Nat.le_of_ble_eq_true rfl, Nat.le_of_ble_eq_true rfl⟩) hK hP hD hS hA (va_recv hK hP (ci := 14) (q0 := 0) rfl rfl) rfl hl.1 rfl (Nat.le_of_ble_eq_true rfl) dX12_need_11 ⟨Nat.le_of_ble_eq_true rfl, Nat.le_of_ble_eq_true rfl⟩ (fun r_3 u_4 H locs q_2 hP hD hS => ?_)
    obtain ⟨rfl, rfl⟩ := q_2
    have hP : va_P (dC, dI) vwCl (rW g ty Y pa kp ks I tl ac 1 tw) H := hP
    have hD : va_D A (rW g ty Y pa kp ks I tl ac 1 tw) := hD
    refine lv_if_eq (tgt := 21) hx hb dX12_need_14 (by decide) (fun _ => ?_) (fun c9 => absurd (by decide) c9) 
    refine lv_iconst (v := 0) hx hb dX12_need_21 (by decide) ?_
    refine cr_z (wo := fun u : Int32 => rW g ty Y pa kp ks I tl ac u tw) (1) hx hb hr hlk hS hP hD rfl ?_ dX12_need_22
    exact Or.inl ⟨rfl, rfl, (by assumption)⟩
set_option maxHeartbeats 800000 in
set_option maxRecDepth 100000 in
theorem c_X12_index (l : Launch) (dC : Nat → ClassId) (dI : Nat → Nat → Nat) (g : Nat → Nat) (ty : Nat → ClassId) (sz : Nat) (Y : rY) (pa : Nat → Int32) (kp : Nat → Int32) (ks : Int32) (I : rI) (tl : Nat → Int32) (ac : Int64) (wr : Int32) (tw : Int32) (t0 : Int32) (i0 : Int32) (pre0 : vp_in t0 Y.2.2.2.2.2.2.2.1) (pre1 : 0 ≤ Y.2.2.1 t0.toNatClampNeg) : Met l yX12_index (Cond.code yX12_index cX12_index 3 (some .boolean) :: gT) ({ frames := 1, cells := 0, slots := 0, locals := 21 }) (cP (dC, dI) (rTy ty) (rW g ty Y pa kp ks I tl ac wr tw) sz [.ref (g 8), .int t0, .int i0]) (va_Qi (fun (rz : Int32) (u : Int32) => (0 = rz ∧ 2 = u ∧ ¬ vp_in i0 (rMn Y t0.toNatClampNeg)) ∨ (1 = rz ∧ wr = u ∧ vp_in i0 (rMn Y t0.toNatClampNeg))) (cB (dC, dI) (fun u : Int32 => rW g ty Y pa kp ks I tl ac u tw) (va_A (rW g ty Y pa kp ks I tl ac wr tw) sz)) (va_A (rW g ty Y pa kp ks I tl ac wr tw) sz)) 0 0 (va_A (rW g ty Y pa kp ks I tl ac wr tw) sz) := by
  refine cc_of (Qa := fun A => va_Qi (fun (rz : Int32) (u : Int32) => (0 = rz ∧ 2 = u ∧ ¬ vp_in i0 (rMn Y t0.toNatClampNeg)) ∨ (1 = rz ∧ wr = u ∧ vp_in i0 (rMn Y t0.toNatClampNeg))) (cB (dC, dI) (fun u : Int32 => rW g ty Y pa kp ks I tl ac u tw) A) A) (by decide) (Nat.le_of_ble_eq_true rfl) ?_
  intro p e s m below meth c A hx hb hr hml hown hg hlk hmn hP hK hD hT hS hA hsz ls hl
  have hown : s.vm.findClass RX12 = some m.cls := hown
  have hl : lv_has ls 3 [(0, .ref (g 8)), (1, .int t0), (2, .int i0)] := hl
  refine lv_iload_n hx hb dX12_index_0 rfl (lv_at hl 2 rfl) ?_
  refine lv_if_lt (tgt := 14) hx hb dX12_index_1 (by decide) (fun c_1 => ?_) (fun c_1 => ?_)
  · show _
    refine lv_aload_n hx hb dX12_index_14 rfl (lv_at hl 0 rfl) ?_
    refine lv_iconst (v := 2) hx hb dX12_index_15 (by decide) ?_
    refine cV_i (C := RX12) (n := 1) (rest := []) hx hb hml hown hg hT (c_X12_fails l dC dI g ty s.heap.size Y pa kp ks I tl ac wr tw 2 ) (cv_of hg wM_X12_79 wN_X12_fails wL_X12_X12_fails wK_X12_fails wI_X12 (by decide +kernel) ⟨Nat.le_of_ble_eq_true rfl, Nat.le_of_ble_eq_true rfl⟩) hK hP hD hS hA (va_recv hK hP (ci := 14) (q0 := 0) rfl rfl) rfl hl.1 rfl (Nat.le_of_ble_eq_true rfl) dX12_index_16 ⟨Nat.le_of_ble_eq_true rfl, Nat.le_of_ble_eq_true rfl⟩ (fun r_3 u_4 H locs q_2 hP hD hS => ?_)
    obtain ⟨rfl, rfl⟩ := q_2
    have hP : va_P (dC, dI) vwCl (rW g ty Y pa kp ks I tl ac 2 tw) H := hP
    have hD : va_D A (rW g ty Y pa kp ks I tl ac 2 tw) := hD
    refine lv_if_eq (tgt := 26) hx hb dX12_index_19 (by decide) (fun _ => ?_) (fun c9 => absurd (by decide) c9) 
    refine lv_iconst (v := 0) hx hb dX12_index_26 (by decide) ?_
    refine cr_z (wo := fun u : Int32 => rW g ty Y pa kp ks I tl ac u tw) (2) hx hb hr hlk hS hP hD rfl ?_ dX12_index_27
    exact Or.inl ⟨rfl, rfl, (by first | assumption | exact ix_lo (by assumption) | exact ix_no (by assumption) | exact ix_in (by assumption) (by assumption))⟩
  · show _
    refine lv_iload_n hx hb dX12_index_4 rfl (lv_at hl 2 rfl) ?_
    refine lv_aload_n hx hb dX12_index_5 rfl (lv_at hl 0 rfl) ?_
    refine va_get (D := (dC, dI)) (ci := 14) (v := .ref (Y.2.2.2.2.2.2.1 2)) (C := RX12) (T := TX12) (N := 21) hx hb hg inG12 hown hK hP 0 rfl rfl 2 (by decide) (hg _ wF_X12_16) (fun _ h9 => h9) rfl dX12_index_6 ?_
    refine lv_iload_n hx hb dX12_index_9 rfl (lv_at hl 1 rfl) ?_
    refine va_iald hx hb hK hP 3 0 rfl rfl (by first | assumption | exact ix_lo (by assumption) | exact ix_no (by assumption) | exact ix_in (by assumption) (by assumption)) dX12_index_10 ?_
    refine lv_icmp_lt (tgt := 22) hx hb dX12_index_11 (by decide) (fun c_5 => ?_) (fun c_5 => ?_)
    · show _
      refine lv_iconst (v := 1) hx hb dX12_index_22 (by decide) ?_
      refine lv_goto (tgt := 27) hx hb dX12_index_23 (by decide) ?_
      refine cr_z (wo := fun u : Int32 => rW g ty Y pa kp ks I tl ac u tw) (wr) hx hb hr hlk hS hP hD rfl ?_ dX12_index_27
      exact Or.inr ⟨rfl, rfl, (by first | assumption | exact ix_lo (by assumption) | exact ix_no (by assumption) | exact ix_in (by assumption) (by assumption))⟩
    · show _
      refine lv_aload_n hx hb dX12_index_14 rfl (lv_at hl 0 rfl) ?_
      refine lv_iconst (v := 2) hx hb dX12_index_15 (by decide) ?_
      refine cV_i (C := RX12) (n := 1) (rest := []) hx hb hml hown hg hT (c_X12_fails l dC dI g ty s.heap.size Y pa kp ks I tl ac wr tw 2 ) (cv_of hg wM_X12_79 wN_X12_fails wL_X12_X12_fails wK_X12_fails wI_X12 (by decide +kernel) ⟨Nat.le_of_ble_eq_true rfl, Nat.le_of_ble_eq_true rfl⟩) hK hP hD hS hA (va_recv hK hP (ci := 14) (q0 := 0) rfl rfl) rfl hl.1 rfl (Nat.le_of_ble_eq_true rfl) dX12_index_16 ⟨Nat.le_of_ble_eq_true rfl, Nat.le_of_ble_eq_true rfl⟩ (fun r_7 u_8 H locs q_6 hP hD hS => ?_)
      obtain ⟨rfl, rfl⟩ := q_6
      have hP : va_P (dC, dI) vwCl (rW g ty Y pa kp ks I tl ac 2 tw) H := hP
      have hD : va_D A (rW g ty Y pa kp ks I tl ac 2 tw) := hD
      refine lv_if_eq (tgt := 26) hx hb dX12_index_19 (by decide) (fun _ => ?_) (fun c9 => absurd (by decide) c9) 
      refine lv_iconst (v := 0) hx hb dX12_index_26 (by decide) ?_
      refine cr_z (wo := fun u : Int32 => rW g ty Y pa kp ks I tl ac u tw) (2) hx hb hr hlk hS hP hD rfl ?_ dX12_index_27
      exact Or.inl ⟨rfl, rfl, (by first | assumption | exact ix_lo (by assumption) | exact ix_no (by assumption) | exact ix_in (by assumption) (by assumption))⟩
set_option maxHeartbeats 800000 in
set_option maxRecDepth 100000 in
theorem c_X12_is (l : Launch) (dC : Nat → ClassId) (dI : Nat → Nat → Nat) (g : Nat → Nat) (ty : Nat → ClassId) (sz : Nat) (Y : rY) (pa : Nat → Int32) (kp : Nat → Int32) (ks : Int32) (I : rI) (tl : Nat → Int32) (ac : Int64) (wr : Int32) (tw : Int32) (t0 : Int32) (s0 : Int32) (pre0 : t0 = 0 ∨ vp_in t0 Y.2.2.2.2.2.2.2.1) : Met l yX12_is (Cond.code yX12_is cX12_is 4 (some .boolean) :: gT) ({ frames := 0, cells := 0, slots := 0, locals := 0 }) (cP (dC, dI) (rTy ty) (rW g ty Y pa kp ks I tl ac wr tw) sz [.ref (g 8), .int t0, .int s0]) (va_Qi (fun (rz : Int32) (u : Unit) => (if t0 = 0 then 0 else rIs (Y.1 t0.toNatClampNeg) s0) = rz) (cB (dC, dI) (fun u : Unit => rW g ty Y pa kp ks I tl ac wr tw) (va_A (rW g ty Y pa kp ks I tl ac wr tw) sz)) (va_A (rW g ty Y pa kp ks I tl ac wr tw) sz)) 0 0 (va_A (rW g ty Y pa kp ks I tl ac wr tw) sz) := by
  refine cc_of (Qa := fun A => va_Qi (fun (rz : Int32) (u : Unit) => (if t0 = 0 then 0 else rIs (Y.1 t0.toNatClampNeg) s0) = rz) (cB (dC, dI) (fun u : Unit => rW g ty Y pa kp ks I tl ac wr tw) A) A) (by decide) (Nat.le_of_ble_eq_true rfl) ?_
  intro p e s m below meth c A hx hb hr hml hown hg hlk hmn hP hK hD hT hS hA hsz ls hl
  have hown : s.vm.findClass RX12 = some m.cls := hown
  have hl : lv_has ls 4 [(0, .ref (g 8)), (1, .int t0), (2, .int s0)] := hl
  refine lv_iload_n hx hb dX12_is_0 rfl (lv_at hl 1 rfl) ?_
  refine lv_if_ne (tgt := 6) hx hb dX12_is_1 (by decide) (fun c_1 => ?_) (fun c_1 => ?_)
  · show _
    refine lv_aload_n hx hb dX12_is_6 rfl (lv_at hl 0 rfl) ?_
    refine va_get (D := (dC, dI)) (ci := 14) (v := .ref (Y.2.2.2.2.2.2.1 0)) (C := RX12) (T := TX12) (N := 21) hx hb hg inG12 hown hK hP 0 rfl rfl 0 (by decide) (hg _ wF_X12_7) (fun _ h9 => h9) rfl dX12_is_7 ?_
    refine lv_iload_n hx hb dX12_is_10 rfl (lv_at hl 1 rfl) ?_
    refine va_iald hx hb hK hP 1 0 rfl rfl (by first | assumption | exact pre0.resolve_left (by assumption)) dX12_is_11 ?_
    refine lv_istore_n (lv' := [(3, .int (Y.1 t0.toNatClampNeg)), (0, .ref (g 8)), (1, .int t0), (2, .int s0)]) hx hb dX12_is_12 rfl hl (by decide) rfl (fun ls hl => ?_)
    refine lv_iload_n hx hb dX12_is_13 rfl (lv_at hl 3 rfl) ?_
    by_cases e_2 : s0 = 9
    · show _
      refine lv_tableIn (off := 42) (tgt := 56) hx hb dX12_is_14 (by rw [e_2]; decide) (by rw [e_2]; decide) (by rw [e_2]; decide) (by decide) ?_
      refine lv_iload_n hx hb dX12_is_56 rfl (lv_at hl 0 rfl) ?_
      refine lv_bipush (v := 9) hx hb dX12_is_57 (by decide) ?_
      refine lv_icmp_eq (tgt := 68) hx hb dX12_is_59 (by decide) (fun c_3 => ?_) (fun c_3 => ?_)
      · show _
        refine lv_iconst (v := 1) hx hb dX12_is_68 (by decide) ?_
        refine lv_goto (tgt := 73) hx hb dX12_is_69 (by decide) ?_
        refine cr_z (wo := fun u : Unit => rW g ty Y pa kp ks I tl ac wr tw) (()) hx hb hr hlk hS hP hD rfl ?_ dX12_is_73
        exact (by first | rfl | (simp only [rIs, c_1, e_2, c_3, if_true, if_false]; done) | (simp only [rIs, c_1, e_2, c_3, if_true, if_false]; rfl) | (simp [rIs, c_1, e_2, c_3]; done) | (simp_all [rIs]; done))
      · show _
        refine lv_iload_n hx hb dX12_is_62 rfl (lv_at hl 0 rfl) ?_
        refine lv_bipush (v := 10) hx hb dX12_is_63 (by decide) ?_
        refine lv_icmp_ne (tgt := 72) hx hb dX12_is_65 (by decide) (fun c_4 => ?_) (fun c_4 => ?_)
        · show _
          refine lv_iconst (v := 0) hx hb dX12_is_72 (by decide) ?_
          refine cr_z (wo := fun u : Unit => rW g ty Y pa kp ks I tl ac wr tw) (()) hx hb hr hlk hS hP hD rfl ?_ dX12_is_73
          exact (by first | rfl | (simp only [rIs, c_1, e_2, c_3, c_4, if_true, if_false]; done) | (simp only [rIs, c_1, e_2, c_3, c_4, if_true, if_false]; rfl) | (simp [rIs, c_1, e_2, c_3, c_4]; done) | (simp_all [rIs]; done))
        · show _
          refine lv_iconst (v := 1) hx hb dX12_is_68 (by decide) ?_
          refine lv_goto (tgt := 73) hx hb dX12_is_69 (by decide) ?_
          refine cr_z (wo := fun u : Unit => rW g ty Y pa kp ks I tl ac wr tw) (()) hx hb hr hlk hS hP hD rfl ?_ dX12_is_73
          exact (by first | rfl | (simp only [rIs, c_1, e_2, c_3, c_4, if_true, if_false]; done) | (simp only [rIs, c_1, e_2, c_3, c_4, if_true, if_false]; rfl) | (simp [rIs, c_1, e_2, c_3, c_4]; done) | (simp_all [rIs]; done))
    · show _
      by_cases e_5 : s0 = 10
      · show _
        refine lv_tableIn (off := 126) (tgt := 140) hx hb dX12_is_14 (by rw [e_5]; decide) (by rw [e_5]; decide) (by rw [e_5]; decide) (by decide) ?_
        refine lv_iload_n hx hb dX12_is_140 rfl (lv_at hl 0 rfl) ?_
        refine lv_iload_n hx hb dX12_is_141 rfl (lv_at hl 3 rfl) ?_
        refine lv_icmp_ne (tgt := 149) hx hb dX12_is_142 (by decide) (fun c_6 => ?_) (fun c_6 => ?_)
        · show _
          refine lv_iconst (v := 0) hx hb dX12_is_149 (by decide) ?_
          refine cr_z (wo := fun u : Unit => rW g ty Y pa kp ks I tl ac wr tw) (()) hx hb hr hlk hS hP hD rfl ?_ dX12_is_150
          exact (by first | rfl | (simp only [rIs, c_1, e_2, e_5, c_6, if_true, if_false]; done) | (simp only [rIs, c_1, e_2, e_5, c_6, if_true, if_false]; rfl) | (simp [rIs, c_1, e_2, e_5, c_6]; done) | (simp_all [rIs]; done))
        · show _
          refine lv_iconst (v := 1) hx hb dX12_is_145 (by decide) ?_
          refine lv_goto (tgt := 150) hx hb dX12_is_146 (by decide) ?_
          refine cr_z (wo := fun u : Unit => rW g ty Y pa kp ks I tl ac wr tw) (()) hx hb hr hlk hS hP hD rfl ?_ dX12_is_150
          exact (by first | rfl | (simp only [rIs, c_1, e_2, e_5, c_6, if_true, if_false]; done) | (simp only [rIs, c_1, e_2, e_5, c_6, if_true, if_false]; rfl) | (simp [rIs, c_1, e_2, e_5, c_6]; done) | (simp_all [rIs]; done))
      · show _
        by_cases e_7 : s0 = 11
        · show _
          refine lv_tableIn (off := 126) (tgt := 140) hx hb dX12_is_14 (by rw [e_7]; decide) (by rw [e_7]; decide) (by rw [e_7]; decide) (by decide) ?_
          refine lv_iload_n hx hb dX12_is_140 rfl (lv_at hl 0 rfl) ?_
          refine lv_iload_n hx hb dX12_is_141 rfl (lv_at hl 3 rfl) ?_
          refine lv_icmp_ne (tgt := 149) hx hb dX12_is_142 (by decide) (fun c_8 => ?_) (fun c_8 => ?_)
          · show _
            refine lv_iconst (v := 0) hx hb dX12_is_149 (by decide) ?_
            refine cr_z (wo := fun u : Unit => rW g ty Y pa kp ks I tl ac wr tw) (()) hx hb hr hlk hS hP hD rfl ?_ dX12_is_150
            exact (by first | rfl | (simp only [rIs, c_1, e_2, e_5, e_7, c_8, if_true, if_false]; done) | (simp only [rIs, c_1, e_2, e_5, e_7, c_8, if_true, if_false]; rfl) | (simp [rIs, c_1, e_2, e_5, e_7, c_8]; done) | (simp_all [rIs]; done))
          · show _
            refine lv_iconst (v := 1) hx hb dX12_is_145 (by decide) ?_
            refine lv_goto (tgt := 150) hx hb dX12_is_146 (by decide) ?_
            refine cr_z (wo := fun u : Unit => rW g ty Y pa kp ks I tl ac wr tw) (()) hx hb hr hlk hS hP hD rfl ?_ dX12_is_150
            exact (by first | rfl | (simp only [rIs, c_1, e_2, e_5, e_7, c_8, if_true, if_false]; done) | (simp only [rIs, c_1, e_2, e_5, e_7, c_8, if_true, if_false]; rfl) | (simp [rIs, c_1, e_2, e_5, e_7, c_8]; done) | (simp_all [rIs]; done))
        · show _
          by_cases e_9 : s0 = 12
          · show _
            refine lv_tableIn (off := 60) (tgt := 74) hx hb dX12_is_14 (by rw [e_9]; decide) (by rw [e_9]; decide) (by rw [e_9]; decide) (by decide) ?_
            refine lv_iload_n hx hb dX12_is_74 rfl (lv_at hl 0 rfl) ?_
            refine lv_bipush (v := 12) hx hb dX12_is_75 (by decide) ?_
            refine lv_icmp_lt (tgt := 90) hx hb dX12_is_77 (by decide) (fun c_10 => ?_) (fun c_10 => ?_)
            · show _
              refine lv_iconst (v := 0) hx hb dX12_is_90 (by decide) ?_
              refine cr_z (wo := fun u : Unit => rW g ty Y pa kp ks I tl ac wr tw) (()) hx hb hr hlk hS hP hD rfl ?_ dX12_is_91
              exact (by first | rfl | (simp only [rIs, c_1, e_2, e_5, e_7, e_9, c_10, if_true, if_false]; done) | (simp only [rIs, c_1, e_2, e_5, e_7, e_9, c_10, if_true, if_false]; rfl) | (simp [rIs, c_1, e_2, e_5, e_7, e_9, c_10]; done) | (simp_all [rIs]; done))
            · show _
              refine lv_iload_n hx hb dX12_is_80 rfl (lv_at hl 0 rfl) ?_
              refine lv_bipush (v := 14) hx hb dX12_is_81 (by decide) ?_
              refine lv_icmp_gt (tgt := 90) hx hb dX12_is_83 (by decide) (fun c_11 => ?_) (fun c_11 => ?_)
              · show _
                refine lv_iconst (v := 0) hx hb dX12_is_90 (by decide) ?_
                refine cr_z (wo := fun u : Unit => rW g ty Y pa kp ks I tl ac wr tw) (()) hx hb hr hlk hS hP hD rfl ?_ dX12_is_91
                exact (by first | rfl | (simp only [rIs, c_1, e_2, e_5, e_7, e_9, c_10, c_11, if_true, if_false]; done) | (simp only [rIs, c_1, e_2, e_5, e_7, e_9, c_10, c_11, if_true, if_false]; rfl) | (simp [rIs, c_1, e_2, e_5, e_7, e_9, c_10, c_11]; done) | (simp_all [rIs]; done))
              · show _
                refine lv_iconst (v := 1) hx hb dX12_is_86 (by decide) ?_
                refine lv_goto (tgt := 91) hx hb dX12_is_87 (by decide) ?_
                refine cr_z (wo := fun u : Unit => rW g ty Y pa kp ks I tl ac wr tw) (()) hx hb hr hlk hS hP hD rfl ?_ dX12_is_91
                exact (by first | rfl | (simp only [rIs, c_1, e_2, e_5, e_7, e_9, c_10, c_11, if_true, if_false]; done) | (simp only [rIs, c_1, e_2, e_5, e_7, e_9, c_10, c_11, if_true, if_false]; rfl) | (simp [rIs, c_1, e_2, e_5, e_7, e_9, c_10, c_11]; done) | (simp_all [rIs]; done))
          · show _
            by_cases e_12 : s0 = 13
            · show _
              refine lv_tableIn (off := 78) (tgt := 92) hx hb dX12_is_14 (by rw [e_12]; decide) (by rw [e_12]; decide) (by rw [e_12]; decide) (by decide) ?_
              refine lv_iload_n hx hb dX12_is_92 rfl (lv_at hl 0 rfl) ?_
              refine lv_bipush (v := 13) hx hb dX12_is_93 (by decide) ?_
              refine lv_icmp_eq (tgt := 104) hx hb dX12_is_95 (by decide) (fun c_13 => ?_) (fun c_13 => ?_)
              · show _
                refine lv_iconst (v := 1) hx hb dX12_is_104 (by decide) ?_
                refine lv_goto (tgt := 109) hx hb dX12_is_105 (by decide) ?_
                refine cr_z (wo := fun u : Unit => rW g ty Y pa kp ks I tl ac wr tw) (()) hx hb hr hlk hS hP hD rfl ?_ dX12_is_109
                exact (by first | rfl | (simp only [rIs, c_1, e_2, e_5, e_7, e_9, e_12, c_13, if_true, if_false]; done) | (simp only [rIs, c_1, e_2, e_5, e_7, e_9, e_12, c_13, if_true, if_false]; rfl) | (simp [rIs, c_1, e_2, e_5, e_7, e_9, e_12, c_13]; done) | (simp_all [rIs]; done))
              · show _
                refine lv_iload_n hx hb dX12_is_98 rfl (lv_at hl 0 rfl) ?_
                refine lv_bipush (v := 14) hx hb dX12_is_99 (by decide) ?_
                refine lv_icmp_ne (tgt := 108) hx hb dX12_is_101 (by decide) (fun c_14 => ?_) (fun c_14 => ?_)
                · show _
                  refine lv_iconst (v := 0) hx hb dX12_is_108 (by decide) ?_
                  refine cr_z (wo := fun u : Unit => rW g ty Y pa kp ks I tl ac wr tw) (()) hx hb hr hlk hS hP hD rfl ?_ dX12_is_109
                  exact (by first | rfl | (simp only [rIs, c_1, e_2, e_5, e_7, e_9, e_12, c_13, c_14, if_true, if_false]; done) | (simp only [rIs, c_1, e_2, e_5, e_7, e_9, e_12, c_13, c_14, if_true, if_false]; rfl) | (simp [rIs, c_1, e_2, e_5, e_7, e_9, e_12, c_13, c_14]; done) | (simp_all [rIs]; done))
                · show _
                  refine lv_iconst (v := 1) hx hb dX12_is_104 (by decide) ?_
                  refine lv_goto (tgt := 109) hx hb dX12_is_105 (by decide) ?_
                  refine cr_z (wo := fun u : Unit => rW g ty Y pa kp ks I tl ac wr tw) (()) hx hb hr hlk hS hP hD rfl ?_ dX12_is_109
                  exact (by first | rfl | (simp only [rIs, c_1, e_2, e_5, e_7, e_9, e_12, c_13, c_14, if_true, if_false]; done) | (simp only [rIs, c_1, e_2, e_5, e_7, e_9, e_12, c_13, c_14, if_true, if_false]; rfl) | (simp [rIs, c_1, e_2, e_5, e_7, e_9, e_12, c_13, c_14]; done) | (simp_all [rIs]; done))
            · show _
              by_cases e_15 : s0 = 14
              · show _
                refine lv_tableIn (off := 96) (tgt := 110) hx hb dX12_is_14 (by rw [e_15]; decide) (by rw [e_15]; decide) (by rw [e_15]; decide) (by decide) ?_
                refine lv_iload_n hx hb dX12_is_110 rfl (lv_at hl 0 rfl) ?_
                refine lv_bipush (v := 13) hx hb dX12_is_111 (by decide) ?_
                refine lv_icmp_lt (tgt := 126) hx hb dX12_is_113 (by decide) (fun c_16 => ?_) (fun c_16 => ?_)
                · show _
                  refine lv_iconst (v := 0) hx hb dX12_is_126 (by decide) ?_
                  refine cr_z (wo := fun u : Unit => rW g ty Y pa kp ks I tl ac wr tw) (()) hx hb hr hlk hS hP hD rfl ?_ dX12_is_127
                  exact (by first | rfl | (simp only [rIs, c_1, e_2, e_5, e_7, e_9, e_12, e_15, c_16, if_true, if_false]; done) | (simp only [rIs, c_1, e_2, e_5, e_7, e_9, e_12, e_15, c_16, if_true, if_false]; rfl) | (simp [rIs, c_1, e_2, e_5, e_7, e_9, e_12, e_15, c_16]; done) | (simp_all [rIs]; done))
                · show _
                  refine lv_iload_n hx hb dX12_is_116 rfl (lv_at hl 0 rfl) ?_
                  refine lv_bipush (v := 15) hx hb dX12_is_117 (by decide) ?_
                  refine lv_icmp_gt (tgt := 126) hx hb dX12_is_119 (by decide) (fun c_17 => ?_) (fun c_17 => ?_)
                  · show _
                    refine lv_iconst (v := 0) hx hb dX12_is_126 (by decide) ?_
                    refine cr_z (wo := fun u : Unit => rW g ty Y pa kp ks I tl ac wr tw) (()) hx hb hr hlk hS hP hD rfl ?_ dX12_is_127
                    exact (by first | rfl | (simp only [rIs, c_1, e_2, e_5, e_7, e_9, e_12, e_15, c_16, c_17, if_true, if_false]; done) | (simp only [rIs, c_1, e_2, e_5, e_7, e_9, e_12, e_15, c_16, c_17, if_true, if_false]; rfl) | (simp [rIs, c_1, e_2, e_5, e_7, e_9, e_12, e_15, c_16, c_17]; done) | (simp_all [rIs]; done))
                  · show _
                    refine lv_iconst (v := 1) hx hb dX12_is_122 (by decide) ?_
                    refine lv_goto (tgt := 127) hx hb dX12_is_123 (by decide) ?_
                    refine cr_z (wo := fun u : Unit => rW g ty Y pa kp ks I tl ac wr tw) (()) hx hb hr hlk hS hP hD rfl ?_ dX12_is_127
                    exact (by first | rfl | (simp only [rIs, c_1, e_2, e_5, e_7, e_9, e_12, e_15, c_16, c_17, if_true, if_false]; done) | (simp only [rIs, c_1, e_2, e_5, e_7, e_9, e_12, e_15, c_16, c_17, if_true, if_false]; rfl) | (simp [rIs, c_1, e_2, e_5, e_7, e_9, e_12, e_15, c_16, c_17]; done) | (simp_all [rIs]; done))
              · show _
                by_cases e_18 : s0 = 15
                · show _
                  refine lv_tableIn (off := 114) (tgt := 128) hx hb dX12_is_14 (by rw [e_18]; decide) (by rw [e_18]; decide) (by rw [e_18]; decide) (by decide) ?_
                  refine lv_iload_n hx hb dX12_is_128 rfl (lv_at hl 0 rfl) ?_
                  refine lv_bipush (v := 16) hx hb dX12_is_129 (by decide) ?_
                  refine lv_icmp_lt (tgt := 138) hx hb dX12_is_131 (by decide) (fun c_19 => ?_) (fun c_19 => ?_)
                  · show _
                    refine lv_iconst (v := 0) hx hb dX12_is_138 (by decide) ?_
                    refine cr_z (wo := fun u : Unit => rW g ty Y pa kp ks I tl ac wr tw) (()) hx hb hr hlk hS hP hD rfl ?_ dX12_is_139
                    exact (by first | rfl | (simp only [rIs, c_1, e_2, e_5, e_7, e_9, e_12, e_15, e_18, c_19, if_true, if_false]; done) | (simp only [rIs, c_1, e_2, e_5, e_7, e_9, e_12, e_15, e_18, c_19, if_true, if_false]; rfl) | (simp [rIs, c_1, e_2, e_5, e_7, e_9, e_12, e_15, e_18, c_19]; done) | (simp_all [rIs]; done))
                  · show _
                    refine lv_iconst (v := 1) hx hb dX12_is_134 (by decide) ?_
                    refine lv_goto (tgt := 139) hx hb dX12_is_135 (by decide) ?_
                    refine cr_z (wo := fun u : Unit => rW g ty Y pa kp ks I tl ac wr tw) (()) hx hb hr hlk hS hP hD rfl ?_ dX12_is_139
                    exact (by first | rfl | (simp only [rIs, c_1, e_2, e_5, e_7, e_9, e_12, e_15, e_18, c_19, if_true, if_false]; done) | (simp only [rIs, c_1, e_2, e_5, e_7, e_9, e_12, e_15, e_18, c_19, if_true, if_false]; rfl) | (simp [rIs, c_1, e_2, e_5, e_7, e_9, e_12, e_15, e_18, c_19]; done) | (simp_all [rIs]; done))
                · show _
                  refine lv_tableOut (tgt := 140) hx hb dX12_is_14 (by have q0 := lv_neT e_2 (a := 9) rfl; have q1 := lv_neT e_5 (a := 10) rfl; have q2 := lv_neT e_7 (a := 11) rfl; have q3 := lv_neT e_9 (a := 12) rfl; have q4 := lv_neT e_12 (a := 13) rfl; have q5 := lv_neT e_15 (a := 14) rfl; have q6 := lv_neT e_18 (a := 15) rfl; omega) (by decide) ?_
                  refine lv_iload_n hx hb dX12_is_140 rfl (lv_at hl 0 rfl) ?_
                  refine lv_iload_n hx hb dX12_is_141 rfl (lv_at hl 3 rfl) ?_
                  refine lv_icmp_ne (tgt := 149) hx hb dX12_is_142 (by decide) (fun c_20 => ?_) (fun c_20 => ?_)
                  · show _
                    refine lv_iconst (v := 0) hx hb dX12_is_149 (by decide) ?_
                    refine cr_z (wo := fun u : Unit => rW g ty Y pa kp ks I tl ac wr tw) (()) hx hb hr hlk hS hP hD rfl ?_ dX12_is_150
                    exact (by first | rfl | (simp only [rIs, c_1, e_2, e_5, e_7, e_9, e_12, e_15, e_18, c_20, if_true, if_false]; done) | (simp only [rIs, c_1, e_2, e_5, e_7, e_9, e_12, e_15, e_18, c_20, if_true, if_false]; rfl) | (simp [rIs, c_1, e_2, e_5, e_7, e_9, e_12, e_15, e_18, c_20]; done) | (simp_all [rIs]; done))
                  · show _
                    refine lv_iconst (v := 1) hx hb dX12_is_145 (by decide) ?_
                    refine lv_goto (tgt := 150) hx hb dX12_is_146 (by decide) ?_
                    refine cr_z (wo := fun u : Unit => rW g ty Y pa kp ks I tl ac wr tw) (()) hx hb hr hlk hS hP hD rfl ?_ dX12_is_150
                    exact (by first | rfl | (simp only [rIs, c_1, e_2, e_5, e_7, e_9, e_12, e_15, e_18, c_20, if_true, if_false]; done) | (simp only [rIs, c_1, e_2, e_5, e_7, e_9, e_12, e_15, e_18, c_20, if_true, if_false]; rfl) | (simp [rIs, c_1, e_2, e_5, e_7, e_9, e_12, e_15, e_18, c_20]; done) | (simp_all [rIs]; done))
  · show _
    refine lv_iconst (v := 0) hx hb dX12_is_4 (by decide) ?_
    refine cr_z (wo := fun u : Unit => rW g ty Y pa kp ks I tl ac wr tw) (()) hx hb hr hlk hS hP hD rfl ?_ dX12_is_5
    exact (by first | rfl | (simp only [rIs, c_1, if_true, if_false]; done) | (simp only [rIs, c_1, if_true, if_false]; rfl) | (simp [rIs, c_1]; done) | (simp_all [rIs]; done))
set_option maxHeartbeats 800000 in
set_option maxRecDepth 100000 in
theorem c_X12_cell (l : Launch) (dC : Nat → ClassId) (dI : Nat → Nat → Nat) (g : Nat → Nat) (ty : Nat → ClassId) (sz : Nat) (Y : rY) (pa : Nat → Int32) (kp : Nat → Int32) (ks : Int32) (I : rI) (tl : Nat → Int32) (ac : Int64) (wr : Int32) (tw : Int32) (t0 : Int32) (k0 : Int32) (pre0 : vp_in t0 Y.2.2.2.2.2.2.2.1) (pre1 : vp_in (Y.2.1 t0.toNatClampNeg + k0) Y.2.2.2.2.2.2.2.2.1) : Met l yX12_cell (Cond.code yX12_cell cX12_cell 3 (some .long) :: gT) ({ frames := 0, cells := 0, slots := 0, locals := 0 }) (cP (dC, dI) (rTy ty) (rW g ty Y pa kp ks I tl ac wr tw) sz [.ref (g 8), .int t0, .int k0]) (va_Ql (fun (rz : Int64) (u : Unit) => (Y.2.2.2.2.2.1 (Y.2.1 t0.toNatClampNeg + k0).toNatClampNeg) = rz) (cB (dC, dI) (fun u : Unit => rW g ty Y pa kp ks I tl ac wr tw) (va_A (rW g ty Y pa kp ks I tl ac wr tw) sz)) (va_A (rW g ty Y pa kp ks I tl ac wr tw) sz)) 0 0 (va_A (rW g ty Y pa kp ks I tl ac wr tw) sz) := by
  refine cc_of (Qa := fun A => va_Ql (fun (rz : Int64) (u : Unit) => (Y.2.2.2.2.2.1 (Y.2.1 t0.toNatClampNeg + k0).toNatClampNeg) = rz) (cB (dC, dI) (fun u : Unit => rW g ty Y pa kp ks I tl ac wr tw) A) A) (by decide) (Nat.le_of_ble_eq_true rfl) ?_
  intro p e s m below meth c A hx hb hr hml hown hg hlk hmn hP hK hD hT hS hA hsz ls hl
  have hown : s.vm.findClass RX12 = some m.cls := hown
  have hl : lv_has ls 3 [(0, .ref (g 8)), (1, .int t0), (2, .int k0)] := hl
  refine lv_aload_n hx hb dX12_cell_0 rfl (lv_at hl 0 rfl) ?_
  refine va_get (D := (dC, dI)) (ci := 14) (v := .ref (Y.2.2.2.2.2.2.1 5)) (C := RX12) (T := TX12) (N := 21) hx hb hg inG12 hown hK hP 0 rfl rfl 5 (by decide) (hg _ wF_X12_26) (fun _ h9 => h9) rfl dX12_cell_1 ?_
  refine lv_aload_n hx hb dX12_cell_4 rfl (lv_at hl 0 rfl) ?_
  refine va_get (D := (dC, dI)) (ci := 14) (v := .ref (Y.2.2.2.2.2.2.1 1)) (C := RX12) (T := TX12) (N := 21) hx hb hg inG12 hown hK hP 0 rfl rfl 1 (by decide) (hg _ wF_X12_13) (fun _ h9 => h9) rfl dX12_cell_5 ?_
  refine lv_iload_n hx hb dX12_cell_8 rfl (lv_at hl 1 rfl) ?_
  refine va_iald hx hb hK hP 2 0 rfl rfl (by assumption) dX12_cell_9 ?_
  refine lv_iload_n hx hb dX12_cell_10 rfl (lv_at hl 2 rfl) ?_
  refine lv_iadd hx hb dX12_cell_11 ?_
  refine va_lald hx hb hK hP 6 2 rfl rfl (by assumption) dX12_cell_12 ?_
  refine cr_l (wo := fun u : Unit => rW g ty Y pa kp ks I tl ac wr tw) (()) hx hb hr hlk hS hP hD ?_ dX12_cell_13
  exact rfl
set_option maxHeartbeats 800000 in
set_option maxRecDepth 100000 in
theorem c_X12_put (l : Launch) (dC : Nat → ClassId) (dI : Nat → Nat → Nat) (g : Nat → Nat) (ty : Nat → ClassId) (sz : Nat) (Y : rY) (pa : Nat → Int32) (kp : Nat → Int32) (ks : Int32) (I : rI) (tl : Nat → Int32) (ac : Int64) (wr : Int32) (tw : Int32) (t0 : Int32) (k0 : Int32) (v0 : Int64) (pre0 : vp_in t0 Y.2.2.2.2.2.2.2.1) (pre1 : vp_in (Y.2.1 t0.toNatClampNeg + k0) Y.2.2.2.2.2.2.2.2.1) : Met l yX12_put (Cond.code yX12_put cX12_put 5 none :: gT) ({ frames := 0, cells := 0, slots := 0, locals := 0 }) (cP (dC, dI) (rTy ty) (rW g ty Y pa kp ks I tl ac wr tw) sz [.ref (g 8), .int t0, .int k0, .long v0]) (va_Qv (fun (u : rY) => (Y.1, Y.2.1, Y.2.2.1, Y.2.2.2.1, Y.2.2.2.2.1, (vp_updL Y.2.2.2.2.2.1 (Y.2.1 t0.toNatClampNeg + k0).toNatClampNeg v0), Y.2.2.2.2.2.2.1, Y.2.2.2.2.2.2.2.1, Y.2.2.2.2.2.2.2.2.1, Y.2.2.2.2.2.2.2.2.2.1, Y.2.2.2.2.2.2.2.2.2.2) = u) (cB (dC, dI) (fun u : rY => rW g ty u pa kp ks I tl ac wr tw) (va_A (rW g ty Y pa kp ks I tl ac wr tw) sz)) (va_A (rW g ty Y pa kp ks I tl ac wr tw) sz)) 0 0 (va_A (rW g ty Y pa kp ks I tl ac wr tw) sz) := by
  refine cc_of (Qa := fun A => va_Qv (fun (u : rY) => (Y.1, Y.2.1, Y.2.2.1, Y.2.2.2.1, Y.2.2.2.2.1, (vp_updL Y.2.2.2.2.2.1 (Y.2.1 t0.toNatClampNeg + k0).toNatClampNeg v0), Y.2.2.2.2.2.2.1, Y.2.2.2.2.2.2.2.1, Y.2.2.2.2.2.2.2.2.1, Y.2.2.2.2.2.2.2.2.2.1, Y.2.2.2.2.2.2.2.2.2.2) = u) (cB (dC, dI) (fun u : rY => rW g ty u pa kp ks I tl ac wr tw) A) A) (by decide) (Nat.le_of_ble_eq_true rfl) ?_
  intro p e s m below meth c A hx hb hr hml hown hg hlk hmn hP hK hD hT hS hA hsz ls hl
  have hown : s.vm.findClass RX12 = some m.cls := hown
  have hl : lv_has ls 5 [(0, .ref (g 8)), (1, .int t0), (2, .int k0), (3, .long v0)] := hl
  refine lv_aload_n hx hb dX12_put_0 rfl (lv_at hl 0 rfl) ?_
  refine va_get (D := (dC, dI)) (ci := 14) (v := .ref (Y.2.2.2.2.2.2.1 5)) (C := RX12) (T := TX12) (N := 21) hx hb hg inG12 hown hK hP 0 rfl rfl 5 (by decide) (hg _ wF_X12_26) (fun _ h9 => h9) rfl dX12_put_1 ?_
  refine lv_aload_n hx hb dX12_put_4 rfl (lv_at hl 0 rfl) ?_
  refine va_get (D := (dC, dI)) (ci := 14) (v := .ref (Y.2.2.2.2.2.2.1 1)) (C := RX12) (T := TX12) (N := 21) hx hb hg inG12 hown hK hP 0 rfl rfl 1 (by decide) (hg _ wF_X12_13) (fun _ h9 => h9) rfl dX12_put_5 ?_
  refine lv_iload_n hx hb dX12_put_8 rfl (lv_at hl 1 rfl) ?_
  refine va_iald hx hb hK hP 2 0 rfl rfl (by assumption) dX12_put_9 ?_
  refine lv_iload_n hx hb dX12_put_10 rfl (lv_at hl 2 rfl) ?_
  refine lv_iadd hx hb dX12_put_11 ?_
  refine lv_lload_n hx hb dX12_put_12 rfl (lv_at hl 3 rfl) ?_
  refine va_last hx hb hK hP hD hS 6 2 rfl rfl (by assumption) dX12_put_13 (fun H locs hP hD hS => ?_)
  have hP : va_P (dC, dI) vwCl (rW g ty (Y.1, Y.2.1, Y.2.2.1, Y.2.2.2.1, Y.2.2.2.2.1, (vp_updL Y.2.2.2.2.2.1 ((Y.2.1 t0.toNatClampNeg) + k0).toNatClampNeg v0), Y.2.2.2.2.2.2.1, Y.2.2.2.2.2.2.2.1, Y.2.2.2.2.2.2.2.2.1, Y.2.2.2.2.2.2.2.2.2.1, Y.2.2.2.2.2.2.2.2.2.2) pa kp ks I tl ac wr tw) H := hP
  have hD : va_D A (rW g ty (Y.1, Y.2.1, Y.2.2.1, Y.2.2.2.1, Y.2.2.2.2.1, (vp_updL Y.2.2.2.2.2.1 ((Y.2.1 t0.toNatClampNeg) + k0).toNatClampNeg v0), Y.2.2.2.2.2.2.1, Y.2.2.2.2.2.2.2.1, Y.2.2.2.2.2.2.2.2.1, Y.2.2.2.2.2.2.2.2.2.1, Y.2.2.2.2.2.2.2.2.2.2) pa kp ks I tl ac wr tw) := hD
  refine cr_v (wo := fun u : rY => rW g ty u pa kp ks I tl ac wr tw) ((Y.1, Y.2.1, Y.2.2.1, Y.2.2.2.1, Y.2.2.2.2.1, (vp_updL Y.2.2.2.2.2.1 ((Y.2.1 t0.toNatClampNeg) + k0).toNatClampNeg v0), Y.2.2.2.2.2.2.1, Y.2.2.2.2.2.2.2.1, Y.2.2.2.2.2.2.2.2.1, Y.2.2.2.2.2.2.2.2.2.1, Y.2.2.2.2.2.2.2.2.2.2)) hx hb hr hlk hS hP hD ?_ dX12_put_14
  exact rfl

set_option maxHeartbeats 800000 in
set_option maxRecDepth 100000 in
theorem c_X12_make (l : Launch) (dC : Nat → ClassId) (dI : Nat → Nat → Nat) (g : Nat → Nat) (ty : Nat → ClassId) (sz tot : Nat) (Y : rY) (pa : Nat → Int32) (kp : Nat → Int32) (ks : Int32) (I : rI) (tl : Nat → Int32) (ac : Int64) (wr : Int32) (tw : Int32) (ρ : Nat → Nat) (pl : Nat → Option Nat) (P : cQ) (ko : Option Nat) (s0 : Int32) (n0 : Int32) (pre0 : rR Y.2.2.2.2.2.2.2.2.2.1 Y pa ρ pl P) (pre1 : cWF pl P) (pre2 : ks = 0 ∨ (ks = 1 ∧ rLk Y.2.2.2.2.2.2.2.2.2.1 ρ (kp 0) ko)) (pre3 : 0 ≤ n0 ∧ n0.toNatClampNeg ≤ 99) (pre4 : Y.2.2.2.2.2.2.2.2.2.1.toNatClampNeg ≤ 54001 ∧ Y.2.2.2.2.2.2.2.2.2.2.toNatClampNeg ≤ 594000) : Met l yX12_make (Cond.code yX12_make cX12_make 5 (some .int) :: gT) ({ frames := 2, cells := 96000 - Y.2.2.2.2.2.2.2.1, slots := 10 * (96000 - Y.2.2.2.2.2.2.2.1) + 2 * (1542237 - Y.2.2.2.2.2.2.2.2.1), locals := 58 }) (cPg (dC, dI) (rTy ty) (rW g ty Y pa kp ks I tl ac wr tw) sz tot [.ref (g 8), .int s0, .int n0]) (va_Qi (fun (rz : Int32) (u : rY × (Nat → Int32) × (Nat → Int32)) => ∃ (r' : Int32) (Y' : rY) (pa' kp' : Nat → Int32), r' = rz ∧ (Y', pa', kp') = u ∧ rMake s0 n0 Y ks pl P ko r' Y' pa' kp') (cBg (dC, dI) (fun u : rY × (Nat → Int32) × (Nat → Int32) => rW g ty u.1 u.2.1 u.2.2 ks I tl ac wr tw) (va_A (rW g ty Y pa kp ks I tl ac wr tw) sz) sz tot (fun u : rY × (Nat → Int32) × (Nat → Int32) => u.1.2.2.2.2.2.2.2.1 - Y.2.2.2.2.2.2.2.1) (fun u : rY × (Nat → Int32) × (Nat → Int32) => 10 * (u.1.2.2.2.2.2.2.2.1 - Y.2.2.2.2.2.2.2.1) + 2 * (u.1.2.2.2.2.2.2.2.2.1 - Y.2.2.2.2.2.2.2.2.1))) (va_A (rW g ty Y pa kp ks I tl ac wr tw) sz)) (96000 - Y.2.2.2.2.2.2.2.1) (10 * (96000 - Y.2.2.2.2.2.2.2.1) + 2 * (1542237 - Y.2.2.2.2.2.2.2.2.1)) (va_A (rW g ty Y pa kp ks I tl ac wr tw) sz) := by
  refine cg_of (Qa := fun A => va_Qi (fun (rz : Int32) (u : rY × (Nat → Int32) × (Nat → Int32)) => ∃ (r' : Int32) (Y' : rY) (pa' kp' : Nat → Int32), r' = rz ∧ (Y', pa', kp') = u ∧ rMake s0 n0 Y ks pl P ko r' Y' pa' kp') (cBg (dC, dI) (fun u : rY × (Nat → Int32) × (Nat → Int32) => rW g ty u.1 u.2.1 u.2.2 ks I tl ac wr tw) A sz tot (fun u : rY × (Nat → Int32) × (Nat → Int32) => u.1.2.2.2.2.2.2.2.1 - Y.2.2.2.2.2.2.2.1) (fun u : rY × (Nat → Int32) × (Nat → Int32) => 10 * (u.1.2.2.2.2.2.2.2.1 - Y.2.2.2.2.2.2.2.1) + 2 * (u.1.2.2.2.2.2.2.2.2.1 - Y.2.2.2.2.2.2.2.2.1))) A) (by decide) (Nat.le_of_ble_eq_true rfl) ?_
  intro p e s m below meth c A hx hb hr hml hown hg hlk hmn hP hK hD hT hS hA hsz htot ls hl
  have hown : s.vm.findClass RX12 = some m.cls := hown
  have hl : lv_has ls 5 [(0, .ref (g 8)), (1, .int s0), (2, .int n0)] := hl
  refine lv_aload_n hx hb dX12_make_0 rfl (lv_at hl 0 rfl) ?_
  refine va_get (D := (dC, dI)) (ci := 14) (v := .int Y.2.2.2.2.2.2.2.2.2.1) (C := RX12) (T := TX12) (N := 21) hx hb hg inG12 hown hK hP 0 rfl rfl 6 (by decide) (hg _ wF_X12_30) (fun _ h9 => h9) rfl dX12_make_1 ?_
  refine lv_aload_n hx hb dX12_make_4 rfl (lv_at hl 0 rfl) ?_
  refine va_get (D := (dC, dI)) (ci := 14) (v := .ref (Y.2.2.2.2.2.2.1 0)) (C := RX12) (T := TX12) (N := 21) hx hb hg inG12 hown hK hP 0 rfl rfl 0 (by decide) (hg _ wF_X12_7) (fun _ h9 => h9) rfl dX12_make_5 ?_
  refine va_alen (v := Int32.ofNat Y.2.2.2.2.2.2.2.1) hx hb hK hP 1 0 rfl rfl rfl dX12_make_8 ?_
  refine lv_icmp_eq (tgt := 26) hx hb dX12_make_9 (by decide) (fun c_1 => ?_) (fun c_1 => ?_)
  · show _
    refine lv_aload_n hx hb dX12_make_26 rfl (lv_at hl 0 rfl) ?_
    refine lv_iload_n hx hb dX12_make_27 rfl (lv_at hl 2 rfl) ?_
    refine gV_v (C := RX12) (n := 1) (rest := []) hx hb hml hown hg hT (c_X12_room l dC dI g ty s.heap.size (hsum s.heap) Y pa kp ks I tl ac wr tw ρ pl P ko n0 (by exact pre0) (by exact pre1) (by exact pre2) (by exact pre3) (by exact pre4) (by first | exact Or.inl (mk_eq pre0.1 (by assumption)) | exact Or.inr (mk_gt pre0.1 pre3 (by assumption)))) (cv_of hg wM_X12_61 wN_X12_room wL_X12_X12_room wK_X12_room wI_X12 (by decide +kernel) ⟨Nat.le_of_ble_eq_true rfl, Nat.le_of_ble_eq_true rfl⟩) hK hP hD hS hA (va_recv hK hP (ci := 14) (q0 := 0) rfl rfl) rfl hl.1 rfl (Nat.le_of_ble_eq_true rfl) dX12_make_28 ⟨by show 0 + (96000 - Y.2.2.2.2.2.2.2.1) ≤ 96000 - Y.2.2.2.2.2.2.2.1; omega, by show 0 + (10 * (96000 - Y.2.2.2.2.2.2.2.1) + 2 * (1542237 - Y.2.2.2.2.2.2.2.2.1)) ≤ 10 * (96000 - Y.2.2.2.2.2.2.2.1) + 2 * (1542237 - Y.2.2.2.2.2.2.2.2.1); omega⟩ (fun u_4 H locs q_2 hP hD hS => ?_)
    obtain ⟨Y'_5, pa'_6, kp'_7, rfl, f_8⟩ := q_2
    have hP : va_P (dC, dI) vwCl (rW g ty Y'_5 pa'_6 kp'_7 ks I tl ac wr tw) H := hP
    have hD : va_D A (rW g ty Y'_5 pa'_6 kp'_7 ks I tl ac wr tw) := hD
    obtain ⟨ρ1, rel1, hk1, hle1, hrm1, hgr1⟩ := f_8
    have hL1 := rel1.1
    have hlc1 := rl_L hL1
    have hin1 : vp_in Y'_5.2.2.2.2.2.2.2.2.2.1 Y'_5.2.2.2.2.2.2.2.1 := i32_in (i32_pos hL1.1.1).1 hrm1.1
    refine lv_aload_n hx hb dX12_make_31 rfl (lv_at hl 0 rfl) ?_
    refine lv_dup hx hb dX12_make_32 rfl ?_
    refine va_get (D := (dC, dI)) (ci := 14) (v := .int Y'_5.2.2.2.2.2.2.2.2.2.1) (C := RX12) (T := TX12) (N := 21) hx hb hg inG12 hown hK hP 0 rfl rfl 6 (by decide) (hg _ wF_X12_30) (fun _ h9 => h9) rfl dX12_make_33 ?_
    refine lv_dup_x1 hx hb dX12_make_36 rfl rfl ?_
    refine lv_iconst (v := 1) hx hb dX12_make_37 (by decide) ?_
    refine lv_iadd hx hb dX12_make_38 ?_
    refine va_put (D := (dC, dI)) (ci := 14) (v := .int (Y'_5.2.2.2.2.2.2.2.2.2.1 + 1)) (ty := .int) (C := RX12) (T := TX12) (N := 21) hx hb hg inG12 tyX12 tyX12_ok nmX12 hown hK hP hD hS 0 rfl rfl 6 (by decide) (hg _ wF_X12_30) (fun _ h9 => h9) rfl (by decide +kernel) rfl rfl (Nat.le_of_ble_eq_true rfl) dX12_make_39 (fun H locs hP hD hS => ?_)
    have hP : va_P (dC, dI) vwCl (rW g ty (Y'_5.1, Y'_5.2.1, Y'_5.2.2.1, Y'_5.2.2.2.1, Y'_5.2.2.2.2.1, Y'_5.2.2.2.2.2.1, Y'_5.2.2.2.2.2.2.1, Y'_5.2.2.2.2.2.2.2.1, Y'_5.2.2.2.2.2.2.2.2.1, (Y'_5.2.2.2.2.2.2.2.2.2.1 + 1), Y'_5.2.2.2.2.2.2.2.2.2.2) pa'_6 kp'_7 ks I tl ac wr tw) H := hP
    have hD : va_D A (rW g ty (Y'_5.1, Y'_5.2.1, Y'_5.2.2.1, Y'_5.2.2.2.1, Y'_5.2.2.2.2.1, Y'_5.2.2.2.2.2.1, Y'_5.2.2.2.2.2.2.1, Y'_5.2.2.2.2.2.2.2.1, Y'_5.2.2.2.2.2.2.2.2.1, (Y'_5.2.2.2.2.2.2.2.2.2.1 + 1), Y'_5.2.2.2.2.2.2.2.2.2.2) pa'_6 kp'_7 ks I tl ac wr tw) := hD
    refine lv_istore_n (lv' := [(3, .int Y'_5.2.2.2.2.2.2.2.2.2.1), (0, .ref (g 8)), (1, .int s0), (2, .int n0)]) hx hb dX12_make_42 rfl hl (by decide) rfl (fun ls hl => ?_)
    refine lv_aload_n hx hb dX12_make_43 rfl (lv_at hl 1 rfl) ?_
    refine va_get (D := (dC, dI)) (ci := 14) (v := .ref (Y'_5.2.2.2.2.2.2.1 0)) (C := RX12) (T := TX12) (N := 21) hx hb hg inG12 hown hK hP 0 rfl rfl 0 (by decide) (hg _ wF_X12_7) (fun _ h9 => h9) rfl dX12_make_44 ?_
    refine lv_iload_n hx hb dX12_make_47 rfl (lv_at hl 0 rfl) ?_
    refine lv_iload_n hx hb dX12_make_48 rfl (lv_at hl 2 rfl) ?_
    refine va_iast hx hb hK hP hD hS 1 0 rfl rfl (by exact hin1) dX12_make_49 (fun H locs hP hD hS => ?_)
    have hP : va_P (dC, dI) vwCl (rW g ty ((upd Y'_5.1 Y'_5.2.2.2.2.2.2.2.2.2.1.toNatClampNeg s0), Y'_5.2.1, Y'_5.2.2.1, Y'_5.2.2.2.1, Y'_5.2.2.2.2.1, Y'_5.2.2.2.2.2.1, Y'_5.2.2.2.2.2.2.1, Y'_5.2.2.2.2.2.2.2.1, Y'_5.2.2.2.2.2.2.2.2.1, (Y'_5.2.2.2.2.2.2.2.2.2.1 + 1), Y'_5.2.2.2.2.2.2.2.2.2.2) pa'_6 kp'_7 ks I tl ac wr tw) H := hP
    have hD : va_D A (rW g ty ((upd Y'_5.1 Y'_5.2.2.2.2.2.2.2.2.2.1.toNatClampNeg s0), Y'_5.2.1, Y'_5.2.2.1, Y'_5.2.2.2.1, Y'_5.2.2.2.2.1, Y'_5.2.2.2.2.2.1, Y'_5.2.2.2.2.2.2.1, Y'_5.2.2.2.2.2.2.2.1, Y'_5.2.2.2.2.2.2.2.2.1, (Y'_5.2.2.2.2.2.2.2.2.2.1 + 1), Y'_5.2.2.2.2.2.2.2.2.2.2) pa'_6 kp'_7 ks I tl ac wr tw) := hD
    refine lv_aload_n hx hb dX12_make_50 rfl (lv_at hl 1 rfl) ?_
    refine va_get (D := (dC, dI)) (ci := 14) (v := .ref (Y'_5.2.2.2.2.2.2.1 1)) (C := RX12) (T := TX12) (N := 21) hx hb hg inG12 hown hK hP 0 rfl rfl 1 (by decide) (hg _ wF_X12_13) (fun _ h9 => h9) rfl dX12_make_51 ?_
    refine lv_iload_n hx hb dX12_make_54 rfl (lv_at hl 0 rfl) ?_
    refine lv_aload_n hx hb dX12_make_55 rfl (lv_at hl 1 rfl) ?_
    refine va_get (D := (dC, dI)) (ci := 14) (v := .int Y'_5.2.2.2.2.2.2.2.2.2.2) (C := RX12) (T := TX12) (N := 21) hx hb hg inG12 hown hK hP 0 rfl rfl 7 (by decide) (hg _ wF_X12_58) (fun _ h9 => h9) rfl dX12_make_56 ?_
    refine va_iast hx hb hK hP hD hS 2 0 rfl rfl (by exact hin1) dX12_make_59 (fun H locs hP hD hS => ?_)
    have hP : va_P (dC, dI) vwCl (rW g ty ((upd Y'_5.1 Y'_5.2.2.2.2.2.2.2.2.2.1.toNatClampNeg s0), (upd Y'_5.2.1 Y'_5.2.2.2.2.2.2.2.2.2.1.toNatClampNeg Y'_5.2.2.2.2.2.2.2.2.2.2), Y'_5.2.2.1, Y'_5.2.2.2.1, Y'_5.2.2.2.2.1, Y'_5.2.2.2.2.2.1, Y'_5.2.2.2.2.2.2.1, Y'_5.2.2.2.2.2.2.2.1, Y'_5.2.2.2.2.2.2.2.2.1, (Y'_5.2.2.2.2.2.2.2.2.2.1 + 1), Y'_5.2.2.2.2.2.2.2.2.2.2) pa'_6 kp'_7 ks I tl ac wr tw) H := hP
    have hD : va_D A (rW g ty ((upd Y'_5.1 Y'_5.2.2.2.2.2.2.2.2.2.1.toNatClampNeg s0), (upd Y'_5.2.1 Y'_5.2.2.2.2.2.2.2.2.2.1.toNatClampNeg Y'_5.2.2.2.2.2.2.2.2.2.2), Y'_5.2.2.1, Y'_5.2.2.2.1, Y'_5.2.2.2.2.1, Y'_5.2.2.2.2.2.1, Y'_5.2.2.2.2.2.2.1, Y'_5.2.2.2.2.2.2.2.1, Y'_5.2.2.2.2.2.2.2.2.1, (Y'_5.2.2.2.2.2.2.2.2.2.1 + 1), Y'_5.2.2.2.2.2.2.2.2.2.2) pa'_6 kp'_7 ks I tl ac wr tw) := hD
    refine lv_aload_n hx hb dX12_make_60 rfl (lv_at hl 1 rfl) ?_
    refine va_get (D := (dC, dI)) (ci := 14) (v := .ref (Y'_5.2.2.2.2.2.2.1 2)) (C := RX12) (T := TX12) (N := 21) hx hb hg inG12 hown hK hP 0 rfl rfl 2 (by decide) (hg _ wF_X12_16) (fun _ h9 => h9) rfl dX12_make_61 ?_
    refine lv_iload_n hx hb dX12_make_64 rfl (lv_at hl 0 rfl) ?_
    refine lv_iload_n hx hb dX12_make_65 rfl (lv_at hl 3 rfl) ?_
    refine va_iast hx hb hK hP hD hS 3 0 rfl rfl (by exact hin1) dX12_make_66 (fun H locs hP hD hS => ?_)
    have hP : va_P (dC, dI) vwCl (rW g ty ((upd Y'_5.1 Y'_5.2.2.2.2.2.2.2.2.2.1.toNatClampNeg s0), (upd Y'_5.2.1 Y'_5.2.2.2.2.2.2.2.2.2.1.toNatClampNeg Y'_5.2.2.2.2.2.2.2.2.2.2), (upd Y'_5.2.2.1 Y'_5.2.2.2.2.2.2.2.2.2.1.toNatClampNeg n0), Y'_5.2.2.2.1, Y'_5.2.2.2.2.1, Y'_5.2.2.2.2.2.1, Y'_5.2.2.2.2.2.2.1, Y'_5.2.2.2.2.2.2.2.1, Y'_5.2.2.2.2.2.2.2.2.1, (Y'_5.2.2.2.2.2.2.2.2.2.1 + 1), Y'_5.2.2.2.2.2.2.2.2.2.2) pa'_6 kp'_7 ks I tl ac wr tw) H := hP
    have hD : va_D A (rW g ty ((upd Y'_5.1 Y'_5.2.2.2.2.2.2.2.2.2.1.toNatClampNeg s0), (upd Y'_5.2.1 Y'_5.2.2.2.2.2.2.2.2.2.1.toNatClampNeg Y'_5.2.2.2.2.2.2.2.2.2.2), (upd Y'_5.2.2.1 Y'_5.2.2.2.2.2.2.2.2.2.1.toNatClampNeg n0), Y'_5.2.2.2.1, Y'_5.2.2.2.2.1, Y'_5.2.2.2.2.2.1, Y'_5.2.2.2.2.2.2.1, Y'_5.2.2.2.2.2.2.2.1, Y'_5.2.2.2.2.2.2.2.2.1, (Y'_5.2.2.2.2.2.2.2.2.2.1 + 1), Y'_5.2.2.2.2.2.2.2.2.2.2) pa'_6 kp'_7 ks I tl ac wr tw) := hD
    refine lv_iconst (v := 0) hx hb dX12_make_67 (by decide) ?_
    refine lv_istore (lv' := [(4, .int 0), (3, .int Y'_5.2.2.2.2.2.2.2.2.2.1), (0, .ref (g 8)), (1, .int s0), (2, .int n0)]) hx hb dX12_make_68 hl (by decide) rfl (fun ls hl => ?_)
    have LOOP70 : ∀ (N70 : Nat) (kz : Int32) (cz : Nat → Int64) (H : Heap) (locs : List Loc) (ls : Array Slot), n0.toNatClampNeg - kz.toNatClampNeg = N70 → (¬ kz < 0) → (kz ≤ n0) → (∀ j, j < kz.toNatClampNeg → cz (Y'_5.2.2.2.2.2.2.2.2.2.2.toNatClampNeg + j) = 0) → (∀ i, i < Y'_5.2.2.2.2.2.2.2.2.2.2.toNatClampNeg → cz i = Y'_5.2.2.2.2.2.1 i) → va_P (dC, dI) vwCl (rW g ty ((upd Y'_5.1 Y'_5.2.2.2.2.2.2.2.2.2.1.toNatClampNeg s0), (upd Y'_5.2.1 Y'_5.2.2.2.2.2.2.2.2.2.1.toNatClampNeg Y'_5.2.2.2.2.2.2.2.2.2.2), (upd Y'_5.2.2.1 Y'_5.2.2.2.2.2.2.2.2.2.1.toNatClampNeg n0), Y'_5.2.2.2.1, Y'_5.2.2.2.2.1, cz, Y'_5.2.2.2.2.2.2.1, Y'_5.2.2.2.2.2.2.2.1, Y'_5.2.2.2.2.2.2.2.2.1, (Y'_5.2.2.2.2.2.2.2.2.2.1 + 1), Y'_5.2.2.2.2.2.2.2.2.2.2) pa'_6 kp'_7 ks I tl ac wr tw) H → va_D A (rW g ty ((upd Y'_5.1 Y'_5.2.2.2.2.2.2.2.2.2.1.toNatClampNeg s0), (upd Y'_5.2.1 Y'_5.2.2.2.2.2.2.2.2.2.1.toNatClampNeg Y'_5.2.2.2.2.2.2.2.2.2.2), (upd Y'_5.2.2.1 Y'_5.2.2.2.2.2.2.2.2.2.1.toNatClampNeg n0), Y'_5.2.2.2.1, Y'_5.2.2.2.2.1, cz, Y'_5.2.2.2.2.2.2.1, Y'_5.2.2.2.2.2.2.2.1, Y'_5.2.2.2.2.2.2.2.2.1, (Y'_5.2.2.2.2.2.2.2.2.2.1 + 1), Y'_5.2.2.2.2.2.2.2.2.2.2) pa'_6 kp'_7 ks I tl ac wr tw) → va_S A s.heap H locs → lv_has ls 5 [(0, .ref (g 8)), (1, .int s0), (2, .int n0), (3, .int Y'_5.2.2.2.2.2.2.2.2.2.1), (4, .int kz)] → W p l e ({ frames := 2, cells := 96000 - Y.2.2.2.2.2.2.2.1, slots := 10 * (96000 - Y.2.2.2.2.2.2.2.1) + 2 * (1542237 - Y.2.2.2.2.2.2.2.2.1), locals := 58 }) s m ([.ref (g 8), .int s0, .int n0]).toArray below meth c H locs (0 + (Y'_5.2.2.2.2.2.2.2.1 - Y.2.2.2.2.2.2.2.1)) (0 + (10 * (Y'_5.2.2.2.2.2.2.2.1 - Y.2.2.2.2.2.2.2.1) + 2 * (Y'_5.2.2.2.2.2.2.2.2.1 - Y.2.2.2.2.2.2.2.2.1))) (MQ below (va_Qi (fun (rz : Int32) (u : rY × (Nat → Int32) × (Nat → Int32)) => ∃ (r' : Int32) (Y' : rY) (pa' kp' : Nat → Int32), r' = rz ∧ (Y', pa', kp') = u ∧ rMake s0 n0 Y ks pl P ko r' Y' pa' kp') (cBg (dC, dI) (fun u : rY × (Nat → Int32) × (Nat → Int32) => rW g ty u.1 u.2.1 u.2.2 ks I tl ac wr tw) A sz tot (fun u : rY × (Nat → Int32) × (Nat → Int32) => u.1.2.2.2.2.2.2.2.1 - Y.2.2.2.2.2.2.2.1) (fun u : rY × (Nat → Int32) × (Nat → Int32) => 10 * (u.1.2.2.2.2.2.2.2.1 - Y.2.2.2.2.2.2.2.1) + 2 * (u.1.2.2.2.2.2.2.2.2.1 - Y.2.2.2.2.2.2.2.2.1))) A) ([.ref (g 8), .int s0, .int n0]).toArray s (96000 - Y.2.2.2.2.2.2.2.1) (10 * (96000 - Y.2.2.2.2.2.2.2.1) + 2 * (1542237 - Y.2.2.2.2.2.2.2.2.1)) A) (F0 m 70 ls []) := by
      intro N70
      induction N70 using Nat.strongRecOn with
      | _ N70 IH70 =>
        intro kz cz H locs ls hN70 z0 z1 z2 z3 hP hD hS hl
        refine lv_iload hx hb dX12_make_70 (lv_at hl 4 rfl) ?_
        refine lv_iload_n hx hb dX12_make_72 rfl (lv_at hl 2 rfl) ?_
        refine lv_icmp_ge (tgt := 95) hx hb dX12_make_73 (by decide) (fun c_9 => ?_) (fun c_9 => ?_)
        · show _
          refine lv_aload_n hx hb dX12_make_95 rfl (lv_at hl 0 rfl) ?_
          refine lv_dup hx hb dX12_make_96 rfl ?_
          refine va_get (D := (dC, dI)) (ci := 14) (v := .int Y'_5.2.2.2.2.2.2.2.2.2.2) (C := RX12) (T := TX12) (N := 21) hx hb hg inG12 hown hK hP 0 rfl rfl 7 (by decide) (hg _ wF_X12_58) (fun _ h9 => h9) rfl dX12_make_97 ?_
          refine lv_iload_n hx hb dX12_make_100 rfl (lv_at hl 2 rfl) ?_
          refine lv_iadd hx hb dX12_make_101 ?_
          refine va_put (D := (dC, dI)) (ci := 14) (v := .int (Y'_5.2.2.2.2.2.2.2.2.2.2 + n0)) (ty := .int) (C := RX12) (T := TX12) (N := 21) hx hb hg inG12 tyX12 tyX12_ok nmX12 hown hK hP hD hS 0 rfl rfl 7 (by decide) (hg _ wF_X12_58) (fun _ h9 => h9) rfl (by decide +kernel) rfl rfl (Nat.le_of_ble_eq_true rfl) dX12_make_102 (fun H locs hP hD hS => ?_)
          have hP : va_P (dC, dI) vwCl (rW g ty ((upd Y'_5.1 Y'_5.2.2.2.2.2.2.2.2.2.1.toNatClampNeg s0), (upd Y'_5.2.1 Y'_5.2.2.2.2.2.2.2.2.2.1.toNatClampNeg Y'_5.2.2.2.2.2.2.2.2.2.2), (upd Y'_5.2.2.1 Y'_5.2.2.2.2.2.2.2.2.2.1.toNatClampNeg n0), Y'_5.2.2.2.1, Y'_5.2.2.2.2.1, cz, Y'_5.2.2.2.2.2.2.1, Y'_5.2.2.2.2.2.2.2.1, Y'_5.2.2.2.2.2.2.2.2.1, (Y'_5.2.2.2.2.2.2.2.2.2.1 + 1), (Y'_5.2.2.2.2.2.2.2.2.2.2 + n0)) pa'_6 kp'_7 ks I tl ac wr tw) H := hP
          have hD : va_D A (rW g ty ((upd Y'_5.1 Y'_5.2.2.2.2.2.2.2.2.2.1.toNatClampNeg s0), (upd Y'_5.2.1 Y'_5.2.2.2.2.2.2.2.2.2.1.toNatClampNeg Y'_5.2.2.2.2.2.2.2.2.2.2), (upd Y'_5.2.2.1 Y'_5.2.2.2.2.2.2.2.2.2.1.toNatClampNeg n0), Y'_5.2.2.2.1, Y'_5.2.2.2.2.1, cz, Y'_5.2.2.2.2.2.2.1, Y'_5.2.2.2.2.2.2.2.1, Y'_5.2.2.2.2.2.2.2.2.1, (Y'_5.2.2.2.2.2.2.2.2.2.1 + 1), (Y'_5.2.2.2.2.2.2.2.2.2.2 + n0)) pa'_6 kp'_7 ks I tl ac wr tw) := hD
          refine lv_iload_n hx hb dX12_make_105 rfl (lv_at hl 3 rfl) ?_
          have hgr9 := hgr1.1
          have hgr8 := hgr1.2
          refine W.bound (fun gb1 gb2 => ?_)
          refine W.widen (k := 96000 - Y.2.2.2.2.2.2.2.1) (n := 10 * (96000 - Y.2.2.2.2.2.2.2.1) + 2 * (1542237 - Y.2.2.2.2.2.2.2.2.1)) (by show 0 + (Y'_5.2.2.2.2.2.2.2.1 - Y.2.2.2.2.2.2.2.1) ≤ 96000 - Y.2.2.2.2.2.2.2.1; omega) (by show 0 + (10 * (Y'_5.2.2.2.2.2.2.2.1 - Y.2.2.2.2.2.2.2.1) + 2 * (Y'_5.2.2.2.2.2.2.2.2.1 - Y.2.2.2.2.2.2.2.2.1)) ≤ 10 * (96000 - Y.2.2.2.2.2.2.2.1) + 2 * (1542237 - Y.2.2.2.2.2.2.2.2.1); omega) ?_
          refine gr_i (wo := fun u : rY × (Nat → Int32) × (Nat → Int32) => rW g ty u.1 u.2.1 u.2.2 ks I tl ac wr tw) ((((upd Y'_5.1 Y'_5.2.2.2.2.2.2.2.2.2.1.toNatClampNeg s0), (upd Y'_5.2.1 Y'_5.2.2.2.2.2.2.2.2.2.1.toNatClampNeg Y'_5.2.2.2.2.2.2.2.2.2.2), (upd Y'_5.2.2.1 Y'_5.2.2.2.2.2.2.2.2.2.1.toNatClampNeg n0), Y'_5.2.2.2.1, Y'_5.2.2.2.2.1, cz, Y'_5.2.2.2.2.2.2.1, Y'_5.2.2.2.2.2.2.2.1, Y'_5.2.2.2.2.2.2.2.2.1, (Y'_5.2.2.2.2.2.2.2.2.2.1 + 1), (Y'_5.2.2.2.2.2.2.2.2.2.2 + n0)), pa'_6, kp'_7)) hx hb hr hlk hS hP hD (by show H.size ≤ sz + (Y'_5.2.2.2.2.2.2.2.1 - Y.2.2.2.2.2.2.2.1); rw [← hsz]; omega) (by show hsum H ≤ tot + (10 * (Y'_5.2.2.2.2.2.2.2.1 - Y.2.2.2.2.2.2.2.1) + 2 * (Y'_5.2.2.2.2.2.2.2.2.1 - Y.2.2.2.2.2.2.2.2.1)); rw [← htot]; omega) ?_ dX12_make_106
          exact ⟨Y'_5.2.2.2.2.2.2.2.2.2.1, ((upd Y'_5.1 Y'_5.2.2.2.2.2.2.2.2.2.1.toNatClampNeg s0), (upd Y'_5.2.1 Y'_5.2.2.2.2.2.2.2.2.2.1.toNatClampNeg Y'_5.2.2.2.2.2.2.2.2.2.2), (upd Y'_5.2.2.1 Y'_5.2.2.2.2.2.2.2.2.2.1.toNatClampNeg n0), Y'_5.2.2.2.1, Y'_5.2.2.2.2.1, cz, Y'_5.2.2.2.2.2.2.1, Y'_5.2.2.2.2.2.2.2.1, Y'_5.2.2.2.2.2.2.2.2.1, (Y'_5.2.2.2.2.2.2.2.2.2.1 + 1), (Y'_5.2.2.2.2.2.2.2.2.2.2 + n0)), pa'_6, kp'_7, rfl, rfl, (by exact mk_end rel1 hk1 pre3 hrm1 hle1 hgr1 (fun j h9 => z2 j (Nat.lt_of_lt_of_le h9 (i32_le (by assumption)))) z3)⟩
        · show _
          refine lv_aload_n hx hb dX12_make_76 rfl (lv_at hl 0 rfl) ?_
          refine va_get (D := (dC, dI)) (ci := 14) (v := .ref (Y'_5.2.2.2.2.2.2.1 5)) (C := RX12) (T := TX12) (N := 21) hx hb hg inG12 hown hK hP 0 rfl rfl 5 (by decide) (hg _ wF_X12_26) (fun _ h9 => h9) rfl dX12_make_77 ?_
          refine lv_aload_n hx hb dX12_make_80 rfl (lv_at hl 0 rfl) ?_
          refine va_get (D := (dC, dI)) (ci := 14) (v := .int Y'_5.2.2.2.2.2.2.2.2.2.2) (C := RX12) (T := TX12) (N := 21) hx hb hg inG12 hown hK hP 0 rfl rfl 7 (by decide) (hg _ wF_X12_58) (fun _ h9 => h9) rfl dX12_make_81 ?_
          refine lv_iload hx hb dX12_make_84 (lv_at hl 4 rfl) ?_
          refine lv_iadd hx hb dX12_make_86 ?_
          refine lv_lconst (v := 0) hx hb dX12_make_87 (by decide) ?_
          refine va_last hx hb hK hP hD hS 6 2 rfl rfl (by exact (mk_z (Y := Y'_5) hL1 pre3 hrm1.2 z0 (by assumption)).2) dX12_make_88 (fun H locs hP hD hS => ?_)
          have hP : va_P (dC, dI) vwCl (rW g ty ((upd Y'_5.1 Y'_5.2.2.2.2.2.2.2.2.2.1.toNatClampNeg s0), (upd Y'_5.2.1 Y'_5.2.2.2.2.2.2.2.2.2.1.toNatClampNeg Y'_5.2.2.2.2.2.2.2.2.2.2), (upd Y'_5.2.2.1 Y'_5.2.2.2.2.2.2.2.2.2.1.toNatClampNeg n0), Y'_5.2.2.2.1, Y'_5.2.2.2.2.1, (vp_updL cz (Y'_5.2.2.2.2.2.2.2.2.2.2 + kz).toNatClampNeg 0), Y'_5.2.2.2.2.2.2.1, Y'_5.2.2.2.2.2.2.2.1, Y'_5.2.2.2.2.2.2.2.2.1, (Y'_5.2.2.2.2.2.2.2.2.2.1 + 1), Y'_5.2.2.2.2.2.2.2.2.2.2) pa'_6 kp'_7 ks I tl ac wr tw) H := hP
          have hD : va_D A (rW g ty ((upd Y'_5.1 Y'_5.2.2.2.2.2.2.2.2.2.1.toNatClampNeg s0), (upd Y'_5.2.1 Y'_5.2.2.2.2.2.2.2.2.2.1.toNatClampNeg Y'_5.2.2.2.2.2.2.2.2.2.2), (upd Y'_5.2.2.1 Y'_5.2.2.2.2.2.2.2.2.2.1.toNatClampNeg n0), Y'_5.2.2.2.1, Y'_5.2.2.2.2.1, (vp_updL cz (Y'_5.2.2.2.2.2.2.2.2.2.2 + kz).toNatClampNeg 0), Y'_5.2.2.2.2.2.2.1, Y'_5.2.2.2.2.2.2.2.1, Y'_5.2.2.2.2.2.2.2.2.1, (Y'_5.2.2.2.2.2.2.2.2.2.1 + 1), Y'_5.2.2.2.2.2.2.2.2.2.2) pa'_6 kp'_7 ks I tl ac wr tw) := hD
          refine lv_iinc (v := (kz + 1)) (lv' := [(4, .int (kz + 1)), (0, .ref (g 8)), (1, .int s0), (2, .int n0), (3, .int Y'_5.2.2.2.2.2.2.2.2.2.1)]) hx hb dX12_make_89 hl (k := 4) rfl rfl (by decide) rfl (fun ls hl => ?_)
          refine lv_goto (tgt := 70) hx hb dX12_make_92 (by decide) ?_
          exact IH70 _ (by rw [← hN70]; exact th_dec z0 (by assumption)) (kz + 1) (vp_updL cz (Y'_5.2.2.2.2.2.2.2.2.2.2 + kz).toNatClampNeg 0) _ _ _ rfl (by exact k1_nn z0 (by assumption)) (by exact k1_le (by assumption)) (by exact mk_u1 (t := 0) z0 (by assumption) (mk_z (Y := Y'_5) hL1 pre3 hrm1.2 z0 (by assumption)).1 z2) (by exact mk_u2 (mk_z (Y := Y'_5) hL1 pre3 hrm1.2 z0 (by assumption)).1 z3) hP hD hS (lv_sub hl [1, 2, 3, 4, 0] rfl)
    exact LOOP70 _ 0 Y'_5.2.2.2.2.2.1 _ _ _ rfl (by decide) (by exact pre3.1) (by exact fun j hj => absurd hj (Nat.not_lt_zero j)) (by exact fun _ _ => rfl) hP hD hS (lv_sub hl [2, 3, 4, 1, 0] rfl)
  · show _
    refine lv_aload_n hx hb dX12_make_12 rfl (lv_at hl 0 rfl) ?_
    refine va_get (D := (dC, dI)) (ci := 14) (v := .int Y.2.2.2.2.2.2.2.2.2.2) (C := RX12) (T := TX12) (N := 21) hx hb hg inG12 hown hK hP 0 rfl rfl 7 (by decide) (hg _ wF_X12_58) (fun _ h9 => h9) rfl dX12_make_13 ?_
    refine lv_iload_n hx hb dX12_make_16 rfl (lv_at hl 2 rfl) ?_
    refine lv_iadd hx hb dX12_make_17 ?_
    refine lv_aload_n hx hb dX12_make_18 rfl (lv_at hl 0 rfl) ?_
    refine va_get (D := (dC, dI)) (ci := 14) (v := .ref (Y.2.2.2.2.2.2.1 5)) (C := RX12) (T := TX12) (N := 21) hx hb hg inG12 hown hK hP 0 rfl rfl 5 (by decide) (hg _ wF_X12_26) (fun _ h9 => h9) rfl dX12_make_19 ?_
    refine va_alen (v := Int32.ofNat Y.2.2.2.2.2.2.2.2.1) hx hb hK hP 6 2 rfl rfl rfl dX12_make_22 ?_
    refine lv_icmp_le (tgt := 31) hx hb dX12_make_23 (by decide) (fun c_10 => ?_) (fun c_10 => ?_)
    · show _
      have rel1 := pre0
      have hk1 := pre2
      have hle1 : Y.2.2.2.2.2.2.2.2.2.1.toNatClampNeg ≤ Y.2.2.2.2.2.2.2.2.2.1.toNatClampNeg ∧ Y.2.2.2.2.2.2.2.2.2.2.toNatClampNeg ≤ Y.2.2.2.2.2.2.2.2.2.2.toNatClampNeg := ⟨Nat.le_refl _, Nat.le_refl _⟩
      have hrm1 : Y.2.2.2.2.2.2.2.2.2.1.toNatClampNeg < Y.2.2.2.2.2.2.2.1 ∧ Y.2.2.2.2.2.2.2.2.2.2.toNatClampNeg + n0.toNatClampNeg ≤ Y.2.2.2.2.2.2.2.2.1 := ⟨mk_ne pre0.1 (by assumption), mk_le pre0.1 pre3 (by assumption)⟩
      have hgr1 : Y.2.2.2.2.2.2.2.1 ≤ Y.2.2.2.2.2.2.2.1 ∧ Y.2.2.2.2.2.2.2.2.1 ≤ Y.2.2.2.2.2.2.2.2.1 := ⟨Nat.le_refl _, Nat.le_refl _⟩
      have hL1 := rel1.1
      have hlc1 := rl_L hL1
      have hin1 : vp_in Y.2.2.2.2.2.2.2.2.2.1 Y.2.2.2.2.2.2.2.1 := i32_in (i32_pos hL1.1.1).1 hrm1.1
      refine lv_aload_n hx hb dX12_make_31 rfl (lv_at hl 0 rfl) ?_
      refine lv_dup hx hb dX12_make_32 rfl ?_
      refine va_get (D := (dC, dI)) (ci := 14) (v := .int Y.2.2.2.2.2.2.2.2.2.1) (C := RX12) (T := TX12) (N := 21) hx hb hg inG12 hown hK hP 0 rfl rfl 6 (by decide) (hg _ wF_X12_30) (fun _ h9 => h9) rfl dX12_make_33 ?_
      refine lv_dup_x1 hx hb dX12_make_36 rfl rfl ?_
      refine lv_iconst (v := 1) hx hb dX12_make_37 (by decide) ?_
      refine lv_iadd hx hb dX12_make_38 ?_
      refine va_put (D := (dC, dI)) (ci := 14) (v := .int (Y.2.2.2.2.2.2.2.2.2.1 + 1)) (ty := .int) (C := RX12) (T := TX12) (N := 21) hx hb hg inG12 tyX12 tyX12_ok nmX12 hown hK hP hD hS 0 rfl rfl 6 (by decide) (hg _ wF_X12_30) (fun _ h9 => h9) rfl (by decide +kernel) rfl rfl (Nat.le_of_ble_eq_true rfl) dX12_make_39 (fun H locs hP hD hS => ?_)
      have hP : va_P (dC, dI) vwCl (rW g ty (Y.1, Y.2.1, Y.2.2.1, Y.2.2.2.1, Y.2.2.2.2.1, Y.2.2.2.2.2.1, Y.2.2.2.2.2.2.1, Y.2.2.2.2.2.2.2.1, Y.2.2.2.2.2.2.2.2.1, (Y.2.2.2.2.2.2.2.2.2.1 + 1), Y.2.2.2.2.2.2.2.2.2.2) pa kp ks I tl ac wr tw) H := hP
      have hD : va_D A (rW g ty (Y.1, Y.2.1, Y.2.2.1, Y.2.2.2.1, Y.2.2.2.2.1, Y.2.2.2.2.2.1, Y.2.2.2.2.2.2.1, Y.2.2.2.2.2.2.2.1, Y.2.2.2.2.2.2.2.2.1, (Y.2.2.2.2.2.2.2.2.2.1 + 1), Y.2.2.2.2.2.2.2.2.2.2) pa kp ks I tl ac wr tw) := hD
      refine lv_istore_n (lv' := [(3, .int Y.2.2.2.2.2.2.2.2.2.1), (0, .ref (g 8)), (1, .int s0), (2, .int n0)]) hx hb dX12_make_42 rfl hl (by decide) rfl (fun ls hl => ?_)
      refine lv_aload_n hx hb dX12_make_43 rfl (lv_at hl 1 rfl) ?_
      refine va_get (D := (dC, dI)) (ci := 14) (v := .ref (Y.2.2.2.2.2.2.1 0)) (C := RX12) (T := TX12) (N := 21) hx hb hg inG12 hown hK hP 0 rfl rfl 0 (by decide) (hg _ wF_X12_7) (fun _ h9 => h9) rfl dX12_make_44 ?_
      refine lv_iload_n hx hb dX12_make_47 rfl (lv_at hl 0 rfl) ?_
      refine lv_iload_n hx hb dX12_make_48 rfl (lv_at hl 2 rfl) ?_
      refine va_iast hx hb hK hP hD hS 1 0 rfl rfl (by exact hin1) dX12_make_49 (fun H locs hP hD hS => ?_)
      have hP : va_P (dC, dI) vwCl (rW g ty ((upd Y.1 Y.2.2.2.2.2.2.2.2.2.1.toNatClampNeg s0), Y.2.1, Y.2.2.1, Y.2.2.2.1, Y.2.2.2.2.1, Y.2.2.2.2.2.1, Y.2.2.2.2.2.2.1, Y.2.2.2.2.2.2.2.1, Y.2.2.2.2.2.2.2.2.1, (Y.2.2.2.2.2.2.2.2.2.1 + 1), Y.2.2.2.2.2.2.2.2.2.2) pa kp ks I tl ac wr tw) H := hP
      have hD : va_D A (rW g ty ((upd Y.1 Y.2.2.2.2.2.2.2.2.2.1.toNatClampNeg s0), Y.2.1, Y.2.2.1, Y.2.2.2.1, Y.2.2.2.2.1, Y.2.2.2.2.2.1, Y.2.2.2.2.2.2.1, Y.2.2.2.2.2.2.2.1, Y.2.2.2.2.2.2.2.2.1, (Y.2.2.2.2.2.2.2.2.2.1 + 1), Y.2.2.2.2.2.2.2.2.2.2) pa kp ks I tl ac wr tw) := hD
      refine lv_aload_n hx hb dX12_make_50 rfl (lv_at hl 1 rfl) ?_
      refine va_get (D := (dC, dI)) (ci := 14) (v := .ref (Y.2.2.2.2.2.2.1 1)) (C := RX12) (T := TX12) (N := 21) hx hb hg inG12 hown hK hP 0 rfl rfl 1 (by decide) (hg _ wF_X12_13) (fun _ h9 => h9) rfl dX12_make_51 ?_
      refine lv_iload_n hx hb dX12_make_54 rfl (lv_at hl 0 rfl) ?_
      refine lv_aload_n hx hb dX12_make_55 rfl (lv_at hl 1 rfl) ?_
      refine va_get (D := (dC, dI)) (ci := 14) (v := .int Y.2.2.2.2.2.2.2.2.2.2) (C := RX12) (T := TX12) (N := 21) hx hb hg inG12 hown hK hP 0 rfl rfl 7 (by decide) (hg _ wF_X12_58) (fun _ h9 => h9) rfl dX12_make_56 ?_
      refine va_iast hx hb hK hP hD hS 2 0 rfl rfl (by exact hin1) dX12_make_59 (fun H locs hP hD hS => ?_)
      have hP : va_P (dC, dI) vwCl (rW g ty ((upd Y.1 Y.2.2.2.2.2.2.2.2.2.1.toNatClampNeg s0), (upd Y.2.1 Y.2.2.2.2.2.2.2.2.2.1.toNatClampNeg Y.2.2.2.2.2.2.2.2.2.2), Y.2.2.1, Y.2.2.2.1, Y.2.2.2.2.1, Y.2.2.2.2.2.1, Y.2.2.2.2.2.2.1, Y.2.2.2.2.2.2.2.1, Y.2.2.2.2.2.2.2.2.1, (Y.2.2.2.2.2.2.2.2.2.1 + 1), Y.2.2.2.2.2.2.2.2.2.2) pa kp ks I tl ac wr tw) H := hP
      have hD : va_D A (rW g ty ((upd Y.1 Y.2.2.2.2.2.2.2.2.2.1.toNatClampNeg s0), (upd Y.2.1 Y.2.2.2.2.2.2.2.2.2.1.toNatClampNeg Y.2.2.2.2.2.2.2.2.2.2), Y.2.2.1, Y.2.2.2.1, Y.2.2.2.2.1, Y.2.2.2.2.2.1, Y.2.2.2.2.2.2.1, Y.2.2.2.2.2.2.2.1, Y.2.2.2.2.2.2.2.2.1, (Y.2.2.2.2.2.2.2.2.2.1 + 1), Y.2.2.2.2.2.2.2.2.2.2) pa kp ks I tl ac wr tw) := hD
      refine lv_aload_n hx hb dX12_make_60 rfl (lv_at hl 1 rfl) ?_
      refine va_get (D := (dC, dI)) (ci := 14) (v := .ref (Y.2.2.2.2.2.2.1 2)) (C := RX12) (T := TX12) (N := 21) hx hb hg inG12 hown hK hP 0 rfl rfl 2 (by decide) (hg _ wF_X12_16) (fun _ h9 => h9) rfl dX12_make_61 ?_
      refine lv_iload_n hx hb dX12_make_64 rfl (lv_at hl 0 rfl) ?_
      refine lv_iload_n hx hb dX12_make_65 rfl (lv_at hl 3 rfl) ?_
      refine va_iast hx hb hK hP hD hS 3 0 rfl rfl (by exact hin1) dX12_make_66 (fun H locs hP hD hS => ?_)
      have hP : va_P (dC, dI) vwCl (rW g ty ((upd Y.1 Y.2.2.2.2.2.2.2.2.2.1.toNatClampNeg s0), (upd Y.2.1 Y.2.2.2.2.2.2.2.2.2.1.toNatClampNeg Y.2.2.2.2.2.2.2.2.2.2), (upd Y.2.2.1 Y.2.2.2.2.2.2.2.2.2.1.toNatClampNeg n0), Y.2.2.2.1, Y.2.2.2.2.1, Y.2.2.2.2.2.1, Y.2.2.2.2.2.2.1, Y.2.2.2.2.2.2.2.1, Y.2.2.2.2.2.2.2.2.1, (Y.2.2.2.2.2.2.2.2.2.1 + 1), Y.2.2.2.2.2.2.2.2.2.2) pa kp ks I tl ac wr tw) H := hP
      have hD : va_D A (rW g ty ((upd Y.1 Y.2.2.2.2.2.2.2.2.2.1.toNatClampNeg s0), (upd Y.2.1 Y.2.2.2.2.2.2.2.2.2.1.toNatClampNeg Y.2.2.2.2.2.2.2.2.2.2), (upd Y.2.2.1 Y.2.2.2.2.2.2.2.2.2.1.toNatClampNeg n0), Y.2.2.2.1, Y.2.2.2.2.1, Y.2.2.2.2.2.1, Y.2.2.2.2.2.2.1, Y.2.2.2.2.2.2.2.1, Y.2.2.2.2.2.2.2.2.1, (Y.2.2.2.2.2.2.2.2.2.1 + 1), Y.2.2.2.2.2.2.2.2.2.2) pa kp ks I tl ac wr tw) := hD
      refine lv_iconst (v := 0) hx hb dX12_make_67 (by decide) ?_
      refine lv_istore (lv' := [(4, .int 0), (3, .int Y.2.2.2.2.2.2.2.2.2.1), (0, .ref (g 8)), (1, .int s0), (2, .int n0)]) hx hb dX12_make_68 hl (by decide) rfl (fun ls hl => ?_)
      have LOOP70 : ∀ (N70 : Nat) (kz : Int32) (cz : Nat → Int64) (H : Heap) (locs : List Loc) (ls : Array Slot), n0.toNatClampNeg - kz.toNatClampNeg = N70 → (¬ kz < 0) → (kz ≤ n0) → (∀ j, j < kz.toNatClampNeg → cz (Y.2.2.2.2.2.2.2.2.2.2.toNatClampNeg + j) = 0) → (∀ i, i < Y.2.2.2.2.2.2.2.2.2.2.toNatClampNeg → cz i = Y.2.2.2.2.2.1 i) → va_P (dC, dI) vwCl (rW g ty ((upd Y.1 Y.2.2.2.2.2.2.2.2.2.1.toNatClampNeg s0), (upd Y.2.1 Y.2.2.2.2.2.2.2.2.2.1.toNatClampNeg Y.2.2.2.2.2.2.2.2.2.2), (upd Y.2.2.1 Y.2.2.2.2.2.2.2.2.2.1.toNatClampNeg n0), Y.2.2.2.1, Y.2.2.2.2.1, cz, Y.2.2.2.2.2.2.1, Y.2.2.2.2.2.2.2.1, Y.2.2.2.2.2.2.2.2.1, (Y.2.2.2.2.2.2.2.2.2.1 + 1), Y.2.2.2.2.2.2.2.2.2.2) pa kp ks I tl ac wr tw) H → va_D A (rW g ty ((upd Y.1 Y.2.2.2.2.2.2.2.2.2.1.toNatClampNeg s0), (upd Y.2.1 Y.2.2.2.2.2.2.2.2.2.1.toNatClampNeg Y.2.2.2.2.2.2.2.2.2.2), (upd Y.2.2.1 Y.2.2.2.2.2.2.2.2.2.1.toNatClampNeg n0), Y.2.2.2.1, Y.2.2.2.2.1, cz, Y.2.2.2.2.2.2.1, Y.2.2.2.2.2.2.2.1, Y.2.2.2.2.2.2.2.2.1, (Y.2.2.2.2.2.2.2.2.2.1 + 1), Y.2.2.2.2.2.2.2.2.2.2) pa kp ks I tl ac wr tw) → va_S A s.heap H locs → lv_has ls 5 [(0, .ref (g 8)), (1, .int s0), (2, .int n0), (3, .int Y.2.2.2.2.2.2.2.2.2.1), (4, .int kz)] → W p l e ({ frames := 2, cells := 96000 - Y.2.2.2.2.2.2.2.1, slots := 10 * (96000 - Y.2.2.2.2.2.2.2.1) + 2 * (1542237 - Y.2.2.2.2.2.2.2.2.1), locals := 58 }) s m ([.ref (g 8), .int s0, .int n0]).toArray below meth c H locs (0) (0) (MQ below (va_Qi (fun (rz : Int32) (u : rY × (Nat → Int32) × (Nat → Int32)) => ∃ (r' : Int32) (Y' : rY) (pa' kp' : Nat → Int32), r' = rz ∧ (Y', pa', kp') = u ∧ rMake s0 n0 Y ks pl P ko r' Y' pa' kp') (cBg (dC, dI) (fun u : rY × (Nat → Int32) × (Nat → Int32) => rW g ty u.1 u.2.1 u.2.2 ks I tl ac wr tw) A sz tot (fun u : rY × (Nat → Int32) × (Nat → Int32) => u.1.2.2.2.2.2.2.2.1 - Y.2.2.2.2.2.2.2.1) (fun u : rY × (Nat → Int32) × (Nat → Int32) => 10 * (u.1.2.2.2.2.2.2.2.1 - Y.2.2.2.2.2.2.2.1) + 2 * (u.1.2.2.2.2.2.2.2.2.1 - Y.2.2.2.2.2.2.2.2.1))) A) ([.ref (g 8), .int s0, .int n0]).toArray s (96000 - Y.2.2.2.2.2.2.2.1) (10 * (96000 - Y.2.2.2.2.2.2.2.1) + 2 * (1542237 - Y.2.2.2.2.2.2.2.2.1)) A) (F0 m 70 ls []) := by
        intro N70
        induction N70 using Nat.strongRecOn with
        | _ N70 IH70 =>
          intro kz cz H locs ls hN70 z0 z1 z2 z3 hP hD hS hl
          refine lv_iload hx hb dX12_make_70 (lv_at hl 4 rfl) ?_
          refine lv_iload_n hx hb dX12_make_72 rfl (lv_at hl 2 rfl) ?_
          refine lv_icmp_ge (tgt := 95) hx hb dX12_make_73 (by decide) (fun c_11 => ?_) (fun c_11 => ?_)
          · show _
            refine lv_aload_n hx hb dX12_make_95 rfl (lv_at hl 0 rfl) ?_
            refine lv_dup hx hb dX12_make_96 rfl ?_
            refine va_get (D := (dC, dI)) (ci := 14) (v := .int Y.2.2.2.2.2.2.2.2.2.2) (C := RX12) (T := TX12) (N := 21) hx hb hg inG12 hown hK hP 0 rfl rfl 7 (by decide) (hg _ wF_X12_58) (fun _ h9 => h9) rfl dX12_make_97 ?_
            refine lv_iload_n hx hb dX12_make_100 rfl (lv_at hl 2 rfl) ?_
            refine lv_iadd hx hb dX12_make_101 ?_
            refine va_put (D := (dC, dI)) (ci := 14) (v := .int (Y.2.2.2.2.2.2.2.2.2.2 + n0)) (ty := .int) (C := RX12) (T := TX12) (N := 21) hx hb hg inG12 tyX12 tyX12_ok nmX12 hown hK hP hD hS 0 rfl rfl 7 (by decide) (hg _ wF_X12_58) (fun _ h9 => h9) rfl (by decide +kernel) rfl rfl (Nat.le_of_ble_eq_true rfl) dX12_make_102 (fun H locs hP hD hS => ?_)
            have hP : va_P (dC, dI) vwCl (rW g ty ((upd Y.1 Y.2.2.2.2.2.2.2.2.2.1.toNatClampNeg s0), (upd Y.2.1 Y.2.2.2.2.2.2.2.2.2.1.toNatClampNeg Y.2.2.2.2.2.2.2.2.2.2), (upd Y.2.2.1 Y.2.2.2.2.2.2.2.2.2.1.toNatClampNeg n0), Y.2.2.2.1, Y.2.2.2.2.1, cz, Y.2.2.2.2.2.2.1, Y.2.2.2.2.2.2.2.1, Y.2.2.2.2.2.2.2.2.1, (Y.2.2.2.2.2.2.2.2.2.1 + 1), (Y.2.2.2.2.2.2.2.2.2.2 + n0)) pa kp ks I tl ac wr tw) H := hP
            have hD : va_D A (rW g ty ((upd Y.1 Y.2.2.2.2.2.2.2.2.2.1.toNatClampNeg s0), (upd Y.2.1 Y.2.2.2.2.2.2.2.2.2.1.toNatClampNeg Y.2.2.2.2.2.2.2.2.2.2), (upd Y.2.2.1 Y.2.2.2.2.2.2.2.2.2.1.toNatClampNeg n0), Y.2.2.2.1, Y.2.2.2.2.1, cz, Y.2.2.2.2.2.2.1, Y.2.2.2.2.2.2.2.1, Y.2.2.2.2.2.2.2.2.1, (Y.2.2.2.2.2.2.2.2.2.1 + 1), (Y.2.2.2.2.2.2.2.2.2.2 + n0)) pa kp ks I tl ac wr tw) := hD
            refine lv_iload_n hx hb dX12_make_105 rfl (lv_at hl 3 rfl) ?_
            have hgr9 := hgr1.1
            have hgr8 := hgr1.2
            refine W.bound (fun gb1 gb2 => ?_)
            refine W.widen (k := 96000 - Y.2.2.2.2.2.2.2.1) (n := 10 * (96000 - Y.2.2.2.2.2.2.2.1) + 2 * (1542237 - Y.2.2.2.2.2.2.2.2.1)) (by show 0 ≤ 96000 - Y.2.2.2.2.2.2.2.1; omega) (by show 0 ≤ 10 * (96000 - Y.2.2.2.2.2.2.2.1) + 2 * (1542237 - Y.2.2.2.2.2.2.2.2.1); omega) ?_
            refine gr_i (wo := fun u : rY × (Nat → Int32) × (Nat → Int32) => rW g ty u.1 u.2.1 u.2.2 ks I tl ac wr tw) ((((upd Y.1 Y.2.2.2.2.2.2.2.2.2.1.toNatClampNeg s0), (upd Y.2.1 Y.2.2.2.2.2.2.2.2.2.1.toNatClampNeg Y.2.2.2.2.2.2.2.2.2.2), (upd Y.2.2.1 Y.2.2.2.2.2.2.2.2.2.1.toNatClampNeg n0), Y.2.2.2.1, Y.2.2.2.2.1, cz, Y.2.2.2.2.2.2.1, Y.2.2.2.2.2.2.2.1, Y.2.2.2.2.2.2.2.2.1, (Y.2.2.2.2.2.2.2.2.2.1 + 1), (Y.2.2.2.2.2.2.2.2.2.2 + n0)), pa, kp)) hx hb hr hlk hS hP hD (by show H.size ≤ sz + (Y.2.2.2.2.2.2.2.1 - Y.2.2.2.2.2.2.2.1); rw [← hsz]; omega) (by show hsum H ≤ tot + (10 * (Y.2.2.2.2.2.2.2.1 - Y.2.2.2.2.2.2.2.1) + 2 * (Y.2.2.2.2.2.2.2.2.1 - Y.2.2.2.2.2.2.2.2.1)); rw [← htot]; omega) ?_ dX12_make_106
            exact ⟨Y.2.2.2.2.2.2.2.2.2.1, ((upd Y.1 Y.2.2.2.2.2.2.2.2.2.1.toNatClampNeg s0), (upd Y.2.1 Y.2.2.2.2.2.2.2.2.2.1.toNatClampNeg Y.2.2.2.2.2.2.2.2.2.2), (upd Y.2.2.1 Y.2.2.2.2.2.2.2.2.2.1.toNatClampNeg n0), Y.2.2.2.1, Y.2.2.2.2.1, cz, Y.2.2.2.2.2.2.1, Y.2.2.2.2.2.2.2.1, Y.2.2.2.2.2.2.2.2.1, (Y.2.2.2.2.2.2.2.2.2.1 + 1), (Y.2.2.2.2.2.2.2.2.2.2 + n0)), pa, kp, rfl, rfl, (by exact mk_end rel1 hk1 pre3 hrm1 hle1 hgr1 (fun j h9 => z2 j (Nat.lt_of_lt_of_le h9 (i32_le (by assumption)))) z3)⟩
          · show _
            refine lv_aload_n hx hb dX12_make_76 rfl (lv_at hl 0 rfl) ?_
            refine va_get (D := (dC, dI)) (ci := 14) (v := .ref (Y.2.2.2.2.2.2.1 5)) (C := RX12) (T := TX12) (N := 21) hx hb hg inG12 hown hK hP 0 rfl rfl 5 (by decide) (hg _ wF_X12_26) (fun _ h9 => h9) rfl dX12_make_77 ?_
            refine lv_aload_n hx hb dX12_make_80 rfl (lv_at hl 0 rfl) ?_
            refine va_get (D := (dC, dI)) (ci := 14) (v := .int Y.2.2.2.2.2.2.2.2.2.2) (C := RX12) (T := TX12) (N := 21) hx hb hg inG12 hown hK hP 0 rfl rfl 7 (by decide) (hg _ wF_X12_58) (fun _ h9 => h9) rfl dX12_make_81 ?_
            refine lv_iload hx hb dX12_make_84 (lv_at hl 4 rfl) ?_
            refine lv_iadd hx hb dX12_make_86 ?_
            refine lv_lconst (v := 0) hx hb dX12_make_87 (by decide) ?_
            refine va_last hx hb hK hP hD hS 6 2 rfl rfl (by exact (mk_z (Y := Y) hL1 pre3 hrm1.2 z0 (by assumption)).2) dX12_make_88 (fun H locs hP hD hS => ?_)
            have hP : va_P (dC, dI) vwCl (rW g ty ((upd Y.1 Y.2.2.2.2.2.2.2.2.2.1.toNatClampNeg s0), (upd Y.2.1 Y.2.2.2.2.2.2.2.2.2.1.toNatClampNeg Y.2.2.2.2.2.2.2.2.2.2), (upd Y.2.2.1 Y.2.2.2.2.2.2.2.2.2.1.toNatClampNeg n0), Y.2.2.2.1, Y.2.2.2.2.1, (vp_updL cz (Y.2.2.2.2.2.2.2.2.2.2 + kz).toNatClampNeg 0), Y.2.2.2.2.2.2.1, Y.2.2.2.2.2.2.2.1, Y.2.2.2.2.2.2.2.2.1, (Y.2.2.2.2.2.2.2.2.2.1 + 1), Y.2.2.2.2.2.2.2.2.2.2) pa kp ks I tl ac wr tw) H := hP
            have hD : va_D A (rW g ty ((upd Y.1 Y.2.2.2.2.2.2.2.2.2.1.toNatClampNeg s0), (upd Y.2.1 Y.2.2.2.2.2.2.2.2.2.1.toNatClampNeg Y.2.2.2.2.2.2.2.2.2.2), (upd Y.2.2.1 Y.2.2.2.2.2.2.2.2.2.1.toNatClampNeg n0), Y.2.2.2.1, Y.2.2.2.2.1, (vp_updL cz (Y.2.2.2.2.2.2.2.2.2.2 + kz).toNatClampNeg 0), Y.2.2.2.2.2.2.1, Y.2.2.2.2.2.2.2.1, Y.2.2.2.2.2.2.2.2.1, (Y.2.2.2.2.2.2.2.2.2.1 + 1), Y.2.2.2.2.2.2.2.2.2.2) pa kp ks I tl ac wr tw) := hD
            refine lv_iinc (v := (kz + 1)) (lv' := [(4, .int (kz + 1)), (0, .ref (g 8)), (1, .int s0), (2, .int n0), (3, .int Y.2.2.2.2.2.2.2.2.2.1)]) hx hb dX12_make_89 hl (k := 4) rfl rfl (by decide) rfl (fun ls hl => ?_)
            refine lv_goto (tgt := 70) hx hb dX12_make_92 (by decide) ?_
            exact IH70 _ (by rw [← hN70]; exact th_dec z0 (by assumption)) (kz + 1) (vp_updL cz (Y.2.2.2.2.2.2.2.2.2.2 + kz).toNatClampNeg 0) _ _ _ rfl (by exact k1_nn z0 (by assumption)) (by exact k1_le (by assumption)) (by exact mk_u1 (t := 0) z0 (by assumption) (mk_z (Y := Y) hL1 pre3 hrm1.2 z0 (by assumption)).1 z2) (by exact mk_u2 (mk_z (Y := Y) hL1 pre3 hrm1.2 z0 (by assumption)).1 z3) hP hD hS (lv_sub hl [1, 2, 3, 4, 0] rfl)
      exact LOOP70 _ 0 Y.2.2.2.2.2.1 _ _ _ rfl (by decide) (by exact pre3.1) (by exact fun j hj => absurd hj (Nat.not_lt_zero j)) (by exact fun _ _ => rfl) hP hD hS (lv_sub hl [2, 3, 4, 1, 0] rfl)
    · show _
      refine lv_aload_n hx hb dX12_make_26 rfl (lv_at hl 0 rfl) ?_
      refine lv_iload_n hx hb dX12_make_27 rfl (lv_at hl 2 rfl) ?_
      refine gV_v (C := RX12) (n := 1) (rest := []) hx hb hml hown hg hT (c_X12_room l dC dI g ty s.heap.size (hsum s.heap) Y pa kp ks I tl ac wr tw ρ pl P ko n0 (by exact pre0) (by exact pre1) (by exact pre2) (by exact pre3) (by exact pre4) (by first | exact Or.inl (mk_eq pre0.1 (by assumption)) | exact Or.inr (mk_gt pre0.1 pre3 (by assumption)))) (cv_of hg wM_X12_61 wN_X12_room wL_X12_X12_room wK_X12_room wI_X12 (by decide +kernel) ⟨Nat.le_of_ble_eq_true rfl, Nat.le_of_ble_eq_true rfl⟩) hK hP hD hS hA (va_recv hK hP (ci := 14) (q0 := 0) rfl rfl) rfl hl.1 rfl (Nat.le_of_ble_eq_true rfl) dX12_make_28 ⟨by show 0 + (96000 - Y.2.2.2.2.2.2.2.1) ≤ 96000 - Y.2.2.2.2.2.2.2.1; omega, by show 0 + (10 * (96000 - Y.2.2.2.2.2.2.2.1) + 2 * (1542237 - Y.2.2.2.2.2.2.2.2.1)) ≤ 10 * (96000 - Y.2.2.2.2.2.2.2.1) + 2 * (1542237 - Y.2.2.2.2.2.2.2.2.1); omega⟩ (fun u_14 H locs q_12 hP hD hS => ?_)
      obtain ⟨Y'_15, pa'_16, kp'_17, rfl, f_18⟩ := q_12
      have hP : va_P (dC, dI) vwCl (rW g ty Y'_15 pa'_16 kp'_17 ks I tl ac wr tw) H := hP
      have hD : va_D A (rW g ty Y'_15 pa'_16 kp'_17 ks I tl ac wr tw) := hD
      obtain ⟨ρ1, rel1, hk1, hle1, hrm1, hgr1⟩ := f_18
      have hL1 := rel1.1
      have hlc1 := rl_L hL1
      have hin1 : vp_in Y'_15.2.2.2.2.2.2.2.2.2.1 Y'_15.2.2.2.2.2.2.2.1 := i32_in (i32_pos hL1.1.1).1 hrm1.1
      refine lv_aload_n hx hb dX12_make_31 rfl (lv_at hl 0 rfl) ?_
      refine lv_dup hx hb dX12_make_32 rfl ?_
      refine va_get (D := (dC, dI)) (ci := 14) (v := .int Y'_15.2.2.2.2.2.2.2.2.2.1) (C := RX12) (T := TX12) (N := 21) hx hb hg inG12 hown hK hP 0 rfl rfl 6 (by decide) (hg _ wF_X12_30) (fun _ h9 => h9) rfl dX12_make_33 ?_
      refine lv_dup_x1 hx hb dX12_make_36 rfl rfl ?_
      refine lv_iconst (v := 1) hx hb dX12_make_37 (by decide) ?_
      refine lv_iadd hx hb dX12_make_38 ?_
      refine va_put (D := (dC, dI)) (ci := 14) (v := .int (Y'_15.2.2.2.2.2.2.2.2.2.1 + 1)) (ty := .int) (C := RX12) (T := TX12) (N := 21) hx hb hg inG12 tyX12 tyX12_ok nmX12 hown hK hP hD hS 0 rfl rfl 6 (by decide) (hg _ wF_X12_30) (fun _ h9 => h9) rfl (by decide +kernel) rfl rfl (Nat.le_of_ble_eq_true rfl) dX12_make_39 (fun H locs hP hD hS => ?_)
      have hP : va_P (dC, dI) vwCl (rW g ty (Y'_15.1, Y'_15.2.1, Y'_15.2.2.1, Y'_15.2.2.2.1, Y'_15.2.2.2.2.1, Y'_15.2.2.2.2.2.1, Y'_15.2.2.2.2.2.2.1, Y'_15.2.2.2.2.2.2.2.1, Y'_15.2.2.2.2.2.2.2.2.1, (Y'_15.2.2.2.2.2.2.2.2.2.1 + 1), Y'_15.2.2.2.2.2.2.2.2.2.2) pa'_16 kp'_17 ks I tl ac wr tw) H := hP
      have hD : va_D A (rW g ty (Y'_15.1, Y'_15.2.1, Y'_15.2.2.1, Y'_15.2.2.2.1, Y'_15.2.2.2.2.1, Y'_15.2.2.2.2.2.1, Y'_15.2.2.2.2.2.2.1, Y'_15.2.2.2.2.2.2.2.1, Y'_15.2.2.2.2.2.2.2.2.1, (Y'_15.2.2.2.2.2.2.2.2.2.1 + 1), Y'_15.2.2.2.2.2.2.2.2.2.2) pa'_16 kp'_17 ks I tl ac wr tw) := hD
      refine lv_istore_n (lv' := [(3, .int Y'_15.2.2.2.2.2.2.2.2.2.1), (0, .ref (g 8)), (1, .int s0), (2, .int n0)]) hx hb dX12_make_42 rfl hl (by decide) rfl (fun ls hl => ?_)
      refine lv_aload_n hx hb dX12_make_43 rfl (lv_at hl 1 rfl) ?_
      refine va_get (D := (dC, dI)) (ci := 14) (v := .ref (Y'_15.2.2.2.2.2.2.1 0)) (C := RX12) (T := TX12) (N := 21) hx hb hg inG12 hown hK hP 0 rfl rfl 0 (by decide) (hg _ wF_X12_7) (fun _ h9 => h9) rfl dX12_make_44 ?_
      refine lv_iload_n hx hb dX12_make_47 rfl (lv_at hl 0 rfl) ?_
      refine lv_iload_n hx hb dX12_make_48 rfl (lv_at hl 2 rfl) ?_
      refine va_iast hx hb hK hP hD hS 1 0 rfl rfl (by exact hin1) dX12_make_49 (fun H locs hP hD hS => ?_)
      have hP : va_P (dC, dI) vwCl (rW g ty ((upd Y'_15.1 Y'_15.2.2.2.2.2.2.2.2.2.1.toNatClampNeg s0), Y'_15.2.1, Y'_15.2.2.1, Y'_15.2.2.2.1, Y'_15.2.2.2.2.1, Y'_15.2.2.2.2.2.1, Y'_15.2.2.2.2.2.2.1, Y'_15.2.2.2.2.2.2.2.1, Y'_15.2.2.2.2.2.2.2.2.1, (Y'_15.2.2.2.2.2.2.2.2.2.1 + 1), Y'_15.2.2.2.2.2.2.2.2.2.2) pa'_16 kp'_17 ks I tl ac wr tw) H := hP
      have hD : va_D A (rW g ty ((upd Y'_15.1 Y'_15.2.2.2.2.2.2.2.2.2.1.toNatClampNeg s0), Y'_15.2.1, Y'_15.2.2.1, Y'_15.2.2.2.1, Y'_15.2.2.2.2.1, Y'_15.2.2.2.2.2.1, Y'_15.2.2.2.2.2.2.1, Y'_15.2.2.2.2.2.2.2.1, Y'_15.2.2.2.2.2.2.2.2.1, (Y'_15.2.2.2.2.2.2.2.2.2.1 + 1), Y'_15.2.2.2.2.2.2.2.2.2.2) pa'_16 kp'_17 ks I tl ac wr tw) := hD
      refine lv_aload_n hx hb dX12_make_50 rfl (lv_at hl 1 rfl) ?_
      refine va_get (D := (dC, dI)) (ci := 14) (v := .ref (Y'_15.2.2.2.2.2.2.1 1)) (C := RX12) (T := TX12) (N := 21) hx hb hg inG12 hown hK hP 0 rfl rfl 1 (by decide) (hg _ wF_X12_13) (fun _ h9 => h9) rfl dX12_make_51 ?_
      refine lv_iload_n hx hb dX12_make_54 rfl (lv_at hl 0 rfl) ?_
      refine lv_aload_n hx hb dX12_make_55 rfl (lv_at hl 1 rfl) ?_
      refine va_get (D := (dC, dI)) (ci := 14) (v := .int Y'_15.2.2.2.2.2.2.2.2.2.2) (C := RX12) (T := TX12) (N := 21) hx hb hg inG12 hown hK hP 0 rfl rfl 7 (by decide) (hg _ wF_X12_58) (fun _ h9 => h9) rfl dX12_make_56 ?_
      refine va_iast hx hb hK hP hD hS 2 0 rfl rfl (by exact hin1) dX12_make_59 (fun H locs hP hD hS => ?_)
      have hP : va_P (dC, dI) vwCl (rW g ty ((upd Y'_15.1 Y'_15.2.2.2.2.2.2.2.2.2.1.toNatClampNeg s0), (upd Y'_15.2.1 Y'_15.2.2.2.2.2.2.2.2.2.1.toNatClampNeg Y'_15.2.2.2.2.2.2.2.2.2.2), Y'_15.2.2.1, Y'_15.2.2.2.1, Y'_15.2.2.2.2.1, Y'_15.2.2.2.2.2.1, Y'_15.2.2.2.2.2.2.1, Y'_15.2.2.2.2.2.2.2.1, Y'_15.2.2.2.2.2.2.2.2.1, (Y'_15.2.2.2.2.2.2.2.2.2.1 + 1), Y'_15.2.2.2.2.2.2.2.2.2.2) pa'_16 kp'_17 ks I tl ac wr tw) H := hP
      have hD : va_D A (rW g ty ((upd Y'_15.1 Y'_15.2.2.2.2.2.2.2.2.2.1.toNatClampNeg s0), (upd Y'_15.2.1 Y'_15.2.2.2.2.2.2.2.2.2.1.toNatClampNeg Y'_15.2.2.2.2.2.2.2.2.2.2), Y'_15.2.2.1, Y'_15.2.2.2.1, Y'_15.2.2.2.2.1, Y'_15.2.2.2.2.2.1, Y'_15.2.2.2.2.2.2.1, Y'_15.2.2.2.2.2.2.2.1, Y'_15.2.2.2.2.2.2.2.2.1, (Y'_15.2.2.2.2.2.2.2.2.2.1 + 1), Y'_15.2.2.2.2.2.2.2.2.2.2) pa'_16 kp'_17 ks I tl ac wr tw) := hD
      refine lv_aload_n hx hb dX12_make_60 rfl (lv_at hl 1 rfl) ?_
      refine va_get (D := (dC, dI)) (ci := 14) (v := .ref (Y'_15.2.2.2.2.2.2.1 2)) (C := RX12) (T := TX12) (N := 21) hx hb hg inG12 hown hK hP 0 rfl rfl 2 (by decide) (hg _ wF_X12_16) (fun _ h9 => h9) rfl dX12_make_61 ?_
      refine lv_iload_n hx hb dX12_make_64 rfl (lv_at hl 0 rfl) ?_
      refine lv_iload_n hx hb dX12_make_65 rfl (lv_at hl 3 rfl) ?_
      refine va_iast hx hb hK hP hD hS 3 0 rfl rfl (by exact hin1) dX12_make_66 (fun H locs hP hD hS => ?_)
      have hP : va_P (dC, dI) vwCl (rW g ty ((upd Y'_15.1 Y'_15.2.2.2.2.2.2.2.2.2.1.toNatClampNeg s0), (upd Y'_15.2.1 Y'_15.2.2.2.2.2.2.2.2.2.1.toNatClampNeg Y'_15.2.2.2.2.2.2.2.2.2.2), (upd Y'_15.2.2.1 Y'_15.2.2.2.2.2.2.2.2.2.1.toNatClampNeg n0), Y'_15.2.2.2.1, Y'_15.2.2.2.2.1, Y'_15.2.2.2.2.2.1, Y'_15.2.2.2.2.2.2.1, Y'_15.2.2.2.2.2.2.2.1, Y'_15.2.2.2.2.2.2.2.2.1, (Y'_15.2.2.2.2.2.2.2.2.2.1 + 1), Y'_15.2.2.2.2.2.2.2.2.2.2) pa'_16 kp'_17 ks I tl ac wr tw) H := hP
      have hD : va_D A (rW g ty ((upd Y'_15.1 Y'_15.2.2.2.2.2.2.2.2.2.1.toNatClampNeg s0), (upd Y'_15.2.1 Y'_15.2.2.2.2.2.2.2.2.2.1.toNatClampNeg Y'_15.2.2.2.2.2.2.2.2.2.2), (upd Y'_15.2.2.1 Y'_15.2.2.2.2.2.2.2.2.2.1.toNatClampNeg n0), Y'_15.2.2.2.1, Y'_15.2.2.2.2.1, Y'_15.2.2.2.2.2.1, Y'_15.2.2.2.2.2.2.1, Y'_15.2.2.2.2.2.2.2.1, Y'_15.2.2.2.2.2.2.2.2.1, (Y'_15.2.2.2.2.2.2.2.2.2.1 + 1), Y'_15.2.2.2.2.2.2.2.2.2.2) pa'_16 kp'_17 ks I tl ac wr tw) := hD
      refine lv_iconst (v := 0) hx hb dX12_make_67 (by decide) ?_
      refine lv_istore (lv' := [(4, .int 0), (3, .int Y'_15.2.2.2.2.2.2.2.2.2.1), (0, .ref (g 8)), (1, .int s0), (2, .int n0)]) hx hb dX12_make_68 hl (by decide) rfl (fun ls hl => ?_)
      have LOOP70 : ∀ (N70 : Nat) (kz : Int32) (cz : Nat → Int64) (H : Heap) (locs : List Loc) (ls : Array Slot), n0.toNatClampNeg - kz.toNatClampNeg = N70 → (¬ kz < 0) → (kz ≤ n0) → (∀ j, j < kz.toNatClampNeg → cz (Y'_15.2.2.2.2.2.2.2.2.2.2.toNatClampNeg + j) = 0) → (∀ i, i < Y'_15.2.2.2.2.2.2.2.2.2.2.toNatClampNeg → cz i = Y'_15.2.2.2.2.2.1 i) → va_P (dC, dI) vwCl (rW g ty ((upd Y'_15.1 Y'_15.2.2.2.2.2.2.2.2.2.1.toNatClampNeg s0), (upd Y'_15.2.1 Y'_15.2.2.2.2.2.2.2.2.2.1.toNatClampNeg Y'_15.2.2.2.2.2.2.2.2.2.2), (upd Y'_15.2.2.1 Y'_15.2.2.2.2.2.2.2.2.2.1.toNatClampNeg n0), Y'_15.2.2.2.1, Y'_15.2.2.2.2.1, cz, Y'_15.2.2.2.2.2.2.1, Y'_15.2.2.2.2.2.2.2.1, Y'_15.2.2.2.2.2.2.2.2.1, (Y'_15.2.2.2.2.2.2.2.2.2.1 + 1), Y'_15.2.2.2.2.2.2.2.2.2.2) pa'_16 kp'_17 ks I tl ac wr tw) H → va_D A (rW g ty ((upd Y'_15.1 Y'_15.2.2.2.2.2.2.2.2.2.1.toNatClampNeg s0), (upd Y'_15.2.1 Y'_15.2.2.2.2.2.2.2.2.2.1.toNatClampNeg Y'_15.2.2.2.2.2.2.2.2.2.2), (upd Y'_15.2.2.1 Y'_15.2.2.2.2.2.2.2.2.2.1.toNatClampNeg n0), Y'_15.2.2.2.1, Y'_15.2.2.2.2.1, cz, Y'_15.2.2.2.2.2.2.1, Y'_15.2.2.2.2.2.2.2.1, Y'_15.2.2.2.2.2.2.2.2.1, (Y'_15.2.2.2.2.2.2.2.2.2.1 + 1), Y'_15.2.2.2.2.2.2.2.2.2.2) pa'_16 kp'_17 ks I tl ac wr tw) → va_S A s.heap H locs → lv_has ls 5 [(0, .ref (g 8)), (1, .int s0), (2, .int n0), (3, .int Y'_15.2.2.2.2.2.2.2.2.2.1), (4, .int kz)] → W p l e ({ frames := 2, cells := 96000 - Y.2.2.2.2.2.2.2.1, slots := 10 * (96000 - Y.2.2.2.2.2.2.2.1) + 2 * (1542237 - Y.2.2.2.2.2.2.2.2.1), locals := 58 }) s m ([.ref (g 8), .int s0, .int n0]).toArray below meth c H locs (0 + (Y'_15.2.2.2.2.2.2.2.1 - Y.2.2.2.2.2.2.2.1)) (0 + (10 * (Y'_15.2.2.2.2.2.2.2.1 - Y.2.2.2.2.2.2.2.1) + 2 * (Y'_15.2.2.2.2.2.2.2.2.1 - Y.2.2.2.2.2.2.2.2.1))) (MQ below (va_Qi (fun (rz : Int32) (u : rY × (Nat → Int32) × (Nat → Int32)) => ∃ (r' : Int32) (Y' : rY) (pa' kp' : Nat → Int32), r' = rz ∧ (Y', pa', kp') = u ∧ rMake s0 n0 Y ks pl P ko r' Y' pa' kp') (cBg (dC, dI) (fun u : rY × (Nat → Int32) × (Nat → Int32) => rW g ty u.1 u.2.1 u.2.2 ks I tl ac wr tw) A sz tot (fun u : rY × (Nat → Int32) × (Nat → Int32) => u.1.2.2.2.2.2.2.2.1 - Y.2.2.2.2.2.2.2.1) (fun u : rY × (Nat → Int32) × (Nat → Int32) => 10 * (u.1.2.2.2.2.2.2.2.1 - Y.2.2.2.2.2.2.2.1) + 2 * (u.1.2.2.2.2.2.2.2.2.1 - Y.2.2.2.2.2.2.2.2.1))) A) ([.ref (g 8), .int s0, .int n0]).toArray s (96000 - Y.2.2.2.2.2.2.2.1) (10 * (96000 - Y.2.2.2.2.2.2.2.1) + 2 * (1542237 - Y.2.2.2.2.2.2.2.2.1)) A) (F0 m 70 ls []) := by
        intro N70
        induction N70 using Nat.strongRecOn with
        | _ N70 IH70 =>
          intro kz cz H locs ls hN70 z0 z1 z2 z3 hP hD hS hl
          refine lv_iload hx hb dX12_make_70 (lv_at hl 4 rfl) ?_
          refine lv_iload_n hx hb dX12_make_72 rfl (lv_at hl 2 rfl) ?_
          refine lv_icmp_ge (tgt := 95) hx hb dX12_make_73 (by decide) (fun c_19 => ?_) (fun c_19 => ?_)
          · show _
            refine lv_aload_n hx hb dX12_make_95 rfl (lv_at hl 0 rfl) ?_
            refine lv_dup hx hb dX12_make_96 rfl ?_
            refine va_get (D := (dC, dI)) (ci := 14) (v := .int Y'_15.2.2.2.2.2.2.2.2.2.2) (C := RX12) (T := TX12) (N := 21) hx hb hg inG12 hown hK hP 0 rfl rfl 7 (by decide) (hg _ wF_X12_58) (fun _ h9 => h9) rfl dX12_make_97 ?_
            refine lv_iload_n hx hb dX12_make_100 rfl (lv_at hl 2 rfl) ?_
            refine lv_iadd hx hb dX12_make_101 ?_
            refine va_put (D := (dC, dI)) (ci := 14) (v := .int (Y'_15.2.2.2.2.2.2.2.2.2.2 + n0)) (ty := .int) (C := RX12) (T := TX12) (N := 21) hx hb hg inG12 tyX12 tyX12_ok nmX12 hown hK hP hD hS 0 rfl rfl 7 (by decide) (hg _ wF_X12_58) (fun _ h9 => h9) rfl (by decide +kernel) rfl rfl (Nat.le_of_ble_eq_true rfl) dX12_make_102 (fun H locs hP hD hS => ?_)
            have hP : va_P (dC, dI) vwCl (rW g ty ((upd Y'_15.1 Y'_15.2.2.2.2.2.2.2.2.2.1.toNatClampNeg s0), (upd Y'_15.2.1 Y'_15.2.2.2.2.2.2.2.2.2.1.toNatClampNeg Y'_15.2.2.2.2.2.2.2.2.2.2), (upd Y'_15.2.2.1 Y'_15.2.2.2.2.2.2.2.2.2.1.toNatClampNeg n0), Y'_15.2.2.2.1, Y'_15.2.2.2.2.1, cz, Y'_15.2.2.2.2.2.2.1, Y'_15.2.2.2.2.2.2.2.1, Y'_15.2.2.2.2.2.2.2.2.1, (Y'_15.2.2.2.2.2.2.2.2.2.1 + 1), (Y'_15.2.2.2.2.2.2.2.2.2.2 + n0)) pa'_16 kp'_17 ks I tl ac wr tw) H := hP
            have hD : va_D A (rW g ty ((upd Y'_15.1 Y'_15.2.2.2.2.2.2.2.2.2.1.toNatClampNeg s0), (upd Y'_15.2.1 Y'_15.2.2.2.2.2.2.2.2.2.1.toNatClampNeg Y'_15.2.2.2.2.2.2.2.2.2.2), (upd Y'_15.2.2.1 Y'_15.2.2.2.2.2.2.2.2.2.1.toNatClampNeg n0), Y'_15.2.2.2.1, Y'_15.2.2.2.2.1, cz, Y'_15.2.2.2.2.2.2.1, Y'_15.2.2.2.2.2.2.2.1, Y'_15.2.2.2.2.2.2.2.2.1, (Y'_15.2.2.2.2.2.2.2.2.2.1 + 1), (Y'_15.2.2.2.2.2.2.2.2.2.2 + n0)) pa'_16 kp'_17 ks I tl ac wr tw) := hD
            refine lv_iload_n hx hb dX12_make_105 rfl (lv_at hl 3 rfl) ?_
            have hgr9 := hgr1.1
            have hgr8 := hgr1.2
            refine W.bound (fun gb1 gb2 => ?_)
            refine W.widen (k := 96000 - Y.2.2.2.2.2.2.2.1) (n := 10 * (96000 - Y.2.2.2.2.2.2.2.1) + 2 * (1542237 - Y.2.2.2.2.2.2.2.2.1)) (by show 0 + (Y'_15.2.2.2.2.2.2.2.1 - Y.2.2.2.2.2.2.2.1) ≤ 96000 - Y.2.2.2.2.2.2.2.1; omega) (by show 0 + (10 * (Y'_15.2.2.2.2.2.2.2.1 - Y.2.2.2.2.2.2.2.1) + 2 * (Y'_15.2.2.2.2.2.2.2.2.1 - Y.2.2.2.2.2.2.2.2.1)) ≤ 10 * (96000 - Y.2.2.2.2.2.2.2.1) + 2 * (1542237 - Y.2.2.2.2.2.2.2.2.1); omega) ?_
            refine gr_i (wo := fun u : rY × (Nat → Int32) × (Nat → Int32) => rW g ty u.1 u.2.1 u.2.2 ks I tl ac wr tw) ((((upd Y'_15.1 Y'_15.2.2.2.2.2.2.2.2.2.1.toNatClampNeg s0), (upd Y'_15.2.1 Y'_15.2.2.2.2.2.2.2.2.2.1.toNatClampNeg Y'_15.2.2.2.2.2.2.2.2.2.2), (upd Y'_15.2.2.1 Y'_15.2.2.2.2.2.2.2.2.2.1.toNatClampNeg n0), Y'_15.2.2.2.1, Y'_15.2.2.2.2.1, cz, Y'_15.2.2.2.2.2.2.1, Y'_15.2.2.2.2.2.2.2.1, Y'_15.2.2.2.2.2.2.2.2.1, (Y'_15.2.2.2.2.2.2.2.2.2.1 + 1), (Y'_15.2.2.2.2.2.2.2.2.2.2 + n0)), pa'_16, kp'_17)) hx hb hr hlk hS hP hD (by show H.size ≤ sz + (Y'_15.2.2.2.2.2.2.2.1 - Y.2.2.2.2.2.2.2.1); rw [← hsz]; omega) (by show hsum H ≤ tot + (10 * (Y'_15.2.2.2.2.2.2.2.1 - Y.2.2.2.2.2.2.2.1) + 2 * (Y'_15.2.2.2.2.2.2.2.2.1 - Y.2.2.2.2.2.2.2.2.1)); rw [← htot]; omega) ?_ dX12_make_106
            exact ⟨Y'_15.2.2.2.2.2.2.2.2.2.1, ((upd Y'_15.1 Y'_15.2.2.2.2.2.2.2.2.2.1.toNatClampNeg s0), (upd Y'_15.2.1 Y'_15.2.2.2.2.2.2.2.2.2.1.toNatClampNeg Y'_15.2.2.2.2.2.2.2.2.2.2), (upd Y'_15.2.2.1 Y'_15.2.2.2.2.2.2.2.2.2.1.toNatClampNeg n0), Y'_15.2.2.2.1, Y'_15.2.2.2.2.1, cz, Y'_15.2.2.2.2.2.2.1, Y'_15.2.2.2.2.2.2.2.1, Y'_15.2.2.2.2.2.2.2.2.1, (Y'_15.2.2.2.2.2.2.2.2.2.1 + 1), (Y'_15.2.2.2.2.2.2.2.2.2.2 + n0)), pa'_16, kp'_17, rfl, rfl, (by exact mk_end rel1 hk1 pre3 hrm1 hle1 hgr1 (fun j h9 => z2 j (Nat.lt_of_lt_of_le h9 (i32_le (by assumption)))) z3)⟩
          · show _
            refine lv_aload_n hx hb dX12_make_76 rfl (lv_at hl 0 rfl) ?_
            refine va_get (D := (dC, dI)) (ci := 14) (v := .ref (Y'_15.2.2.2.2.2.2.1 5)) (C := RX12) (T := TX12) (N := 21) hx hb hg inG12 hown hK hP 0 rfl rfl 5 (by decide) (hg _ wF_X12_26) (fun _ h9 => h9) rfl dX12_make_77 ?_
            refine lv_aload_n hx hb dX12_make_80 rfl (lv_at hl 0 rfl) ?_
            refine va_get (D := (dC, dI)) (ci := 14) (v := .int Y'_15.2.2.2.2.2.2.2.2.2.2) (C := RX12) (T := TX12) (N := 21) hx hb hg inG12 hown hK hP 0 rfl rfl 7 (by decide) (hg _ wF_X12_58) (fun _ h9 => h9) rfl dX12_make_81 ?_
            refine lv_iload hx hb dX12_make_84 (lv_at hl 4 rfl) ?_
            refine lv_iadd hx hb dX12_make_86 ?_
            refine lv_lconst (v := 0) hx hb dX12_make_87 (by decide) ?_
            refine va_last hx hb hK hP hD hS 6 2 rfl rfl (by exact (mk_z (Y := Y'_15) hL1 pre3 hrm1.2 z0 (by assumption)).2) dX12_make_88 (fun H locs hP hD hS => ?_)
            have hP : va_P (dC, dI) vwCl (rW g ty ((upd Y'_15.1 Y'_15.2.2.2.2.2.2.2.2.2.1.toNatClampNeg s0), (upd Y'_15.2.1 Y'_15.2.2.2.2.2.2.2.2.2.1.toNatClampNeg Y'_15.2.2.2.2.2.2.2.2.2.2), (upd Y'_15.2.2.1 Y'_15.2.2.2.2.2.2.2.2.2.1.toNatClampNeg n0), Y'_15.2.2.2.1, Y'_15.2.2.2.2.1, (vp_updL cz (Y'_15.2.2.2.2.2.2.2.2.2.2 + kz).toNatClampNeg 0), Y'_15.2.2.2.2.2.2.1, Y'_15.2.2.2.2.2.2.2.1, Y'_15.2.2.2.2.2.2.2.2.1, (Y'_15.2.2.2.2.2.2.2.2.2.1 + 1), Y'_15.2.2.2.2.2.2.2.2.2.2) pa'_16 kp'_17 ks I tl ac wr tw) H := hP
            have hD : va_D A (rW g ty ((upd Y'_15.1 Y'_15.2.2.2.2.2.2.2.2.2.1.toNatClampNeg s0), (upd Y'_15.2.1 Y'_15.2.2.2.2.2.2.2.2.2.1.toNatClampNeg Y'_15.2.2.2.2.2.2.2.2.2.2), (upd Y'_15.2.2.1 Y'_15.2.2.2.2.2.2.2.2.2.1.toNatClampNeg n0), Y'_15.2.2.2.1, Y'_15.2.2.2.2.1, (vp_updL cz (Y'_15.2.2.2.2.2.2.2.2.2.2 + kz).toNatClampNeg 0), Y'_15.2.2.2.2.2.2.1, Y'_15.2.2.2.2.2.2.2.1, Y'_15.2.2.2.2.2.2.2.2.1, (Y'_15.2.2.2.2.2.2.2.2.2.1 + 1), Y'_15.2.2.2.2.2.2.2.2.2.2) pa'_16 kp'_17 ks I tl ac wr tw) := hD
            refine lv_iinc (v := (kz + 1)) (lv' := [(4, .int (kz + 1)), (0, .ref (g 8)), (1, .int s0), (2, .int n0), (3, .int Y'_15.2.2.2.2.2.2.2.2.2.1)]) hx hb dX12_make_89 hl (k := 4) rfl rfl (by decide) rfl (fun ls hl => ?_)
            refine lv_goto (tgt := 70) hx hb dX12_make_92 (by decide) ?_
            exact IH70 _ (by rw [← hN70]; exact th_dec z0 (by assumption)) (kz + 1) (vp_updL cz (Y'_15.2.2.2.2.2.2.2.2.2.2 + kz).toNatClampNeg 0) _ _ _ rfl (by exact k1_nn z0 (by assumption)) (by exact k1_le (by assumption)) (by exact mk_u1 (t := 0) z0 (by assumption) (mk_z (Y := Y'_15) hL1 pre3 hrm1.2 z0 (by assumption)).1 z2) (by exact mk_u2 (mk_z (Y := Y'_15) hL1 pre3 hrm1.2 z0 (by assumption)).1 z3) hP hD hS (lv_sub hl [1, 2, 3, 4, 0] rfl)
      exact LOOP70 _ 0 Y'_15.2.2.2.2.2.1 _ _ _ rfl (by decide) (by exact pre3.1) (by exact fun j hj => absurd hj (Nat.not_lt_zero j)) (by exact fun _ _ => rfl) hP hD hS (lv_sub hl [2, 3, 4, 1, 0] rfl)

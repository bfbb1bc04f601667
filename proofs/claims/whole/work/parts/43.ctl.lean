set_option maxHeartbeats 800000 in
set_option maxRecDepth 100000 in
theorem c_X11_closeAllBlocks (l : Launch) (dC : Nat → ClassId) (dI : Nat → Nat → Nat) (g : Nat → Nat) (ty : Nat → ClassId) (sz : Nat) (pl : Nat → Option Nat) (ac : Int64) (ft : Int32) (md : Int32) (Z : cZ) (P : cQ) (pre0 : zOk Z) : Met l yX11_closeAllBlocks (Cond.code yX11_closeAllBlocks cX11_closeAllBlocks 2 none :: gT) ({ frames := 2, cells := 0, slots := 0, locals := 40 }) (cP (dC, dI) (cTy ty) (cW g ty pl ac ft md Z P) sz [.ref (g 0)]) (va_Qv (fun (u : cZ) => (zAll (Z.2.2.2.2.2.2.2.2.2.2.2).toNatClampNeg Z) = u) (cB (dC, dI) (fun u : cZ => cW g ty pl ac ft md u P) (va_A (cW g ty pl ac ft md Z P) sz)) (va_A (cW g ty pl ac ft md Z P) sz)) 0 0 (va_A (cW g ty pl ac ft md Z P) sz) := by
  refine cc_of (Qa := fun A => va_Qv (fun (u : cZ) => (zAll (Z.2.2.2.2.2.2.2.2.2.2.2).toNatClampNeg Z) = u) (cB (dC, dI) (fun u : cZ => cW g ty pl ac ft md u P) A) A) (by decide) (Nat.le_of_ble_eq_true rfl) ?_
  intro p e s m below meth c A hx hb hr hml hown hg hlk hmn hP hK hD hT hS hA hsz ls hl
  have hown : s.vm.findClass RX11 = some m.cls := hown
  have hl : lv_has ls 2 [(0, .ref (g 0))] := hl
  refine lv_aload_n hx hb dX11_closeAllBlocks_0 rfl (lv_at hl 0 rfl) ?_
  refine va_get (D := (dC, dI)) (ci := 13) (v := .ref (g 3)) (C := RX11) (T := TX11) (N := 12) hx hb hg inG11 hown hK hP 0 rfl rfl 2 (by decide) (hg _ wF_X11_22) (fun _ h9 => h9) rfl dX11_closeAllBlocks_1 ?_
  refine va_getN (D := (dC, dI)) (ci := 6) (v := .int Z.2.2.2.2.2.2.2.2.2.2.2) (C := RX1) (T := TX1) (N := 5) hx hb hg inG1 hown hK hP 3 rfl rfl 4 (by decide) (va_Nw.use (A := _) rfl (hT.1 0 (by decide))) (fun _ h9 => h9) rfl dX11_closeAllBlocks_4 ?_
  refine lv_istore_n (lv' := [(1, .int Z.2.2.2.2.2.2.2.2.2.2.2), (0, .ref (g 0))]) hx hb dX11_closeAllBlocks_7 rfl hl (by decide) rfl (fun ls hl => ?_)
  have LOOP : ∀ (N : Nat) (n1 : Int32) (Z1 : cZ) (H : Heap) (locs : List Loc) (ls : Array Slot), n1.toNatClampNeg = N → (zOk Z1) → (zAll n1.toNatClampNeg Z1 = zAll (Z.2.2.2.2.2.2.2.2.2.2.2).toNatClampNeg Z) → va_P (dC, dI) vwCl (cW g ty pl ac ft md Z1 P) H → va_D A (cW g ty pl ac ft md Z1 P) → va_S A s.heap H locs → lv_has ls 2 [(1, .int n1), (0, .ref (g 0))] → W p l e ({ frames := 2, cells := 0, slots := 0, locals := 40 }) s m ([.ref (g 0)]).toArray below meth c H locs 0 0 (MQ below (va_Qv (fun (u : cZ) => (zAll (Z.2.2.2.2.2.2.2.2.2.2.2).toNatClampNeg Z) = u) (cB (dC, dI) (fun u : cZ => cW g ty pl ac ft md u P) A) A) ([.ref (g 0)]).toArray s 0 0 A) (F0 m 8 ls []) := by
    intro N
    induction N using Nat.strongRecOn with
    | _ N IH =>
      intro n1 Z1 H locs ls hN i0 i1 hP hD hS hl
      refine lv_iload_n hx hb dX11_closeAllBlocks_8 rfl (lv_at hl 0 rfl) ?_
      refine lv_if_le (tgt := 22) hx hb dX11_closeAllBlocks_9 (by decide) (fun c_1 => ?_) (fun c_1 => ?_)
      · show _
        refine cr_v (wo := fun u : cZ => cW g ty pl ac ft md u P) (Z1) hx hb hr hlk hS hP hD ?_ dX11_closeAllBlocks_22
        exact (by exact zAll_end (by assumption) i1)
      · show _
        refine lv_aload_n hx hb dX11_closeAllBlocks_12 rfl (lv_at hl 1 rfl) ?_
        refine cV_v (C := RX11) (n := 0) (rest := []) hx hb hml hown hg hT (cf_X11_closeBlock l dC dI g ty H.size pl ac ft md Z1 P  (by assumption)) (cv_of hg wM_X11_143 wN_X11_closeBlock wL_X11_X11_closeBlock wK_X11_closeBlock wI_X11 (by decide +kernel) ⟨Nat.le_of_ble_eq_true rfl, Nat.le_of_ble_eq_true rfl⟩) hK hP hD hS hA (va_recv hK hP (ci := 13) (q0 := 0) rfl rfl) rfl hl.1 rfl (Nat.le_of_ble_eq_true rfl) dX11_closeAllBlocks_13 ⟨Nat.le_of_ble_eq_true rfl, Nat.le_of_ble_eq_true rfl⟩ (fun u_4 H locs q_2 hP hD hS => ?_)
        obtain rfl := q_2
        have hP : va_P (dC, dI) vwCl (cW g ty pl ac ft md (zClose Z1) P) H := hP
        have hD : va_D A (cW g ty pl ac ft md (zClose Z1) P) := hD
        refine lv_iinc (v := (n1 + (-1))) (lv' := [(1, .int (n1 + (-1))), (0, .ref (g 0))]) hx hb dX11_closeAllBlocks_16 hl (k := 0) rfl rfl (by decide) rfl (fun ls hl => ?_)
        refine lv_goto (tgt := 8) hx hb dX11_closeAllBlocks_19 (by decide) ?_
        exact IH _ (by exact hN ▸ down_lt (by assumption)) (n1 + (-1)) (zClose Z1) _ _ _ rfl (by exact zok_close i0) (by exact zAll_step (by assumption) i1) hP hD hS (lv_sub hl [0, 1] rfl)
  exact LOOP _ Z.2.2.2.2.2.2.2.2.2.2.2 Z _ _ _ rfl (by exact pre0) (by rfl) hP hD hS (lv_sub hl [0, 1] rfl)
set_option maxHeartbeats 800000 in
set_option maxRecDepth 100000 in
theorem c_X11_leaveFinishedBlocks (l : Launch) (dC : Nat → ClassId) (dI : Nat → Nat → Nat) (g : Nat → Nat) (ty : Nat → ClassId) (sz : Nat) (pl : Nat → Option Nat) (ac : Int64) (ft : Int32) (md : Int32) (Z : cZ) (P : cQ) (pre0 : zOk Z) : Met l yX11_leaveFinishedBlocks (Cond.code yX11_leaveFinishedBlocks cX11_leaveFinishedBlocks 2 none :: gT) ({ frames := 2, cells := 0, slots := 0, locals := 40 }) (cP (dC, dI) (cTy ty) (cW g ty pl ac ft md Z P) sz [.ref (g 0)]) (va_Qv (fun (u : cZ) => (zLeave (Z.2.2.2.2.2.2.2.2.2.2.2).toNatClampNeg Z) = u) (cB (dC, dI) (fun u : cZ => cW g ty pl ac ft md u P) (va_A (cW g ty pl ac ft md Z P) sz)) (va_A (cW g ty pl ac ft md Z P) sz)) 0 0 (va_A (cW g ty pl ac ft md Z P) sz) := by
  refine cc_of (Qa := fun A => va_Qv (fun (u : cZ) => (zLeave (Z.2.2.2.2.2.2.2.2.2.2.2).toNatClampNeg Z) = u) (cB (dC, dI) (fun u : cZ => cW g ty pl ac ft md u P) A) A) (by decide) (Nat.le_of_ble_eq_true rfl) ?_
  intro p e s m below meth c A hx hb hr hml hown hg hlk hmn hP hK hD hT hS hA hsz ls hl
  have hown : s.vm.findClass RX11 = some m.cls := hown
  have hl : lv_has ls 2 [(0, .ref (g 0))] := hl
  refine lv_aload_n hx hb dX11_leaveFinishedBlocks_0 rfl (lv_at hl 0 rfl) ?_
  refine va_get (D := (dC, dI)) (ci := 13) (v := .ref (g 3)) (C := RX11) (T := TX11) (N := 12) hx hb hg inG11 hown hK hP 0 rfl rfl 2 (by decide) (hg _ wF_X11_22) (fun _ h9 => h9) rfl dX11_leaveFinishedBlocks_1 ?_
  refine va_getN (D := (dC, dI)) (ci := 6) (v := .int Z.2.2.2.2.2.2.2.2.2.2.2) (C := RX1) (T := TX1) (N := 5) hx hb hg inG1 hown hK hP 3 rfl rfl 4 (by decide) (va_Nw.use (A := _) rfl (hT.1 0 (by decide))) (fun _ h9 => h9) rfl dX11_leaveFinishedBlocks_4 ?_
  refine lv_istore_n (lv' := [(1, .int Z.2.2.2.2.2.2.2.2.2.2.2), (0, .ref (g 0))]) hx hb dX11_leaveFinishedBlocks_7 rfl hl (by decide) rfl (fun ls hl => ?_)
  have LOOP : ∀ (N : Nat) (n1 : Int32) (Z1 : cZ) (H : Heap) (locs : List Loc) (ls : Array Slot), n1.toNatClampNeg = N → (zOk Z1) → (zLeave n1.toNatClampNeg Z1 = zLeave (Z.2.2.2.2.2.2.2.2.2.2.2).toNatClampNeg Z) → va_P (dC, dI) vwCl (cW g ty pl ac ft md Z1 P) H → va_D A (cW g ty pl ac ft md Z1 P) → va_S A s.heap H locs → lv_has ls 2 [(1, .int n1), (0, .ref (g 0))] → W p l e ({ frames := 2, cells := 0, slots := 0, locals := 40 }) s m ([.ref (g 0)]).toArray below meth c H locs 0 0 (MQ below (va_Qv (fun (u : cZ) => (zLeave (Z.2.2.2.2.2.2.2.2.2.2.2).toNatClampNeg Z) = u) (cB (dC, dI) (fun u : cZ => cW g ty pl ac ft md u P) A) A) ([.ref (g 0)]).toArray s 0 0 A) (F0 m 8 ls []) := by
    intro N
    induction N using Nat.strongRecOn with
    | _ N IH =>
      intro n1 Z1 H locs ls hN i0 i1 hP hD hS hl
      refine lv_iload_n hx hb dX11_leaveFinishedBlocks_8 rfl (lv_at hl 0 rfl) ?_
      refine lv_if_le (tgt := 58) hx hb dX11_leaveFinishedBlocks_9 (by decide) (fun c_1 => ?_) (fun c_1 => ?_)
      · show _
        refine cr_v (wo := fun u : cZ => cW g ty pl ac ft md u P) (Z1) hx hb hr hlk hS hP hD ?_ dX11_leaveFinishedBlocks_58
        exact (by first | (have h9 : n1 ≤ 0 := (by assumption); exact zLeave_end h9 i1) | (have h9 : Z1.2.1 < zEnd Z1 := (by assumption); exact zLeave_no (by assumption) h9 i1) | (have h9 : zDue Z1 = true := (by assumption); exact zLeave_due (by assumption) (by assumption) h9 i1))
      · show _
        refine lv_aload_n hx hb dX11_leaveFinishedBlocks_12 rfl (lv_at hl 1 rfl) ?_
        refine va_get (D := (dC, dI)) (ci := 13) (v := .int Z1.2.1) (C := RX11) (T := TX11) (N := 12) hx hb hg inG11 hown hK hP 0 rfl rfl 5 (by decide) (hg _ wF_X11_59) (fun _ h9 => h9) rfl dX11_leaveFinishedBlocks_13 ?_
        refine lv_aload_n hx hb dX11_leaveFinishedBlocks_16 rfl (lv_at hl 1 rfl) ?_
        refine va_get (D := (dC, dI)) (ci := 13) (v := .ref (g 3)) (C := RX11) (T := TX11) (N := 12) hx hb hg inG11 hown hK hP 0 rfl rfl 2 (by decide) (hg _ wF_X11_22) (fun _ h9 => h9) rfl dX11_leaveFinishedBlocks_17 ?_
        refine cV_i (C := RX1) (n := 0) (rest := [.int Z1.2.1]) hx hb hml hown hg hT (cf_X1_innerEnd l dC dI g ty H.size pl ac ft md Z1 P  (by assumption)) (cv_of hg wM_X11_129 wN_X1_innerEnd wL_X1_X1_innerEnd wK_X1_innerEnd wI_X1 (by decide +kernel) ⟨Nat.le_of_ble_eq_true rfl, Nat.le_of_ble_eq_true rfl⟩) hK hP hD hS hA (va_recv hK hP (ci := 6) (q0 := 3) rfl rfl) rfl hl.1 rfl (Nat.le_of_ble_eq_true rfl) dX11_leaveFinishedBlocks_20 ⟨Nat.le_of_ble_eq_true rfl, Nat.le_of_ble_eq_true rfl⟩ (fun r_3 u_4 H locs q_2 hP hD hS => ?_)
        obtain rfl := q_2
        have hP : va_P (dC, dI) vwCl (cW g ty pl ac ft md Z1 P) H := hP
        have hD : va_D A (cW g ty pl ac ft md Z1 P) := hD
        refine lv_icmp_lt (tgt := 58) hx hb dX11_leaveFinishedBlocks_23 (by decide) (fun c_5 => ?_) (fun c_5 => ?_)
        · show _
          refine cr_v (wo := fun u : cZ => cW g ty pl ac ft md u P) (Z1) hx hb hr hlk hS hP hD ?_ dX11_leaveFinishedBlocks_58
          exact (by first | (have h9 : n1 ≤ 0 := (by assumption); exact zLeave_end h9 i1) | (have h9 : Z1.2.1 < zEnd Z1 := (by assumption); exact zLeave_no (by assumption) h9 i1) | (have h9 : zDue Z1 = true := (by assumption); exact zLeave_due (by assumption) (by assumption) h9 i1))
        · show _
          refine lv_aload_n hx hb dX11_leaveFinishedBlocks_26 rfl (lv_at hl 1 rfl) ?_
          refine va_get (D := (dC, dI)) (ci := 13) (v := .ref (g 3)) (C := RX11) (T := TX11) (N := 12) hx hb hg inG11 hown hK hP 0 rfl rfl 2 (by decide) (hg _ wF_X11_22) (fun _ h9 => h9) rfl dX11_leaveFinishedBlocks_27 ?_
          refine cV_i (C := RX1) (n := 0) (rest := []) hx hb hml hown hg hT (cf_X1_takeTurn l dC dI g ty H.size pl ac ft md Z1 P  (by assumption)) (cv_of hg wM_X11_136 wN_X1_takeTurn wL_X1_X1_takeTurn wK_X1_takeTurn wI_X1 (by decide +kernel) ⟨Nat.le_of_ble_eq_true rfl, Nat.le_of_ble_eq_true rfl⟩) hK hP hD hS hA (va_recv hK hP (ci := 6) (q0 := 3) rfl rfl) rfl hl.1 rfl (Nat.le_of_ble_eq_true rfl) dX11_leaveFinishedBlocks_30 ⟨Nat.le_of_ble_eq_true rfl, Nat.le_of_ble_eq_true rfl⟩ (fun r_7 u_8 H locs q_6 hP hD hS => ?_)
          rcases q_6 with ⟨rfl, rfl, f_9⟩ | ⟨rfl, rfl, f_10⟩
          · show _
            have hP : va_P (dC, dI) vwCl (cW g ty pl ac ft md Z1 P) H := hP
            have hD : va_D A (cW g ty pl ac ft md Z1 P) := hD
            refine lv_if_eq (tgt := 48) hx hb dX11_leaveFinishedBlocks_33 (by decide) (fun _ => ?_) (fun c9 => absurd (by decide) c9) 
            refine lv_aload_n hx hb dX11_leaveFinishedBlocks_48 rfl (lv_at hl 1 rfl) ?_
            refine cV_v (C := RX11) (n := 0) (rest := []) hx hb hml hown hg hT (cf_X11_closeBlock l dC dI g ty H.size pl ac ft md Z1 P  (by assumption)) (cv_of hg wM_X11_143 wN_X11_closeBlock wL_X11_X11_closeBlock wK_X11_closeBlock wI_X11 (by decide +kernel) ⟨Nat.le_of_ble_eq_true rfl, Nat.le_of_ble_eq_true rfl⟩) hK hP hD hS hA (va_recv hK hP (ci := 13) (q0 := 0) rfl rfl) rfl hl.1 rfl (Nat.le_of_ble_eq_true rfl) dX11_leaveFinishedBlocks_49 ⟨Nat.le_of_ble_eq_true rfl, Nat.le_of_ble_eq_true rfl⟩ (fun u_13 H locs q_11 hP hD hS => ?_)
            obtain rfl := q_11
            have hP : va_P (dC, dI) vwCl (cW g ty pl ac ft md (zClose Z1) P) H := hP
            have hD : va_D A (cW g ty pl ac ft md (zClose Z1) P) := hD
            refine lv_iinc (v := (n1 + (-1))) (lv' := [(1, .int (n1 + (-1))), (0, .ref (g 0))]) hx hb dX11_leaveFinishedBlocks_52 hl (k := 0) rfl rfl (by decide) rfl (fun ls hl => ?_)
            refine lv_goto (tgt := 8) hx hb dX11_leaveFinishedBlocks_55 (by decide) ?_
            exact IH _ (by exact hN ▸ down_lt (by assumption)) (n1 + (-1)) (zClose Z1) _ _ _ rfl (by exact zok_close i0) (by exact zLeave_step (by assumption) (by assumption) (by assumption) i1) hP hD hS (lv_sub hl [0, 1] rfl)
          · show _
            have hP : va_P (dC, dI) vwCl (cW g ty pl ac ft md (zTurn Z1) P) H := hP
            have hD : va_D A (cW g ty pl ac ft md (zTurn Z1) P) := hD
            refine lv_if_eq (tgt := 48) hx hb dX11_leaveFinishedBlocks_33 (by decide) (fun c9 => absurd c9 (by decide)) (fun _ => ?_)
            refine lv_aload_n hx hb dX11_leaveFinishedBlocks_36 rfl (lv_at hl 1 rfl) ?_
            refine lv_aload_n hx hb dX11_leaveFinishedBlocks_37 rfl (lv_at hl 1 rfl) ?_
            refine va_get (D := (dC, dI)) (ci := 13) (v := .ref (g 3)) (C := RX11) (T := TX11) (N := 12) hx hb hg inG11 hown hK hP 0 rfl rfl 2 (by decide) (hg _ wF_X11_22) (fun _ h9 => h9) rfl dX11_leaveFinishedBlocks_38 ?_
            refine cV_i (C := RX1) (n := 0) (rest := [.ref (g 0)]) hx hb hml hown hg hT (cf_X1_innerStart l dC dI g ty H.size pl ac ft md (zTurn Z1) P  (by exact zok_turn i0)) (cv_of hg wM_X11_140 wN_X1_innerStart wL_X1_X1_innerStart wK_X1_innerStart wI_X1 (by decide +kernel) ⟨Nat.le_of_ble_eq_true rfl, Nat.le_of_ble_eq_true rfl⟩) hK hP hD hS hA (va_recv hK hP (ci := 6) (q0 := 3) rfl rfl) rfl hl.1 rfl (Nat.le_of_ble_eq_true rfl) dX11_leaveFinishedBlocks_41 ⟨Nat.le_of_ble_eq_true rfl, Nat.le_of_ble_eq_true rfl⟩ (fun r_15 u_16 H locs q_14 hP hD hS => ?_)
            obtain rfl := q_14
            have hP : va_P (dC, dI) vwCl (cW g ty pl ac ft md (zTurn Z1) P) H := hP
            have hD : va_D A (cW g ty pl ac ft md (zTurn Z1) P) := hD
            refine va_put (D := (dC, dI)) (ci := 13) (v := .int (zSta (zTurn Z1))) (ty := .int) (C := RX11) (T := TX11) (N := 12) hx hb hg inG11 tyX11 tyX11_ok nmX11 hown hK hP hD hS 0 rfl rfl 5 (by decide) (hg _ wF_X11_59) (fun _ h9 => h9) rfl (by decide +kernel) rfl rfl (Nat.le_of_ble_eq_true rfl) dX11_leaveFinishedBlocks_44 (fun H locs hP hD hS => ?_)
            have hP : va_P (dC, dI) vwCl (cW g ty pl ac ft md ((zTurn Z1).1, zSta (zTurn Z1), (zTurn Z1).2.2.1, (zTurn Z1).2.2.2.1, (zTurn Z1).2.2.2.2.1, (zTurn Z1).2.2.2.2.2.1, (zTurn Z1).2.2.2.2.2.2.1, (zTurn Z1).2.2.2.2.2.2.2.1, (zTurn Z1).2.2.2.2.2.2.2.2.1, (zTurn Z1).2.2.2.2.2.2.2.2.2.1, (zTurn Z1).2.2.2.2.2.2.2.2.2.2.1, (zTurn Z1).2.2.2.2.2.2.2.2.2.2.2) P) H := hP
            have hD : va_D A (cW g ty pl ac ft md ((zTurn Z1).1, zSta (zTurn Z1), (zTurn Z1).2.2.1, (zTurn Z1).2.2.2.1, (zTurn Z1).2.2.2.2.1, (zTurn Z1).2.2.2.2.2.1, (zTurn Z1).2.2.2.2.2.2.1, (zTurn Z1).2.2.2.2.2.2.2.1, (zTurn Z1).2.2.2.2.2.2.2.2.1, (zTurn Z1).2.2.2.2.2.2.2.2.2.1, (zTurn Z1).2.2.2.2.2.2.2.2.2.2.1, (zTurn Z1).2.2.2.2.2.2.2.2.2.2.2) P) := hD
            refine cr_v (wo := fun u : cZ => cW g ty pl ac ft md u P) (((zTurn Z1).1, zSta (zTurn Z1), (zTurn Z1).2.2.1, (zTurn Z1).2.2.2.1, (zTurn Z1).2.2.2.2.1, (zTurn Z1).2.2.2.2.2.1, (zTurn Z1).2.2.2.2.2.2.1, (zTurn Z1).2.2.2.2.2.2.2.1, (zTurn Z1).2.2.2.2.2.2.2.2.1, (zTurn Z1).2.2.2.2.2.2.2.2.2.1, (zTurn Z1).2.2.2.2.2.2.2.2.2.2.1, (zTurn Z1).2.2.2.2.2.2.2.2.2.2.2)) hx hb hr hlk hS hP hD ?_ dX11_leaveFinishedBlocks_47
            exact (by first | (have h9 : n1 ≤ 0 := (by assumption); exact zLeave_end h9 i1) | (have h9 : Z1.2.1 < zEnd Z1 := (by assumption); exact zLeave_no (by assumption) h9 i1) | (have h9 : zDue Z1 = true := (by assumption); exact zLeave_due (by assumption) (by assumption) h9 i1))
  exact LOOP _ Z.2.2.2.2.2.2.2.2.2.2.2 Z _ _ _ rfl (by exact pre0) (by rfl) hP hD hS (lv_sub hl [0, 1] rfl)
set_option maxHeartbeats 800000 in
set_option maxRecDepth 100000 in
theorem c_X11_unwind (l : Launch) (dC : Nat → ClassId) (dI : Nat → Nat → Nat) (g : Nat → Nat) (ty : Nat → ClassId) (sz : Nat) (pl : Nat → Option Nat) (ac : Int64) (ft : Int32) (md : Int32) (Z : cZ) (P : cQ) (pre0 : zOk Z) : Met l yX11_unwind (Cond.code yX11_unwind cX11_unwind 3 none :: gT) ({ frames := 2, cells := 0, slots := 0, locals := 40 }) (cP (dC, dI) (cTy ty) (cW g ty pl ac ft md Z P) sz [.ref (g 0)]) (va_Qv (fun (u : Int64 × Int32 × cZ) => ((zUnw (Z.2.2.2.2.2.2.2.2.2.2.2).toNatClampNeg ac ft Z).1, (zUnw (Z.2.2.2.2.2.2.2.2.2.2.2).toNatClampNeg ac ft Z).2.1, (zUnw (Z.2.2.2.2.2.2.2.2.2.2.2).toNatClampNeg ac ft Z).2.2) = u) (cB (dC, dI) (fun u : Int64 × Int32 × cZ => cW g ty pl u.1 u.2.1 md u.2.2 P) (va_A (cW g ty pl ac ft md Z P) sz)) (va_A (cW g ty pl ac ft md Z P) sz)) 0 0 (va_A (cW g ty pl ac ft md Z P) sz) := by
  refine cc_of (Qa := fun A => va_Qv (fun (u : Int64 × Int32 × cZ) => ((zUnw (Z.2.2.2.2.2.2.2.2.2.2.2).toNatClampNeg ac ft Z).1, (zUnw (Z.2.2.2.2.2.2.2.2.2.2.2).toNatClampNeg ac ft Z).2.1, (zUnw (Z.2.2.2.2.2.2.2.2.2.2.2).toNatClampNeg ac ft Z).2.2) = u) (cB (dC, dI) (fun u : Int64 × Int32 × cZ => cW g ty pl u.1 u.2.1 md u.2.2 P) A) A) (by decide) (Nat.le_of_ble_eq_true rfl) ?_
  intro p e s m below meth c A hx hb hr hml hown hg hlk hmn hP hK hD hT hS hA hsz ls hl
  have hown : s.vm.findClass RX11 = some m.cls := hown
  have hl : lv_has ls 3 [(0, .ref (g 0))] := hl
  refine lv_aload_n hx hb dX11_unwind_0 rfl (lv_at hl 0 rfl) ?_
  refine va_get (D := (dC, dI)) (ci := 13) (v := .ref (g 3)) (C := RX11) (T := TX11) (N := 12) hx hb hg inG11 hown hK hP 0 rfl rfl 2 (by decide) (hg _ wF_X11_22) (fun _ h9 => h9) rfl dX11_unwind_1 ?_
  refine va_getN (D := (dC, dI)) (ci := 6) (v := .int Z.2.2.2.2.2.2.2.2.2.2.2) (C := RX1) (T := TX1) (N := 5) hx hb hg inG1 hown hK hP 3 rfl rfl 4 (by decide) (va_Nw.use (A := _) rfl (hT.1 0 (by decide))) (fun _ h9 => h9) rfl dX11_unwind_4 ?_
  refine lv_istore_n (lv' := [(1, .int Z.2.2.2.2.2.2.2.2.2.2.2), (0, .ref (g 0))]) hx hb dX11_unwind_7 rfl hl (by decide) rfl (fun ls hl => ?_)
  have LOOP : ∀ (N : Nat) (n1 : Int32) (Z1 : cZ) (H : Heap) (locs : List Loc) (ls : Array Slot), n1.toNatClampNeg = N → (zOk Z1) → (zUnw n1.toNatClampNeg ac ft Z1 = zUnw (Z.2.2.2.2.2.2.2.2.2.2.2).toNatClampNeg ac ft Z) → va_P (dC, dI) vwCl (cW g ty pl ac ft md Z1 P) H → va_D A (cW g ty pl ac ft md Z1 P) → va_S A s.heap H locs → lv_has ls 3 [(1, .int n1), (0, .ref (g 0))] → W p l e ({ frames := 2, cells := 0, slots := 0, locals := 40 }) s m ([.ref (g 0)]).toArray below meth c H locs 0 0 (MQ below (va_Qv (fun (u : Int64 × Int32 × cZ) => ((zUnw (Z.2.2.2.2.2.2.2.2.2.2.2).toNatClampNeg ac ft Z).1, (zUnw (Z.2.2.2.2.2.2.2.2.2.2.2).toNatClampNeg ac ft Z).2.1, (zUnw (Z.2.2.2.2.2.2.2.2.2.2.2).toNatClampNeg ac ft Z).2.2) = u) (cB (dC, dI) (fun u : Int64 × Int32 × cZ => cW g ty pl u.1 u.2.1 md u.2.2 P) A) A) ([.ref (g 0)]).toArray s 0 0 A) (F0 m 8 ls []) := by
    intro N
    induction N using Nat.strongRecOn with
    | _ N IH =>
      intro n1 Z1 H locs ls hN i0 i1 hP hD hS hl
      refine lv_iload_n hx hb dX11_unwind_8 rfl (lv_at hl 0 rfl) ?_
      refine lv_if_le (tgt := 101) hx hb dX11_unwind_9 (by decide) (fun c_1 => ?_) (fun c_1 => ?_)
      · show _
        refine lv_aload_n hx hb dX11_unwind_101 rfl (lv_at hl 1 rfl) ?_
        refine lv_sipush (v := 256) hx hb dX11_unwind_102 (by decide) ?_
        refine va_put (D := (dC, dI)) (ci := 13) (v := .int 256) (ty := .int) (C := RX11) (T := TX11) (N := 12) hx hb hg inG11 tyX11 tyX11_ok nmX11 hown hK hP hD hS 0 rfl rfl 5 (by decide) (hg _ wF_X11_59) (fun _ h9 => h9) rfl (by decide +kernel) rfl rfl (Nat.le_of_ble_eq_true rfl) dX11_unwind_105 (fun H locs hP hD hS => ?_)
        have hP : va_P (dC, dI) vwCl (cW g ty pl ac ft md (Z1.1, 256, Z1.2.2.1, Z1.2.2.2.1, Z1.2.2.2.2.1, Z1.2.2.2.2.2.1, Z1.2.2.2.2.2.2.1, Z1.2.2.2.2.2.2.2.1, Z1.2.2.2.2.2.2.2.2.1, Z1.2.2.2.2.2.2.2.2.2.1, Z1.2.2.2.2.2.2.2.2.2.2.1, Z1.2.2.2.2.2.2.2.2.2.2.2) P) H := hP
        have hD : va_D A (cW g ty pl ac ft md (Z1.1, 256, Z1.2.2.1, Z1.2.2.2.1, Z1.2.2.2.2.1, Z1.2.2.2.2.2.1, Z1.2.2.2.2.2.2.1, Z1.2.2.2.2.2.2.2.1, Z1.2.2.2.2.2.2.2.2.1, Z1.2.2.2.2.2.2.2.2.2.1, Z1.2.2.2.2.2.2.2.2.2.2.1, Z1.2.2.2.2.2.2.2.2.2.2.2) P) := hD
        refine cr_v (wo := fun u : Int64 × Int32 × cZ => cW g ty pl u.1 u.2.1 md u.2.2 P) ((ac, ft, (Z1.1, 256, Z1.2.2.1, Z1.2.2.2.1, Z1.2.2.2.2.1, Z1.2.2.2.2.2.1, Z1.2.2.2.2.2.2.1, Z1.2.2.2.2.2.2.2.1, Z1.2.2.2.2.2.2.2.2.1, Z1.2.2.2.2.2.2.2.2.2.1, Z1.2.2.2.2.2.2.2.2.2.2.1, Z1.2.2.2.2.2.2.2.2.2.2.2))) hx hb hr hlk hS hP hD ?_ dX11_unwind_108
        exact (by first | (have h9 : n1 ≤ 0 := (by assumption); exact zUnw_end h9 i1) | (have h9 : ¬ n1 ≤ 0 := (by assumption); exact zUnw_got h9 (by assumption) i1))
      · show _
        refine lv_aload_n hx hb dX11_unwind_12 rfl (lv_at hl 1 rfl) ?_
        refine va_get (D := (dC, dI)) (ci := 13) (v := .ref (g 3)) (C := RX11) (T := TX11) (N := 12) hx hb hg inG11 hown hK hP 0 rfl rfl 2 (by decide) (hg _ wF_X11_22) (fun _ h9 => h9) rfl dX11_unwind_13 ?_
        refine cV_i (C := RX1) (n := 0) (rest := []) hx hb hml hown hg hT (cf_X1_innerCatch l dC dI g ty H.size pl ac ft md Z1 P  (by assumption)) (cv_of hg wM_X11_146 wN_X1_innerCatch wL_X1_X1_innerCatch wK_X1_innerCatch wI_X1 (by decide +kernel) ⟨Nat.le_of_ble_eq_true rfl, Nat.le_of_ble_eq_true rfl⟩) hK hP hD hS hA (va_recv hK hP (ci := 6) (q0 := 3) rfl rfl) rfl hl.1 rfl (Nat.le_of_ble_eq_true rfl) dX11_unwind_16 ⟨Nat.le_of_ble_eq_true rfl, Nat.le_of_ble_eq_true rfl⟩ (fun r_3 u_4 H locs q_2 hP hD hS => ?_)
        obtain rfl := q_2
        have hP : va_P (dC, dI) vwCl (cW g ty pl ac ft md Z1 P) H := hP
        have hD : va_D A (cW g ty pl ac ft md Z1 P) := hD
        refine lv_istore_n (lv' := [(2, .int (zCat Z1)), (1, .int n1), (0, .ref (g 0))]) hx hb dX11_unwind_19 rfl hl (by decide) rfl (fun ls hl => ?_)
        refine lv_aload_n hx hb dX11_unwind_20 rfl (lv_at hl 2 rfl) ?_
        refine lv_iload_n hx hb dX11_unwind_21 rfl (lv_at hl 0 rfl) ?_
        refine cV_i (C := RX11) (n := 1) (rest := []) hx hb hml hown hg hT (c_X11_isCaught l dC dI g ty H.size pl ac ft md Z1 P (zCat Z1) ) (cv_of hg wM_X11_152 wN_X11_isCaught wL_X11_X11_isCaught wK_X11_isCaught wI_X11 (by decide +kernel) ⟨Nat.le_of_ble_eq_true rfl, Nat.le_of_ble_eq_true rfl⟩) hK hP hD hS hA (va_recv hK hP (ci := 13) (q0 := 0) rfl rfl) rfl hl.1 rfl (Nat.le_of_ble_eq_true rfl) dX11_unwind_22 ⟨Nat.le_of_ble_eq_true rfl, Nat.le_of_ble_eq_true rfl⟩ (fun r_6 u_7 H locs q_5 hP hD hS => ?_)
        rcases q_5 with ⟨rfl, f_8⟩ | ⟨rfl, f_9⟩
        · show _
          have hP : va_P (dC, dI) vwCl (cW g ty pl ac ft md Z1 P) H := hP
          have hD : va_D A (cW g ty pl ac ft md Z1 P) := hD
          refine lv_if_eq (tgt := 72) hx hb dX11_unwind_25 (by decide) (fun c9 => absurd c9 (by decide)) (fun _ => ?_)
          refine lv_aload_n hx hb dX11_unwind_28 rfl (lv_at hl 2 rfl) ?_
          refine lv_aload_n hx hb dX11_unwind_29 rfl (lv_at hl 2 rfl) ?_
          refine va_get (D := (dC, dI)) (ci := 13) (v := .ref (g 3)) (C := RX11) (T := TX11) (N := 12) hx hb hg inG11 hown hK hP 0 rfl rfl 2 (by decide) (hg _ wF_X11_22) (fun _ h9 => h9) rfl dX11_unwind_30 ?_
          refine cV_i (C := RX1) (n := 0) (rest := [.ref (g 0)]) hx hb hml hown hg hT (cf_X1_innerEnd l dC dI g ty H.size pl ac ft md Z1 P  (by assumption)) (cv_of hg wM_X11_129 wN_X1_innerEnd wL_X1_X1_innerEnd wK_X1_innerEnd wI_X1 (by decide +kernel) ⟨Nat.le_of_ble_eq_true rfl, Nat.le_of_ble_eq_true rfl⟩) hK hP hD hS hA (va_recv hK hP (ci := 6) (q0 := 3) rfl rfl) rfl hl.1 rfl (Nat.le_of_ble_eq_true rfl) dX11_unwind_33 ⟨Nat.le_of_ble_eq_true rfl, Nat.le_of_ble_eq_true rfl⟩ (fun r_11 u_12 H locs q_10 hP hD hS => ?_)
          obtain rfl := q_10
          have hP : va_P (dC, dI) vwCl (cW g ty pl ac ft md Z1 P) H := hP
          have hD : va_D A (cW g ty pl ac ft md Z1 P) := hD
          refine va_put (D := (dC, dI)) (ci := 13) (v := .int (zEnd Z1)) (ty := .int) (C := RX11) (T := TX11) (N := 12) hx hb hg inG11 tyX11 tyX11_ok nmX11 hown hK hP hD hS 0 rfl rfl 5 (by decide) (hg _ wF_X11_59) (fun _ h9 => h9) rfl (by decide +kernel) rfl rfl (Nat.le_of_ble_eq_true rfl) dX11_unwind_36 (fun H locs hP hD hS => ?_)
          have hP : va_P (dC, dI) vwCl (cW g ty pl ac ft md (Z1.1, zEnd Z1, Z1.2.2.1, Z1.2.2.2.1, Z1.2.2.2.2.1, Z1.2.2.2.2.2.1, Z1.2.2.2.2.2.2.1, Z1.2.2.2.2.2.2.2.1, Z1.2.2.2.2.2.2.2.2.1, Z1.2.2.2.2.2.2.2.2.2.1, Z1.2.2.2.2.2.2.2.2.2.2.1, Z1.2.2.2.2.2.2.2.2.2.2.2) P) H := hP
          have hD : va_D A (cW g ty pl ac ft md (Z1.1, zEnd Z1, Z1.2.2.1, Z1.2.2.2.1, Z1.2.2.2.2.1, Z1.2.2.2.2.2.1, Z1.2.2.2.2.2.2.1, Z1.2.2.2.2.2.2.2.1, Z1.2.2.2.2.2.2.2.2.1, Z1.2.2.2.2.2.2.2.2.2.1, Z1.2.2.2.2.2.2.2.2.2.2.1, Z1.2.2.2.2.2.2.2.2.2.2.2) P) := hD
          refine lv_aload_n hx hb dX11_unwind_39 rfl (lv_at hl 2 rfl) ?_
          refine lv_ldc2 (v := (-1)) hx hb hown (hg _ wQ_X11_156) dX11_unwind_40 ?_
          refine lv_aload_n hx hb dX11_unwind_43 rfl (lv_at hl 2 rfl) ?_
          refine va_get (D := (dC, dI)) (ci := 13) (v := .int ft) (C := RX11) (T := TX11) (N := 12) hx hb hg inG11 hown hK hP 0 rfl rfl 4 (by decide) (hg _ wF_X11_26) (fun _ h9 => h9) rfl dX11_unwind_44 ?_
          refine lv_i2l (v := (ft.toInt64)) hx hb dX11_unwind_47 rfl ?_
          refine lv_lsub hx hb dX11_unwind_48 ?_
          refine va_put (D := (dC, dI)) (ci := 13) (v := .long ((-1) - (ft.toInt64))) (ty := .long) (C := RX11) (T := TX11) (N := 12) hx hb hg inG11 tyX11 tyX11_ok nmX11 hown hK hP hD hS 0 rfl rfl 3 (by decide) (hg _ wF_X11_68) (fun _ h9 => h9) rfl (by decide +kernel) rfl rfl (Nat.le_of_ble_eq_true rfl) dX11_unwind_49 (fun H locs hP hD hS => ?_)
          have hP : va_P (dC, dI) vwCl (cW g ty pl ((-1) - (ft.toInt64)) ft md (Z1.1, zEnd Z1, Z1.2.2.1, Z1.2.2.2.1, Z1.2.2.2.2.1, Z1.2.2.2.2.2.1, Z1.2.2.2.2.2.2.1, Z1.2.2.2.2.2.2.2.1, Z1.2.2.2.2.2.2.2.2.1, Z1.2.2.2.2.2.2.2.2.2.1, Z1.2.2.2.2.2.2.2.2.2.2.1, Z1.2.2.2.2.2.2.2.2.2.2.2) P) H := hP
          have hD : va_D A (cW g ty pl ((-1) - (ft.toInt64)) ft md (Z1.1, zEnd Z1, Z1.2.2.1, Z1.2.2.2.1, Z1.2.2.2.2.1, Z1.2.2.2.2.2.1, Z1.2.2.2.2.2.2.1, Z1.2.2.2.2.2.2.2.1, Z1.2.2.2.2.2.2.2.2.1, Z1.2.2.2.2.2.2.2.2.2.1, Z1.2.2.2.2.2.2.2.2.2.2.1, Z1.2.2.2.2.2.2.2.2.2.2.2) P) := hD
          refine lv_aload_n hx hb dX11_unwind_52 rfl (lv_at hl 2 rfl) ?_
          refine lv_iconst (v := (-1)) hx hb dX11_unwind_53 (by decide) ?_
          refine va_put (D := (dC, dI)) (ci := 13) (v := .int (-1)) (ty := .int) (C := RX11) (T := TX11) (N := 12) hx hb hg inG11 tyX11 tyX11_ok nmX11 hown hK hP hD hS 0 rfl rfl 4 (by decide) (hg _ wF_X11_26) (fun _ h9 => h9) rfl (by decide +kernel) rfl rfl (Nat.le_of_ble_eq_true rfl) dX11_unwind_54 (fun H locs hP hD hS => ?_)
          have hP : va_P (dC, dI) vwCl (cW g ty pl ((-1) - (ft.toInt64)) (-1) md (Z1.1, zEnd Z1, Z1.2.2.1, Z1.2.2.2.1, Z1.2.2.2.2.1, Z1.2.2.2.2.2.1, Z1.2.2.2.2.2.2.1, Z1.2.2.2.2.2.2.2.1, Z1.2.2.2.2.2.2.2.2.1, Z1.2.2.2.2.2.2.2.2.2.1, Z1.2.2.2.2.2.2.2.2.2.2.1, Z1.2.2.2.2.2.2.2.2.2.2.2) P) H := hP
          have hD : va_D A (cW g ty pl ((-1) - (ft.toInt64)) (-1) md (Z1.1, zEnd Z1, Z1.2.2.1, Z1.2.2.2.1, Z1.2.2.2.2.1, Z1.2.2.2.2.2.1, Z1.2.2.2.2.2.2.1, Z1.2.2.2.2.2.2.2.1, Z1.2.2.2.2.2.2.2.2.1, Z1.2.2.2.2.2.2.2.2.2.1, Z1.2.2.2.2.2.2.2.2.2.2.1, Z1.2.2.2.2.2.2.2.2.2.2.2) P) := hD
          refine lv_aload_n hx hb dX11_unwind_57 rfl (lv_at hl 2 rfl) ?_
          refine lv_dup hx hb dX11_unwind_58 rfl ?_
          refine va_get (D := (dC, dI)) (ci := 13) (v := .int Z1.2.2.2.2.1) (C := RX11) (T := TX11) (N := 12) hx hb hg inG11 hown hK hP 0 rfl rfl 8 (by decide) (hg _ wF_X11_72) (fun _ h9 => h9) rfl dX11_unwind_59 ?_
          refine lv_iconst (v := 1) hx hb dX11_unwind_62 (by decide) ?_
          refine lv_iadd hx hb dX11_unwind_63 ?_
          refine va_put (D := (dC, dI)) (ci := 13) (v := .int (Z1.2.2.2.2.1 + 1)) (ty := .int) (C := RX11) (T := TX11) (N := 12) hx hb hg inG11 tyX11 tyX11_ok nmX11 hown hK hP hD hS 0 rfl rfl 8 (by decide) (hg _ wF_X11_72) (fun _ h9 => h9) rfl (by decide +kernel) rfl rfl (Nat.le_of_ble_eq_true rfl) dX11_unwind_64 (fun H locs hP hD hS => ?_)
          have hP : va_P (dC, dI) vwCl (cW g ty pl ((-1) - (ft.toInt64)) (-1) md (Z1.1, zEnd Z1, Z1.2.2.1, Z1.2.2.2.1, (Z1.2.2.2.2.1 + 1), Z1.2.2.2.2.2.1, Z1.2.2.2.2.2.2.1, Z1.2.2.2.2.2.2.2.1, Z1.2.2.2.2.2.2.2.2.1, Z1.2.2.2.2.2.2.2.2.2.1, Z1.2.2.2.2.2.2.2.2.2.2.1, Z1.2.2.2.2.2.2.2.2.2.2.2) P) H := hP
          have hD : va_D A (cW g ty pl ((-1) - (ft.toInt64)) (-1) md (Z1.1, zEnd Z1, Z1.2.2.1, Z1.2.2.2.1, (Z1.2.2.2.2.1 + 1), Z1.2.2.2.2.2.1, Z1.2.2.2.2.2.2.1, Z1.2.2.2.2.2.2.2.1, Z1.2.2.2.2.2.2.2.2.1, Z1.2.2.2.2.2.2.2.2.2.1, Z1.2.2.2.2.2.2.2.2.2.2.1, Z1.2.2.2.2.2.2.2.2.2.2.2) P) := hD
          refine lv_aload_n hx hb dX11_unwind_67 rfl (lv_at hl 2 rfl) ?_
          refine cV_v (C := RX11) (n := 0) (rest := []) hx hb hml hown hg hT (cf_X11_closeBlock l dC dI g ty H.size pl ((-1) - (ft.toInt64)) (-1) md (Z1.1, zEnd Z1, Z1.2.2.1, Z1.2.2.2.1, (Z1.2.2.2.2.1 + 1), Z1.2.2.2.2.2.1, Z1.2.2.2.2.2.2.1, Z1.2.2.2.2.2.2.2.1, Z1.2.2.2.2.2.2.2.2.1, Z1.2.2.2.2.2.2.2.2.2.1, Z1.2.2.2.2.2.2.2.2.2.2.1, Z1.2.2.2.2.2.2.2.2.2.2.2) P  (by exact zok_cg (zok_at i0 (zok_end i0)))) (cv_of hg wM_X11_143 wN_X11_closeBlock wL_X11_X11_closeBlock wK_X11_closeBlock wI_X11 (by decide +kernel) ⟨Nat.le_of_ble_eq_true rfl, Nat.le_of_ble_eq_true rfl⟩) hK hP hD hS hA (va_recv hK hP (ci := 13) (q0 := 0) rfl rfl) rfl hl.1 rfl (Nat.le_of_ble_eq_true rfl) dX11_unwind_68 ⟨Nat.le_of_ble_eq_true rfl, Nat.le_of_ble_eq_true rfl⟩ (fun u_15 H locs q_13 hP hD hS => ?_)
          obtain rfl := q_13
          have hP : va_P (dC, dI) vwCl (cW g ty pl ((-1) - (ft.toInt64)) (-1) md (zClose (Z1.1, zEnd Z1, Z1.2.2.1, Z1.2.2.2.1, (Z1.2.2.2.2.1 + 1), Z1.2.2.2.2.2.1, Z1.2.2.2.2.2.2.1, Z1.2.2.2.2.2.2.2.1, Z1.2.2.2.2.2.2.2.2.1, Z1.2.2.2.2.2.2.2.2.2.1, Z1.2.2.2.2.2.2.2.2.2.2.1, Z1.2.2.2.2.2.2.2.2.2.2.2)) P) H := hP
          have hD : va_D A (cW g ty pl ((-1) - (ft.toInt64)) (-1) md (zClose (Z1.1, zEnd Z1, Z1.2.2.1, Z1.2.2.2.1, (Z1.2.2.2.2.1 + 1), Z1.2.2.2.2.2.1, Z1.2.2.2.2.2.2.1, Z1.2.2.2.2.2.2.2.1, Z1.2.2.2.2.2.2.2.2.1, Z1.2.2.2.2.2.2.2.2.2.1, Z1.2.2.2.2.2.2.2.2.2.2.1, Z1.2.2.2.2.2.2.2.2.2.2.2)) P) := hD
          refine cr_v (wo := fun u : Int64 × Int32 × cZ => cW g ty pl u.1 u.2.1 md u.2.2 P) ((((-1) - (ft.toInt64)), (-1), zClose (Z1.1, zEnd Z1, Z1.2.2.1, Z1.2.2.2.1, (Z1.2.2.2.2.1 + 1), Z1.2.2.2.2.2.1, Z1.2.2.2.2.2.2.1, Z1.2.2.2.2.2.2.2.1, Z1.2.2.2.2.2.2.2.2.1, Z1.2.2.2.2.2.2.2.2.2.1, Z1.2.2.2.2.2.2.2.2.2.2.1, Z1.2.2.2.2.2.2.2.2.2.2.2))) hx hb hr hlk hS hP hD ?_ dX11_unwind_71
          exact (by first | (have h9 : n1 ≤ 0 := (by assumption); exact zUnw_end h9 i1) | (have h9 : ¬ n1 ≤ 0 := (by assumption); exact zUnw_got h9 (by assumption) i1))
        · show _
          have hP : va_P (dC, dI) vwCl (cW g ty pl ac ft md Z1 P) H := hP
          have hD : va_D A (cW g ty pl ac ft md Z1 P) := hD
          refine lv_if_eq (tgt := 72) hx hb dX11_unwind_25 (by decide) (fun _ => ?_) (fun c9 => absurd (by decide) c9) 
          refine lv_iload_n hx hb dX11_unwind_72 rfl (lv_at hl 0 rfl) ?_
          refine lv_bipush (v := 6) hx hb dX11_unwind_73 (by decide) ?_
          refine lv_icmp_ne (tgt := 88) hx hb dX11_unwind_75 (by decide) (fun c_16 => ?_) (fun c_16 => ?_)
          · show _
            refine lv_aload_n hx hb dX11_unwind_88 rfl (lv_at hl 2 rfl) ?_
            refine va_get (D := (dC, dI)) (ci := 13) (v := .ref (g 3)) (C := RX11) (T := TX11) (N := 12) hx hb hg inG11 hown hK hP 0 rfl rfl 2 (by decide) (hg _ wF_X11_22) (fun _ h9 => h9) rfl dX11_unwind_89 ?_
            refine cV_v (C := RX1) (n := 0) (rest := []) hx hb hml hown hg hT (cf_X1_drop l dC dI g ty H.size pl ac ft md Z1 P  (by first | (have h8 : zCat Z1 = 6 := (by assumption); exact zok_fin i0) | exact i0)) (cv_of hg wM_X11_149 wN_X1_drop wL_X1_X1_drop wK_X1_drop wI_X1 (by decide +kernel) ⟨Nat.le_of_ble_eq_true rfl, Nat.le_of_ble_eq_true rfl⟩) hK hP hD hS hA (va_recv hK hP (ci := 6) (q0 := 3) rfl rfl) rfl hl.1 rfl (Nat.le_of_ble_eq_true rfl) dX11_unwind_92 ⟨Nat.le_of_ble_eq_true rfl, Nat.le_of_ble_eq_true rfl⟩ (fun u_19 H locs q_17 hP hD hS => ?_)
            obtain rfl := q_17
            have hP : va_P (dC, dI) vwCl (cW g ty pl ac ft md (zDrop Z1) P) H := hP
            have hD : va_D A (cW g ty pl ac ft md (zDrop Z1) P) := hD
            refine lv_iinc (v := (n1 + (-1))) (lv' := [(1, .int (n1 + (-1))), (2, .int (zCat Z1)), (0, .ref (g 0))]) hx hb dX11_unwind_95 hl (k := 1) rfl rfl (by decide) rfl (fun ls hl => ?_)
            refine lv_goto (tgt := 8) hx hb dX11_unwind_98 (by decide) ?_
            exact IH _ (by exact hN ▸ down_lt (by assumption)) (n1 + (-1)) (zDrop Z1) _ _ _ rfl (by first | (have h8 : zCat Z1 = 6 := (by assumption); exact zok_drop (zok_fin i0)) | exact zok_drop i0) (by first | (have h8 : zCat Z1 = 6 := (by assumption); exact zUnw_fin (by assumption) (by assumption) h8 i1) | (have h8 : ¬ zCat Z1 = 6 := (by assumption); exact zUnw_step (by assumption) (by assumption) h8 i1)) hP hD hS (lv_sub hl [0, 2] rfl)
          · show _
            refine lv_aload_n hx hb dX11_unwind_78 rfl (lv_at hl 2 rfl) ?_
            refine lv_dup hx hb dX11_unwind_79 rfl ?_
            refine va_get (D := (dC, dI)) (ci := 13) (v := .int Z1.2.2.2.2.2.1) (C := RX11) (T := TX11) (N := 12) hx hb hg inG11 hown hK hP 0 rfl rfl 9 (by decide) (hg _ wF_X11_75) (fun _ h9 => h9) rfl dX11_unwind_80 ?_
            refine lv_iconst (v := 1) hx hb dX11_unwind_83 (by decide) ?_
            refine lv_iadd hx hb dX11_unwind_84 ?_
            refine va_put (D := (dC, dI)) (ci := 13) (v := .int (Z1.2.2.2.2.2.1 + 1)) (ty := .int) (C := RX11) (T := TX11) (N := 12) hx hb hg inG11 tyX11 tyX11_ok nmX11 hown hK hP hD hS 0 rfl rfl 9 (by decide) (hg _ wF_X11_75) (fun _ h9 => h9) rfl (by decide +kernel) rfl rfl (Nat.le_of_ble_eq_true rfl) dX11_unwind_85 (fun H locs hP hD hS => ?_)
            have hP : va_P (dC, dI) vwCl (cW g ty pl ac ft md (Z1.1, Z1.2.1, Z1.2.2.1, Z1.2.2.2.1, Z1.2.2.2.2.1, (Z1.2.2.2.2.2.1 + 1), Z1.2.2.2.2.2.2.1, Z1.2.2.2.2.2.2.2.1, Z1.2.2.2.2.2.2.2.2.1, Z1.2.2.2.2.2.2.2.2.2.1, Z1.2.2.2.2.2.2.2.2.2.2.1, Z1.2.2.2.2.2.2.2.2.2.2.2) P) H := hP
            have hD : va_D A (cW g ty pl ac ft md (Z1.1, Z1.2.1, Z1.2.2.1, Z1.2.2.2.1, Z1.2.2.2.2.1, (Z1.2.2.2.2.2.1 + 1), Z1.2.2.2.2.2.2.1, Z1.2.2.2.2.2.2.2.1, Z1.2.2.2.2.2.2.2.2.1, Z1.2.2.2.2.2.2.2.2.2.1, Z1.2.2.2.2.2.2.2.2.2.2.1, Z1.2.2.2.2.2.2.2.2.2.2.2) P) := hD
            refine lv_aload_n hx hb dX11_unwind_88 rfl (lv_at hl 2 rfl) ?_
            refine va_get (D := (dC, dI)) (ci := 13) (v := .ref (g 3)) (C := RX11) (T := TX11) (N := 12) hx hb hg inG11 hown hK hP 0 rfl rfl 2 (by decide) (hg _ wF_X11_22) (fun _ h9 => h9) rfl dX11_unwind_89 ?_
            refine cV_v (C := RX1) (n := 0) (rest := []) hx hb hml hown hg hT (cf_X1_drop l dC dI g ty H.size pl ac ft md (Z1.1, Z1.2.1, Z1.2.2.1, Z1.2.2.2.1, Z1.2.2.2.2.1, (Z1.2.2.2.2.2.1 + 1), Z1.2.2.2.2.2.2.1, Z1.2.2.2.2.2.2.2.1, Z1.2.2.2.2.2.2.2.2.1, Z1.2.2.2.2.2.2.2.2.2.1, Z1.2.2.2.2.2.2.2.2.2.2.1, Z1.2.2.2.2.2.2.2.2.2.2.2) P  (by first | (have h8 : zCat Z1 = 6 := (by assumption); exact zok_fin i0) | exact i0)) (cv_of hg wM_X11_149 wN_X1_drop wL_X1_X1_drop wK_X1_drop wI_X1 (by decide +kernel) ⟨Nat.le_of_ble_eq_true rfl, Nat.le_of_ble_eq_true rfl⟩) hK hP hD hS hA (va_recv hK hP (ci := 6) (q0 := 3) rfl rfl) rfl hl.1 rfl (Nat.le_of_ble_eq_true rfl) dX11_unwind_92 ⟨Nat.le_of_ble_eq_true rfl, Nat.le_of_ble_eq_true rfl⟩ (fun u_22 H locs q_20 hP hD hS => ?_)
            obtain rfl := q_20
            have hP : va_P (dC, dI) vwCl (cW g ty pl ac ft md (zDrop (Z1.1, Z1.2.1, Z1.2.2.1, Z1.2.2.2.1, Z1.2.2.2.2.1, (Z1.2.2.2.2.2.1 + 1), Z1.2.2.2.2.2.2.1, Z1.2.2.2.2.2.2.2.1, Z1.2.2.2.2.2.2.2.2.1, Z1.2.2.2.2.2.2.2.2.2.1, Z1.2.2.2.2.2.2.2.2.2.2.1, Z1.2.2.2.2.2.2.2.2.2.2.2)) P) H := hP
            have hD : va_D A (cW g ty pl ac ft md (zDrop (Z1.1, Z1.2.1, Z1.2.2.1, Z1.2.2.2.1, Z1.2.2.2.2.1, (Z1.2.2.2.2.2.1 + 1), Z1.2.2.2.2.2.2.1, Z1.2.2.2.2.2.2.2.1, Z1.2.2.2.2.2.2.2.2.1, Z1.2.2.2.2.2.2.2.2.2.1, Z1.2.2.2.2.2.2.2.2.2.2.1, Z1.2.2.2.2.2.2.2.2.2.2.2)) P) := hD
            refine lv_iinc (v := (n1 + (-1))) (lv' := [(1, .int (n1 + (-1))), (2, .int (zCat Z1)), (0, .ref (g 0))]) hx hb dX11_unwind_95 hl (k := 1) rfl rfl (by decide) rfl (fun ls hl => ?_)
            refine lv_goto (tgt := 8) hx hb dX11_unwind_98 (by decide) ?_
            exact IH _ (by exact hN ▸ down_lt (by assumption)) (n1 + (-1)) (zDrop (Z1.1, Z1.2.1, Z1.2.2.1, Z1.2.2.2.1, Z1.2.2.2.2.1, (Z1.2.2.2.2.2.1 + 1), Z1.2.2.2.2.2.2.1, Z1.2.2.2.2.2.2.2.1, Z1.2.2.2.2.2.2.2.2.1, Z1.2.2.2.2.2.2.2.2.2.1, Z1.2.2.2.2.2.2.2.2.2.2.1, Z1.2.2.2.2.2.2.2.2.2.2.2)) _ _ _ rfl (by first | (have h8 : zCat Z1 = 6 := (by assumption); exact zok_drop (zok_fin i0)) | exact zok_drop i0) (by first | (have h8 : zCat Z1 = 6 := (by assumption); exact zUnw_fin (by assumption) (by assumption) h8 i1) | (have h8 : ¬ zCat Z1 = 6 := (by assumption); exact zUnw_step (by assumption) (by assumption) h8 i1)) hP hD hS (lv_sub hl [0, 2] rfl)
  exact LOOP _ Z.2.2.2.2.2.2.2.2.2.2.2 Z _ _ _ rfl (by exact pre0) (by rfl) hP hD hS (lv_sub hl [0, 1] rfl)
set_option maxHeartbeats 800000 in
set_option maxRecDepth 100000 in
theorem c_X11_control (l : Launch) (dC : Nat → ClassId) (dI : Nat → Nat → Nat) (g : Nat → Nat) (ty : Nat → ClassId) (sz : Nat) (pl : Nat → Option Nat) (ac : Int64) (ft : Int32) (md : Int32) (Z : cZ) (P : cQ) (w0 : Int32) (a0 : Int32) (b0 : Int32) (pre0 : zOk Z) : Met l yX11_control (Cond.code yX11_control cX11_control 4 none :: gT) ({ frames := 3, cells := 0, slots := 0, locals := 67 }) (cP (dC, dI) (cTy ty) (cW g ty pl ac ft md Z P) sz [.ref (g 0), .int w0, .int a0, .int b0]) (va_Qv (fun (u : Int64 × cZ) => ((zCtl ac Z w0 a0 b0).1, (zCtl ac Z w0 a0 b0).2) = u) (cB (dC, dI) (fun u : Int64 × cZ => cW g ty pl u.1 ft md u.2 P) (va_A (cW g ty pl ac ft md Z P) sz)) (va_A (cW g ty pl ac ft md Z P) sz)) 0 0 (va_A (cW g ty pl ac ft md Z P) sz) := by
  refine cc_of (Qa := fun A => va_Qv (fun (u : Int64 × cZ) => ((zCtl ac Z w0 a0 b0).1, (zCtl ac Z w0 a0 b0).2) = u) (cB (dC, dI) (fun u : Int64 × cZ => cW g ty pl u.1 ft md u.2 P) A) A) (by decide) (Nat.le_of_ble_eq_true rfl) ?_
  intro p e s m below meth c A hx hb hr hml hown hg hlk hmn hP hK hD hT hS hA hsz ls hl
  have hown : s.vm.findClass RX11 = some m.cls := hown
  have hl : lv_has ls 4 [(0, .ref (g 0)), (1, .int w0), (2, .int a0), (3, .int b0)] := hl
  refine lv_iload_n hx hb dX11_control_0 rfl (lv_at hl 1 rfl) ?_
  by_cases e_1 : w0 = 40
  · show _
    refine lv_tableIn (off := 68) (tgt := 69) hx hb dX11_control_1 (by rw [e_1]; decide) (by rw [e_1]; decide) (by rw [e_1]; decide) (by decide) ?_
    refine lv_aload_n hx hb dX11_control_69 rfl (lv_at hl 0 rfl) ?_
    refine cV_v (C := RX11) (n := 0) (rest := []) hx hb hml hown hg hT (c_X11_closeAllBlocks l dC dI g ty s.heap.size pl ac ft md Z P  (by first | assumption | exact pre0.1.1 | exact pre0.1.2)) (cv_of hg wM_X11_65 wN_X11_closeAllBlocks wL_X11_X11_closeAllBlocks wK_X11_closeAllBlocks wI_X11 (by decide +kernel) ⟨Nat.le_of_ble_eq_true rfl, Nat.le_of_ble_eq_true rfl⟩) hK hP hD hS hA (va_recv hK hP (ci := 13) (q0 := 0) rfl rfl) rfl hl.1 rfl (Nat.le_of_ble_eq_true rfl) dX11_control_70 ⟨Nat.le_of_ble_eq_true rfl, Nat.le_of_ble_eq_true rfl⟩ (fun u_4 H locs q_2 hP hD hS => ?_)
    obtain rfl := q_2
    have hP : va_P (dC, dI) vwCl (cW g ty pl ac ft md (zAll (Z.2.2.2.2.2.2.2.2.2.2.2).toNatClampNeg Z) P) H := hP
    have hD : va_D A (cW g ty pl ac ft md (zAll (Z.2.2.2.2.2.2.2.2.2.2.2).toNatClampNeg Z) P) := hD
    refine lv_aload_n hx hb dX11_control_73 rfl (lv_at hl 0 rfl) ?_
    refine lv_sipush (v := 256) hx hb dX11_control_74 (by decide) ?_
    refine va_put (D := (dC, dI)) (ci := 13) (v := .int 256) (ty := .int) (C := RX11) (T := TX11) (N := 12) hx hb hg inG11 tyX11 tyX11_ok nmX11 hown hK hP hD hS 0 rfl rfl 5 (by decide) (hg _ wF_X11_59) (fun _ h9 => h9) rfl (by decide +kernel) rfl rfl (Nat.le_of_ble_eq_true rfl) dX11_control_77 (fun H locs hP hD hS => ?_)
    have hP : va_P (dC, dI) vwCl (cW g ty pl ac ft md ((zAll (Z.2.2.2.2.2.2.2.2.2.2.2).toNatClampNeg Z).1, 256, (zAll (Z.2.2.2.2.2.2.2.2.2.2.2).toNatClampNeg Z).2.2.1, (zAll (Z.2.2.2.2.2.2.2.2.2.2.2).toNatClampNeg Z).2.2.2.1, (zAll (Z.2.2.2.2.2.2.2.2.2.2.2).toNatClampNeg Z).2.2.2.2.1, (zAll (Z.2.2.2.2.2.2.2.2.2.2.2).toNatClampNeg Z).2.2.2.2.2.1, (zAll (Z.2.2.2.2.2.2.2.2.2.2.2).toNatClampNeg Z).2.2.2.2.2.2.1, (zAll (Z.2.2.2.2.2.2.2.2.2.2.2).toNatClampNeg Z).2.2.2.2.2.2.2.1, (zAll (Z.2.2.2.2.2.2.2.2.2.2.2).toNatClampNeg Z).2.2.2.2.2.2.2.2.1, (zAll (Z.2.2.2.2.2.2.2.2.2.2.2).toNatClampNeg Z).2.2.2.2.2.2.2.2.2.1, (zAll (Z.2.2.2.2.2.2.2.2.2.2.2).toNatClampNeg Z).2.2.2.2.2.2.2.2.2.2.1, (zAll (Z.2.2.2.2.2.2.2.2.2.2.2).toNatClampNeg Z).2.2.2.2.2.2.2.2.2.2.2) P) H := hP
    have hD : va_D A (cW g ty pl ac ft md ((zAll (Z.2.2.2.2.2.2.2.2.2.2.2).toNatClampNeg Z).1, 256, (zAll (Z.2.2.2.2.2.2.2.2.2.2.2).toNatClampNeg Z).2.2.1, (zAll (Z.2.2.2.2.2.2.2.2.2.2.2).toNatClampNeg Z).2.2.2.1, (zAll (Z.2.2.2.2.2.2.2.2.2.2.2).toNatClampNeg Z).2.2.2.2.1, (zAll (Z.2.2.2.2.2.2.2.2.2.2.2).toNatClampNeg Z).2.2.2.2.2.1, (zAll (Z.2.2.2.2.2.2.2.2.2.2.2).toNatClampNeg Z).2.2.2.2.2.2.1, (zAll (Z.2.2.2.2.2.2.2.2.2.2.2).toNatClampNeg Z).2.2.2.2.2.2.2.1, (zAll (Z.2.2.2.2.2.2.2.2.2.2.2).toNatClampNeg Z).2.2.2.2.2.2.2.2.1, (zAll (Z.2.2.2.2.2.2.2.2.2.2.2).toNatClampNeg Z).2.2.2.2.2.2.2.2.2.1, (zAll (Z.2.2.2.2.2.2.2.2.2.2.2).toNatClampNeg Z).2.2.2.2.2.2.2.2.2.2.1, (zAll (Z.2.2.2.2.2.2.2.2.2.2.2).toNatClampNeg Z).2.2.2.2.2.2.2.2.2.2.2) P) := hD
    refine lv_goto (tgt := 127) hx hb dX11_control_80 (by decide) ?_
    refine lv_aload_n hx hb dX11_control_127 rfl (lv_at hl 0 rfl) ?_
    refine lv_dup hx hb dX11_control_128 rfl ?_
    refine va_get (D := (dC, dI)) (ci := 13) (v := .int ((zAll (Z.2.2.2.2.2.2.2.2.2.2.2).toNatClampNeg Z).2.2.2.1)) (C := RX11) (T := TX11) (N := 12) hx hb hg inG11 hown hK hP 0 rfl rfl 7 (by decide) (hg _ wF_X11_37) (fun _ h9 => h9) rfl dX11_control_129 ?_
    refine lv_iconst (v := 1) hx hb dX11_control_132 (by decide) ?_
    refine lv_iadd hx hb dX11_control_133 ?_
    refine va_put (D := (dC, dI)) (ci := 13) (v := .int ((zAll (Z.2.2.2.2.2.2.2.2.2.2.2).toNatClampNeg Z).2.2.2.1 + 1)) (ty := .int) (C := RX11) (T := TX11) (N := 12) hx hb hg inG11 tyX11 tyX11_ok nmX11 hown hK hP hD hS 0 rfl rfl 7 (by decide) (hg _ wF_X11_37) (fun _ h9 => h9) rfl (by decide +kernel) rfl rfl (Nat.le_of_ble_eq_true rfl) dX11_control_134 (fun H locs hP hD hS => ?_)
    have hP : va_P (dC, dI) vwCl (cW g ty pl ac ft md ((zAll (Z.2.2.2.2.2.2.2.2.2.2.2).toNatClampNeg Z).1, 256, (zAll (Z.2.2.2.2.2.2.2.2.2.2.2).toNatClampNeg Z).2.2.1, ((zAll (Z.2.2.2.2.2.2.2.2.2.2.2).toNatClampNeg Z).2.2.2.1 + 1), (zAll (Z.2.2.2.2.2.2.2.2.2.2.2).toNatClampNeg Z).2.2.2.2.1, (zAll (Z.2.2.2.2.2.2.2.2.2.2.2).toNatClampNeg Z).2.2.2.2.2.1, (zAll (Z.2.2.2.2.2.2.2.2.2.2.2).toNatClampNeg Z).2.2.2.2.2.2.1, (zAll (Z.2.2.2.2.2.2.2.2.2.2.2).toNatClampNeg Z).2.2.2.2.2.2.2.1, (zAll (Z.2.2.2.2.2.2.2.2.2.2.2).toNatClampNeg Z).2.2.2.2.2.2.2.2.1, (zAll (Z.2.2.2.2.2.2.2.2.2.2.2).toNatClampNeg Z).2.2.2.2.2.2.2.2.2.1, (zAll (Z.2.2.2.2.2.2.2.2.2.2.2).toNatClampNeg Z).2.2.2.2.2.2.2.2.2.2.1, (zAll (Z.2.2.2.2.2.2.2.2.2.2.2).toNatClampNeg Z).2.2.2.2.2.2.2.2.2.2.2) P) H := hP
    have hD : va_D A (cW g ty pl ac ft md ((zAll (Z.2.2.2.2.2.2.2.2.2.2.2).toNatClampNeg Z).1, 256, (zAll (Z.2.2.2.2.2.2.2.2.2.2.2).toNatClampNeg Z).2.2.1, ((zAll (Z.2.2.2.2.2.2.2.2.2.2.2).toNatClampNeg Z).2.2.2.1 + 1), (zAll (Z.2.2.2.2.2.2.2.2.2.2.2).toNatClampNeg Z).2.2.2.2.1, (zAll (Z.2.2.2.2.2.2.2.2.2.2.2).toNatClampNeg Z).2.2.2.2.2.1, (zAll (Z.2.2.2.2.2.2.2.2.2.2.2).toNatClampNeg Z).2.2.2.2.2.2.1, (zAll (Z.2.2.2.2.2.2.2.2.2.2.2).toNatClampNeg Z).2.2.2.2.2.2.2.1, (zAll (Z.2.2.2.2.2.2.2.2.2.2.2).toNatClampNeg Z).2.2.2.2.2.2.2.2.1, (zAll (Z.2.2.2.2.2.2.2.2.2.2.2).toNatClampNeg Z).2.2.2.2.2.2.2.2.2.1, (zAll (Z.2.2.2.2.2.2.2.2.2.2.2).toNatClampNeg Z).2.2.2.2.2.2.2.2.2.2.1, (zAll (Z.2.2.2.2.2.2.2.2.2.2.2).toNatClampNeg Z).2.2.2.2.2.2.2.2.2.2.2) P) := hD
    refine cr_v (wo := fun u : Int64 × cZ => cW g ty pl u.1 ft md u.2 P) ((ac, ((zAll (Z.2.2.2.2.2.2.2.2.2.2.2).toNatClampNeg Z).1, 256, (zAll (Z.2.2.2.2.2.2.2.2.2.2.2).toNatClampNeg Z).2.2.1, ((zAll (Z.2.2.2.2.2.2.2.2.2.2.2).toNatClampNeg Z).2.2.2.1 + 1), (zAll (Z.2.2.2.2.2.2.2.2.2.2.2).toNatClampNeg Z).2.2.2.2.1, (zAll (Z.2.2.2.2.2.2.2.2.2.2.2).toNatClampNeg Z).2.2.2.2.2.1, (zAll (Z.2.2.2.2.2.2.2.2.2.2.2).toNatClampNeg Z).2.2.2.2.2.2.1, (zAll (Z.2.2.2.2.2.2.2.2.2.2.2).toNatClampNeg Z).2.2.2.2.2.2.2.1, (zAll (Z.2.2.2.2.2.2.2.2.2.2.2).toNatClampNeg Z).2.2.2.2.2.2.2.2.1, (zAll (Z.2.2.2.2.2.2.2.2.2.2.2).toNatClampNeg Z).2.2.2.2.2.2.2.2.2.1, (zAll (Z.2.2.2.2.2.2.2.2.2.2.2).toNatClampNeg Z).2.2.2.2.2.2.2.2.2.2.1, (zAll (Z.2.2.2.2.2.2.2.2.2.2.2).toNatClampNeg Z).2.2.2.2.2.2.2.2.2.2.2))) hx hb hr hlk hS hP hD ?_ dX11_control_137
    exact (by first | rfl | (simp only [zCtl, e_1, if_true, if_false]; done) | (simp only [zCtl, e_1, if_true, if_false]; rfl) | (simp [zCtl, e_1]; done))
  · show _
    by_cases e_5 : w0 = 41
    · show _
      refine lv_tableIn (off := 82) (tgt := 83) hx hb dX11_control_1 (by rw [e_5]; decide) (by rw [e_5]; decide) (by rw [e_5]; decide) (by decide) ?_
      refine lv_aload_n hx hb dX11_control_83 rfl (lv_at hl 0 rfl) ?_
      refine lv_iload_n hx hb dX11_control_84 rfl (lv_at hl 2 rfl) ?_
      refine lv_i2l (v := (a0.toInt64)) hx hb dX11_control_85 rfl ?_
      refine va_put (D := (dC, dI)) (ci := 13) (v := .long (a0.toInt64)) (ty := .long) (C := RX11) (T := TX11) (N := 12) hx hb hg inG11 tyX11 tyX11_ok nmX11 hown hK hP hD hS 0 rfl rfl 3 (by decide) (hg _ wF_X11_68) (fun _ h9 => h9) rfl (by decide +kernel) rfl rfl (Nat.le_of_ble_eq_true rfl) dX11_control_86 (fun H locs hP hD hS => ?_)
      have hP : va_P (dC, dI) vwCl (cW g ty pl (a0.toInt64) ft md Z P) H := hP
      have hD : va_D A (cW g ty pl (a0.toInt64) ft md Z P) := hD
      refine lv_goto (tgt := 127) hx hb dX11_control_89 (by decide) ?_
      refine lv_aload_n hx hb dX11_control_127 rfl (lv_at hl 0 rfl) ?_
      refine lv_dup hx hb dX11_control_128 rfl ?_
      refine va_get (D := (dC, dI)) (ci := 13) (v := .int Z.2.2.2.1) (C := RX11) (T := TX11) (N := 12) hx hb hg inG11 hown hK hP 0 rfl rfl 7 (by decide) (hg _ wF_X11_37) (fun _ h9 => h9) rfl dX11_control_129 ?_
      refine lv_iconst (v := 1) hx hb dX11_control_132 (by decide) ?_
      refine lv_iadd hx hb dX11_control_133 ?_
      refine va_put (D := (dC, dI)) (ci := 13) (v := .int (Z.2.2.2.1 + 1)) (ty := .int) (C := RX11) (T := TX11) (N := 12) hx hb hg inG11 tyX11 tyX11_ok nmX11 hown hK hP hD hS 0 rfl rfl 7 (by decide) (hg _ wF_X11_37) (fun _ h9 => h9) rfl (by decide +kernel) rfl rfl (Nat.le_of_ble_eq_true rfl) dX11_control_134 (fun H locs hP hD hS => ?_)
      have hP : va_P (dC, dI) vwCl (cW g ty pl (a0.toInt64) ft md (Z.1, Z.2.1, Z.2.2.1, (Z.2.2.2.1 + 1), Z.2.2.2.2.1, Z.2.2.2.2.2.1, Z.2.2.2.2.2.2.1, Z.2.2.2.2.2.2.2.1, Z.2.2.2.2.2.2.2.2.1, Z.2.2.2.2.2.2.2.2.2.1, Z.2.2.2.2.2.2.2.2.2.2.1, Z.2.2.2.2.2.2.2.2.2.2.2) P) H := hP
      have hD : va_D A (cW g ty pl (a0.toInt64) ft md (Z.1, Z.2.1, Z.2.2.1, (Z.2.2.2.1 + 1), Z.2.2.2.2.1, Z.2.2.2.2.2.1, Z.2.2.2.2.2.2.1, Z.2.2.2.2.2.2.2.1, Z.2.2.2.2.2.2.2.2.1, Z.2.2.2.2.2.2.2.2.2.1, Z.2.2.2.2.2.2.2.2.2.2.1, Z.2.2.2.2.2.2.2.2.2.2.2) P) := hD
      refine cr_v (wo := fun u : Int64 × cZ => cW g ty pl u.1 ft md u.2 P) (((a0.toInt64), (Z.1, Z.2.1, Z.2.2.1, (Z.2.2.2.1 + 1), Z.2.2.2.2.1, Z.2.2.2.2.2.1, Z.2.2.2.2.2.2.1, Z.2.2.2.2.2.2.2.1, Z.2.2.2.2.2.2.2.2.1, Z.2.2.2.2.2.2.2.2.2.1, Z.2.2.2.2.2.2.2.2.2.2.1, Z.2.2.2.2.2.2.2.2.2.2.2))) hx hb hr hlk hS hP hD ?_ dX11_control_137
      exact (by first | rfl | (simp only [zCtl, e_1, e_5, if_true, if_false]; done) | (simp only [zCtl, e_1, e_5, if_true, if_false]; rfl) | (simp [zCtl, e_1, e_5]; done))
    · show _
      by_cases e_6 : w0 = 42
      · show _
        refine lv_tableIn (off := 91) (tgt := 92) hx hb dX11_control_1 (by rw [e_6]; decide) (by rw [e_6]; decide) (by rw [e_6]; decide) (by decide) ?_
        refine lv_aload_n hx hb dX11_control_92 rfl (lv_at hl 0 rfl) ?_
        refine lv_dup hx hb dX11_control_93 rfl ?_
        refine va_get (D := (dC, dI)) (ci := 13) (v := .long ac) (C := RX11) (T := TX11) (N := 12) hx hb hg inG11 hown hK hP 0 rfl rfl 3 (by decide) (hg _ wF_X11_68) (fun _ h9 => h9) rfl dX11_control_94 ?_
        refine lv_iload_n hx hb dX11_control_97 rfl (lv_at hl 2 rfl) ?_
        refine lv_i2l (v := (a0.toInt64)) hx hb dX11_control_98 rfl ?_
        refine lv_ladd hx hb dX11_control_99 ?_
        refine va_put (D := (dC, dI)) (ci := 13) (v := .long (ac + (a0.toInt64))) (ty := .long) (C := RX11) (T := TX11) (N := 12) hx hb hg inG11 tyX11 tyX11_ok nmX11 hown hK hP hD hS 0 rfl rfl 3 (by decide) (hg _ wF_X11_68) (fun _ h9 => h9) rfl (by decide +kernel) rfl rfl (Nat.le_of_ble_eq_true rfl) dX11_control_100 (fun H locs hP hD hS => ?_)
        have hP : va_P (dC, dI) vwCl (cW g ty pl (ac + (a0.toInt64)) ft md Z P) H := hP
        have hD : va_D A (cW g ty pl (ac + (a0.toInt64)) ft md Z P) := hD
        refine lv_goto (tgt := 127) hx hb dX11_control_103 (by decide) ?_
        refine lv_aload_n hx hb dX11_control_127 rfl (lv_at hl 0 rfl) ?_
        refine lv_dup hx hb dX11_control_128 rfl ?_
        refine va_get (D := (dC, dI)) (ci := 13) (v := .int Z.2.2.2.1) (C := RX11) (T := TX11) (N := 12) hx hb hg inG11 hown hK hP 0 rfl rfl 7 (by decide) (hg _ wF_X11_37) (fun _ h9 => h9) rfl dX11_control_129 ?_
        refine lv_iconst (v := 1) hx hb dX11_control_132 (by decide) ?_
        refine lv_iadd hx hb dX11_control_133 ?_
        refine va_put (D := (dC, dI)) (ci := 13) (v := .int (Z.2.2.2.1 + 1)) (ty := .int) (C := RX11) (T := TX11) (N := 12) hx hb hg inG11 tyX11 tyX11_ok nmX11 hown hK hP hD hS 0 rfl rfl 7 (by decide) (hg _ wF_X11_37) (fun _ h9 => h9) rfl (by decide +kernel) rfl rfl (Nat.le_of_ble_eq_true rfl) dX11_control_134 (fun H locs hP hD hS => ?_)
        have hP : va_P (dC, dI) vwCl (cW g ty pl (ac + (a0.toInt64)) ft md (Z.1, Z.2.1, Z.2.2.1, (Z.2.2.2.1 + 1), Z.2.2.2.2.1, Z.2.2.2.2.2.1, Z.2.2.2.2.2.2.1, Z.2.2.2.2.2.2.2.1, Z.2.2.2.2.2.2.2.2.1, Z.2.2.2.2.2.2.2.2.2.1, Z.2.2.2.2.2.2.2.2.2.2.1, Z.2.2.2.2.2.2.2.2.2.2.2) P) H := hP
        have hD : va_D A (cW g ty pl (ac + (a0.toInt64)) ft md (Z.1, Z.2.1, Z.2.2.1, (Z.2.2.2.1 + 1), Z.2.2.2.2.1, Z.2.2.2.2.2.1, Z.2.2.2.2.2.2.1, Z.2.2.2.2.2.2.2.1, Z.2.2.2.2.2.2.2.2.1, Z.2.2.2.2.2.2.2.2.2.1, Z.2.2.2.2.2.2.2.2.2.2.1, Z.2.2.2.2.2.2.2.2.2.2.2) P) := hD
        refine cr_v (wo := fun u : Int64 × cZ => cW g ty pl u.1 ft md u.2 P) (((ac + (a0.toInt64)), (Z.1, Z.2.1, Z.2.2.1, (Z.2.2.2.1 + 1), Z.2.2.2.2.1, Z.2.2.2.2.2.1, Z.2.2.2.2.2.2.1, Z.2.2.2.2.2.2.2.1, Z.2.2.2.2.2.2.2.2.1, Z.2.2.2.2.2.2.2.2.2.1, Z.2.2.2.2.2.2.2.2.2.2.1, Z.2.2.2.2.2.2.2.2.2.2.2))) hx hb hr hlk hS hP hD ?_ dX11_control_137
        exact (by first | rfl | (simp only [zCtl, e_1, e_5, e_6, if_true, if_false]; done) | (simp only [zCtl, e_1, e_5, e_6, if_true, if_false]; rfl) | (simp [zCtl, e_1, e_5, e_6]; done))
      · show _
        by_cases e_7 : w0 = 43
        · show _
          refine lv_tableIn (off := 105) (tgt := 106) hx hb dX11_control_1 (by rw [e_7]; decide) (by rw [e_7]; decide) (by rw [e_7]; decide) (by decide) ?_
          refine lv_aload_n hx hb dX11_control_106 rfl (lv_at hl 0 rfl) ?_
          refine va_get (D := (dC, dI)) (ci := 13) (v := .long ac) (C := RX11) (T := TX11) (N := 12) hx hb hg inG11 hown hK hP 0 rfl rfl 3 (by decide) (hg _ wF_X11_68) (fun _ h9 => h9) rfl dX11_control_107 ?_
          refine lv_lconst (v := 0) hx hb dX11_control_110 (by decide) ?_
          refine W.lcmp hx hb dX11_control_111 ?_
          refine lv_if_ge (tgt := 127) hx hb dX11_control_112 (by decide) (fun c_8 => ?_) (fun c_8 => ?_)
          · show _
            refine lv_aload_n hx hb dX11_control_127 rfl (lv_at hl 0 rfl) ?_
            refine lv_dup hx hb dX11_control_128 rfl ?_
            refine va_get (D := (dC, dI)) (ci := 13) (v := .int Z.2.2.2.1) (C := RX11) (T := TX11) (N := 12) hx hb hg inG11 hown hK hP 0 rfl rfl 7 (by decide) (hg _ wF_X11_37) (fun _ h9 => h9) rfl dX11_control_129 ?_
            refine lv_iconst (v := 1) hx hb dX11_control_132 (by decide) ?_
            refine lv_iadd hx hb dX11_control_133 ?_
            refine va_put (D := (dC, dI)) (ci := 13) (v := .int (Z.2.2.2.1 + 1)) (ty := .int) (C := RX11) (T := TX11) (N := 12) hx hb hg inG11 tyX11 tyX11_ok nmX11 hown hK hP hD hS 0 rfl rfl 7 (by decide) (hg _ wF_X11_37) (fun _ h9 => h9) rfl (by decide +kernel) rfl rfl (Nat.le_of_ble_eq_true rfl) dX11_control_134 (fun H locs hP hD hS => ?_)
            have hP : va_P (dC, dI) vwCl (cW g ty pl ac ft md (Z.1, Z.2.1, Z.2.2.1, (Z.2.2.2.1 + 1), Z.2.2.2.2.1, Z.2.2.2.2.2.1, Z.2.2.2.2.2.2.1, Z.2.2.2.2.2.2.2.1, Z.2.2.2.2.2.2.2.2.1, Z.2.2.2.2.2.2.2.2.2.1, Z.2.2.2.2.2.2.2.2.2.2.1, Z.2.2.2.2.2.2.2.2.2.2.2) P) H := hP
            have hD : va_D A (cW g ty pl ac ft md (Z.1, Z.2.1, Z.2.2.1, (Z.2.2.2.1 + 1), Z.2.2.2.2.1, Z.2.2.2.2.2.1, Z.2.2.2.2.2.2.1, Z.2.2.2.2.2.2.2.1, Z.2.2.2.2.2.2.2.2.1, Z.2.2.2.2.2.2.2.2.2.1, Z.2.2.2.2.2.2.2.2.2.2.1, Z.2.2.2.2.2.2.2.2.2.2.2) P) := hD
            refine cr_v (wo := fun u : Int64 × cZ => cW g ty pl u.1 ft md u.2 P) ((ac, (Z.1, Z.2.1, Z.2.2.1, (Z.2.2.2.1 + 1), Z.2.2.2.2.1, Z.2.2.2.2.2.1, Z.2.2.2.2.2.2.1, Z.2.2.2.2.2.2.2.1, Z.2.2.2.2.2.2.2.2.1, Z.2.2.2.2.2.2.2.2.2.1, Z.2.2.2.2.2.2.2.2.2.2.1, Z.2.2.2.2.2.2.2.2.2.2.2))) hx hb hr hlk hS hP hD ?_ dX11_control_137
            exact (by first | rfl | (simp only [zCtl, e_1, e_5, e_6, e_7, c_8, if_true, if_false]; done) | (simp only [zCtl, e_1, e_5, e_6, e_7, c_8, if_true, if_false]; rfl) | (simp [zCtl, e_1, e_5, e_6, e_7, c_8]; done))
          · show _
            refine lv_aload_n hx hb dX11_control_115 rfl (lv_at hl 0 rfl) ?_
            refine lv_aload_n hx hb dX11_control_116 rfl (lv_at hl 0 rfl) ?_
            refine lv_iload_n hx hb dX11_control_117 rfl (lv_at hl 2 rfl) ?_
            refine cV_i (C := RX11) (n := 1) (rest := [.ref (g 0)]) hx hb hml hown hg hT (c_X11_endOfNext l dC dI g ty s.heap.size pl ac ft md Z P a0 (by first | assumption | exact pre0.1.1 | exact pre0.1.2)) (cv_of hg wM_X11_121 wN_X11_endOfNext wL_X11_X11_endOfNext wK_X11_endOfNext wI_X11 (by decide +kernel) ⟨Nat.le_of_ble_eq_true rfl, Nat.le_of_ble_eq_true rfl⟩) hK hP hD hS hA (va_recv hK hP (ci := 13) (q0 := 0) rfl rfl) rfl hl.1 rfl (Nat.le_of_ble_eq_true rfl) dX11_control_118 ⟨Nat.le_of_ble_eq_true rfl, Nat.le_of_ble_eq_true rfl⟩ (fun r_10 u_11 H locs q_9 hP hD hS => ?_)
            obtain rfl := q_9
            have hP : va_P (dC, dI) vwCl (cW g ty pl ac ft md Z P) H := hP
            have hD : va_D A (cW g ty pl ac ft md Z P) := hD
            refine va_put (D := (dC, dI)) (ci := 13) (v := .int (zEn Z a0)) (ty := .int) (C := RX11) (T := TX11) (N := 12) hx hb hg inG11 tyX11 tyX11_ok nmX11 hown hK hP hD hS 0 rfl rfl 5 (by decide) (hg _ wF_X11_59) (fun _ h9 => h9) rfl (by decide +kernel) rfl rfl (Nat.le_of_ble_eq_true rfl) dX11_control_121 (fun H locs hP hD hS => ?_)
            have hP : va_P (dC, dI) vwCl (cW g ty pl ac ft md (Z.1, zEn Z a0, Z.2.2.1, Z.2.2.2.1, Z.2.2.2.2.1, Z.2.2.2.2.2.1, Z.2.2.2.2.2.2.1, Z.2.2.2.2.2.2.2.1, Z.2.2.2.2.2.2.2.2.1, Z.2.2.2.2.2.2.2.2.2.1, Z.2.2.2.2.2.2.2.2.2.2.1, Z.2.2.2.2.2.2.2.2.2.2.2) P) H := hP
            have hD : va_D A (cW g ty pl ac ft md (Z.1, zEn Z a0, Z.2.2.1, Z.2.2.2.1, Z.2.2.2.2.1, Z.2.2.2.2.2.1, Z.2.2.2.2.2.2.1, Z.2.2.2.2.2.2.2.1, Z.2.2.2.2.2.2.2.2.1, Z.2.2.2.2.2.2.2.2.2.1, Z.2.2.2.2.2.2.2.2.2.2.1, Z.2.2.2.2.2.2.2.2.2.2.2) P) := hD
            refine lv_goto (tgt := 127) hx hb dX11_control_124 (by decide) ?_
            refine lv_aload_n hx hb dX11_control_127 rfl (lv_at hl 0 rfl) ?_
            refine lv_dup hx hb dX11_control_128 rfl ?_
            refine va_get (D := (dC, dI)) (ci := 13) (v := .int Z.2.2.2.1) (C := RX11) (T := TX11) (N := 12) hx hb hg inG11 hown hK hP 0 rfl rfl 7 (by decide) (hg _ wF_X11_37) (fun _ h9 => h9) rfl dX11_control_129 ?_
            refine lv_iconst (v := 1) hx hb dX11_control_132 (by decide) ?_
            refine lv_iadd hx hb dX11_control_133 ?_
            refine va_put (D := (dC, dI)) (ci := 13) (v := .int (Z.2.2.2.1 + 1)) (ty := .int) (C := RX11) (T := TX11) (N := 12) hx hb hg inG11 tyX11 tyX11_ok nmX11 hown hK hP hD hS 0 rfl rfl 7 (by decide) (hg _ wF_X11_37) (fun _ h9 => h9) rfl (by decide +kernel) rfl rfl (Nat.le_of_ble_eq_true rfl) dX11_control_134 (fun H locs hP hD hS => ?_)
            have hP : va_P (dC, dI) vwCl (cW g ty pl ac ft md (Z.1, zEn Z a0, Z.2.2.1, (Z.2.2.2.1 + 1), Z.2.2.2.2.1, Z.2.2.2.2.2.1, Z.2.2.2.2.2.2.1, Z.2.2.2.2.2.2.2.1, Z.2.2.2.2.2.2.2.2.1, Z.2.2.2.2.2.2.2.2.2.1, Z.2.2.2.2.2.2.2.2.2.2.1, Z.2.2.2.2.2.2.2.2.2.2.2) P) H := hP
            have hD : va_D A (cW g ty pl ac ft md (Z.1, zEn Z a0, Z.2.2.1, (Z.2.2.2.1 + 1), Z.2.2.2.2.1, Z.2.2.2.2.2.1, Z.2.2.2.2.2.2.1, Z.2.2.2.2.2.2.2.1, Z.2.2.2.2.2.2.2.2.1, Z.2.2.2.2.2.2.2.2.2.1, Z.2.2.2.2.2.2.2.2.2.2.1, Z.2.2.2.2.2.2.2.2.2.2.2) P) := hD
            refine cr_v (wo := fun u : Int64 × cZ => cW g ty pl u.1 ft md u.2 P) ((ac, (Z.1, zEn Z a0, Z.2.2.1, (Z.2.2.2.1 + 1), Z.2.2.2.2.1, Z.2.2.2.2.2.1, Z.2.2.2.2.2.2.1, Z.2.2.2.2.2.2.2.1, Z.2.2.2.2.2.2.2.2.1, Z.2.2.2.2.2.2.2.2.2.1, Z.2.2.2.2.2.2.2.2.2.2.1, Z.2.2.2.2.2.2.2.2.2.2.2))) hx hb hr hlk hS hP hD ?_ dX11_control_137
            exact (by first | rfl | (simp only [zCtl, e_1, e_5, e_6, e_7, c_8, if_true, if_false]; done) | (simp only [zCtl, e_1, e_5, e_6, e_7, c_8, if_true, if_false]; rfl) | (simp [zCtl, e_1, e_5, e_6, e_7, c_8]; done))
        · show _
          by_cases e_12 : w0 = 44
          · show _
            refine lv_tableIn (off := 39) (tgt := 40) hx hb dX11_control_1 (by rw [e_12]; decide) (by rw [e_12]; decide) (by rw [e_12]; decide) (by decide) ?_
            refine lv_aload_n hx hb dX11_control_40 rfl (lv_at hl 0 rfl) ?_
            refine lv_iload_n hx hb dX11_control_41 rfl (lv_at hl 2 rfl) ?_
            refine lv_iload_n hx hb dX11_control_42 rfl (lv_at hl 3 rfl) ?_
            refine cV_v (C := RX11) (n := 2) (rest := []) hx hb hml hown hg hT (c_X11_repeat l dC dI g ty s.heap.size pl ac ft md Z P a0 b0 (by first | assumption | exact pre0.1.1 | exact pre0.1.2)) (cv_of hg wM_X11_117 wN_X11_repeat wL_X11_X11_repeat wK_X11_repeat wI_X11 (by decide +kernel) ⟨Nat.le_of_ble_eq_true rfl, Nat.le_of_ble_eq_true rfl⟩) hK hP hD hS hA (va_recv hK hP (ci := 13) (q0 := 0) rfl rfl) rfl hl.1 rfl (Nat.le_of_ble_eq_true rfl) dX11_control_43 ⟨Nat.le_of_ble_eq_true rfl, Nat.le_of_ble_eq_true rfl⟩ (fun u_15 H locs q_13 hP hD hS => ?_)
            obtain rfl := q_13
            have hP : va_P (dC, dI) vwCl (cW g ty pl ac ft md (zRep Z a0 b0) P) H := hP
            have hD : va_D A (cW g ty pl ac ft md (zRep Z a0 b0) P) := hD
            refine cr_v (wo := fun u : Int64 × cZ => cW g ty pl u.1 ft md u.2 P) ((ac, zRep Z a0 b0)) hx hb hr hlk hS hP hD ?_ dX11_control_46
            exact (by first | rfl | (simp only [zCtl, e_1, e_5, e_6, e_7, e_12, if_true, if_false]; done) | (simp only [zCtl, e_1, e_5, e_6, e_7, e_12, if_true, if_false]; rfl) | (simp [zCtl, e_1, e_5, e_6, e_7, e_12]; done))
          · show _
            by_cases e_16 : w0 = 45
            · show _
              refine lv_tableIn (off := 46) (tgt := 47) hx hb dX11_control_1 (by rw [e_16]; decide) (by rw [e_16]; decide) (by rw [e_16]; decide) (by decide) ?_
              refine lv_aload_n hx hb dX11_control_47 rfl (lv_at hl 0 rfl) ?_
              refine va_get (D := (dC, dI)) (ci := 13) (v := .ref (g 3)) (C := RX11) (T := TX11) (N := 12) hx hb hg inG11 hown hK hP 0 rfl rfl 2 (by decide) (hg _ wF_X11_22) (fun _ h9 => h9) rfl dX11_control_48 ?_
              refine lv_aload_n hx hb dX11_control_51 rfl (lv_at hl 0 rfl) ?_
              refine va_get (D := (dC, dI)) (ci := 13) (v := .int Z.2.1) (C := RX11) (T := TX11) (N := 12) hx hb hg inG11 hown hK hP 0 rfl rfl 5 (by decide) (hg _ wF_X11_59) (fun _ h9 => h9) rfl dX11_control_52 ?_
              refine lv_aload_n hx hb dX11_control_55 rfl (lv_at hl 0 rfl) ?_
              refine lv_iload_n hx hb dX11_control_56 rfl (lv_at hl 2 rfl) ?_
              refine cV_i (C := RX11) (n := 1) (rest := [.int Z.2.1, .ref (g 3)]) hx hb hml hown hg hT (c_X11_endOfNext l dC dI g ty s.heap.size pl ac ft md Z P a0 (by first | assumption | exact pre0.1.1 | exact pre0.1.2)) (cv_of hg wM_X11_121 wN_X11_endOfNext wL_X11_X11_endOfNext wK_X11_endOfNext wI_X11 (by decide +kernel) ⟨Nat.le_of_ble_eq_true rfl, Nat.le_of_ble_eq_true rfl⟩) hK hP hD hS hA (va_recv hK hP (ci := 13) (q0 := 0) rfl rfl) rfl hl.1 rfl (Nat.le_of_ble_eq_true rfl) dX11_control_57 ⟨Nat.le_of_ble_eq_true rfl, Nat.le_of_ble_eq_true rfl⟩ (fun r_18 u_19 H locs q_17 hP hD hS => ?_)
              obtain rfl := q_17
              have hP : va_P (dC, dI) vwCl (cW g ty pl ac ft md Z P) H := hP
              have hD : va_D A (cW g ty pl ac ft md Z P) := hD
              refine lv_iconst (v := 1) hx hb dX11_control_60 (by decide) ?_
              refine lv_iload_n hx hb dX11_control_61 rfl (lv_at hl 3 rfl) ?_
              refine lv_bipush (v := 7) hx hb dX11_control_62 (by decide) ?_
              refine lv_iand hx hb dX11_control_64 ?_
              refine cV_v (C := RX1) (n := 4) (rest := []) hx hb hml hown hg hT (cf_X1_open l dC dI g ty H.size pl ac ft md Z P Z.2.1 (zEn Z a0) 1 (b0 &&& 7) (by assumption)) (cv_of hg wM_X11_125 wN_X1_open wL_X1_X1_open wK_X1_open wI_X1 (by decide +kernel) ⟨Nat.le_of_ble_eq_true rfl, Nat.le_of_ble_eq_true rfl⟩) hK hP hD hS hA (va_recv hK hP (ci := 6) (q0 := 3) rfl rfl) rfl hl.1 rfl (Nat.le_of_ble_eq_true rfl) dX11_control_65 ⟨Nat.le_of_ble_eq_true rfl, Nat.le_of_ble_eq_true rfl⟩ (fun u_22 H locs q_20 hP hD hS => ?_)
              obtain rfl := q_20
              have hP : va_P (dC, dI) vwCl (cW g ty pl ac ft md (zOpen Z Z.2.1 (zEn Z a0) 1 (b0 &&& 7)) P) H := hP
              have hD : va_D A (cW g ty pl ac ft md (zOpen Z Z.2.1 (zEn Z a0) 1 (b0 &&& 7)) P) := hD
              refine cr_v (wo := fun u : Int64 × cZ => cW g ty pl u.1 ft md u.2 P) ((ac, zOpen Z Z.2.1 (zEn Z a0) 1 (b0 &&& 7))) hx hb hr hlk hS hP hD ?_ dX11_control_68
              exact (by first | rfl | (simp only [zCtl, e_1, e_5, e_6, e_7, e_12, e_16, if_true, if_false]; done) | (simp only [zCtl, e_1, e_5, e_6, e_7, e_12, e_16, if_true, if_false]; rfl) | (simp [zCtl, e_1, e_5, e_6, e_7, e_12, e_16]; done))
            · show _
              refine lv_tableOut (tgt := 127) hx hb dX11_control_1 (by have q0 := lv_neT e_1 (a := 40) rfl; have q1 := lv_neT e_5 (a := 41) rfl; have q2 := lv_neT e_6 (a := 42) rfl; have q3 := lv_neT e_7 (a := 43) rfl; have q4 := lv_neT e_12 (a := 44) rfl; have q5 := lv_neT e_16 (a := 45) rfl; omega) (by decide) ?_
              refine lv_aload_n hx hb dX11_control_127 rfl (lv_at hl 0 rfl) ?_
              refine lv_dup hx hb dX11_control_128 rfl ?_
              refine va_get (D := (dC, dI)) (ci := 13) (v := .int Z.2.2.2.1) (C := RX11) (T := TX11) (N := 12) hx hb hg inG11 hown hK hP 0 rfl rfl 7 (by decide) (hg _ wF_X11_37) (fun _ h9 => h9) rfl dX11_control_129 ?_
              refine lv_iconst (v := 1) hx hb dX11_control_132 (by decide) ?_
              refine lv_iadd hx hb dX11_control_133 ?_
              refine va_put (D := (dC, dI)) (ci := 13) (v := .int (Z.2.2.2.1 + 1)) (ty := .int) (C := RX11) (T := TX11) (N := 12) hx hb hg inG11 tyX11 tyX11_ok nmX11 hown hK hP hD hS 0 rfl rfl 7 (by decide) (hg _ wF_X11_37) (fun _ h9 => h9) rfl (by decide +kernel) rfl rfl (Nat.le_of_ble_eq_true rfl) dX11_control_134 (fun H locs hP hD hS => ?_)
              have hP : va_P (dC, dI) vwCl (cW g ty pl ac ft md (Z.1, Z.2.1, Z.2.2.1, (Z.2.2.2.1 + 1), Z.2.2.2.2.1, Z.2.2.2.2.2.1, Z.2.2.2.2.2.2.1, Z.2.2.2.2.2.2.2.1, Z.2.2.2.2.2.2.2.2.1, Z.2.2.2.2.2.2.2.2.2.1, Z.2.2.2.2.2.2.2.2.2.2.1, Z.2.2.2.2.2.2.2.2.2.2.2) P) H := hP
              have hD : va_D A (cW g ty pl ac ft md (Z.1, Z.2.1, Z.2.2.1, (Z.2.2.2.1 + 1), Z.2.2.2.2.1, Z.2.2.2.2.2.1, Z.2.2.2.2.2.2.1, Z.2.2.2.2.2.2.2.1, Z.2.2.2.2.2.2.2.2.1, Z.2.2.2.2.2.2.2.2.2.1, Z.2.2.2.2.2.2.2.2.2.2.1, Z.2.2.2.2.2.2.2.2.2.2.2) P) := hD
              refine cr_v (wo := fun u : Int64 × cZ => cW g ty pl u.1 ft md u.2 P) ((ac, (Z.1, Z.2.1, Z.2.2.1, (Z.2.2.2.1 + 1), Z.2.2.2.2.1, Z.2.2.2.2.2.1, Z.2.2.2.2.2.2.1, Z.2.2.2.2.2.2.2.1, Z.2.2.2.2.2.2.2.2.1, Z.2.2.2.2.2.2.2.2.2.1, Z.2.2.2.2.2.2.2.2.2.2.1, Z.2.2.2.2.2.2.2.2.2.2.2))) hx hb hr hlk hS hP hD ?_ dX11_control_137
              exact (by first | rfl | (simp only [zCtl, e_1, e_5, e_6, e_7, e_12, e_16, if_true, if_false]; done) | (simp only [zCtl, e_1, e_5, e_6, e_7, e_12, e_16, if_true, if_false]; rfl) | (simp [zCtl, e_1, e_5, e_6, e_7, e_12, e_16]; done))

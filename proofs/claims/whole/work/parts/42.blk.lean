set_option maxHeartbeats 800000 in
set_option maxRecDepth 100000 in
theorem cf_X1_open (l : Launch) (dC : Nat → ClassId) (dI : Nat → Nat → Nat) (g : Nat → Nat) (ty : Nat → ClassId) (sz : Nat) (pl : Nat → Option Nat) (ac : Int64) (ft : Int32) (md : Int32) (Z : cZ) (P : cQ) (a0 : Int32) (b0 : Int32) (c0 : Int32) (e0 : Int32) (pre0 : zOk Z) : Met l yX1_open (Cond.code yX1_open cX1_open 5 none :: gT) ({ frames := 0, cells := 0, slots := 0, locals := 0 }) (cP (dC, dI) (cTy ty) (cW g ty pl ac ft md Z P) sz [.ref (g 3), .int a0, .int b0, .int c0, .int e0]) (va_Qv (fun (u : cZ) => (zOpen Z a0 b0 c0 e0) = u) (cB (dC, dI) (fun u : cZ => cW g ty pl ac ft md u P) (va_A (cW g ty pl ac ft md Z P) sz)) (va_A (cW g ty pl ac ft md Z P) sz)) 0 0 (va_A (cW g ty pl ac ft md Z P) sz) := by
  refine cc_of (Qa := fun A => va_Qv (fun (u : cZ) => (zOpen Z a0 b0 c0 e0) = u) (cB (dC, dI) (fun u : cZ => cW g ty pl ac ft md u P) A) A) (by decide) (Nat.le_of_ble_eq_true rfl) ?_
  intro p e s m below meth c A hx hb hr hml hown hg hlk hmn hP hK hD hT hS hA hsz ls hl
  have hown : s.vm.findClass RX1 = some m.cls := hown
  have hl : lv_has ls 5 [(0, .ref (g 3)), (1, .int a0), (2, .int b0), (3, .int c0), (4, .int e0)] := hl
  refine lv_aload_n hx hb dX1_open_0 rfl (lv_at hl 0 rfl) ?_
  refine va_get (D := (dC, dI)) (ci := 6) (v := .int Z.2.2.2.2.2.2.2.2.2.2.2) (C := RX1) (T := TX1) (N := 5) hx hb hg inG1 hown hK hP 3 rfl rfl 4 (by decide) (hg _ wF_X1_24) (fun _ h9 => h9) rfl dX1_open_1 ?_
  refine lv_sipush (v := 200) hx hb dX1_open_4 (by decide) ?_
  refine lv_icmp_ge (tgt := 61) hx hb dX1_open_7 (by decide) (fun c_1 => ?_) (fun c_1 => ?_)
  · show _
    refine cr_v (wo := fun u : cZ => cW g ty pl ac ft md u P) (Z) hx hb hr hlk hS hP hD ?_ dX1_open_61
    exact (by first | rfl | (simp only [zOpen, c_1, if_true, if_false]; done) | (simp only [zOpen, c_1, if_true, if_false]; rfl) | (simp [zOpen, c_1]; done))
  · show _
    refine lv_aload_n hx hb dX1_open_10 rfl (lv_at hl 0 rfl) ?_
    refine va_get (D := (dC, dI)) (ci := 6) (v := .ref (g 4)) (C := RX1) (T := TX1) (N := 5) hx hb hg inG1 hown hK hP 3 rfl rfl 0 (by decide) (hg _ wF_X1_9) (fun _ h9 => h9) rfl dX1_open_11 ?_
    refine lv_aload_n hx hb dX1_open_14 rfl (lv_at hl 0 rfl) ?_
    refine va_get (D := (dC, dI)) (ci := 6) (v := .int Z.2.2.2.2.2.2.2.2.2.2.2) (C := RX1) (T := TX1) (N := 5) hx hb hg inG1 hown hK hP 3 rfl rfl 4 (by decide) (hg _ wF_X1_24) (fun _ h9 => h9) rfl dX1_open_15 ?_
    refine lv_iload_n hx hb dX1_open_18 rfl (lv_at hl 1 rfl) ?_
    refine va_iast hx hb hK hP hD hS 4 0 rfl rfl (by first | assumption | exact dep_in pre0.1.1 (by assumption) | exact dep_in1 (by assumption) pre0.1.2 | exact dep_in0 (by assumption) pre0.1.1 pre0.1.2) dX1_open_19 (fun H locs hP hD hS => ?_)
    have hP : va_P (dC, dI) vwCl (cW g ty pl ac ft md (Z.1, Z.2.1, Z.2.2.1, Z.2.2.2.1, Z.2.2.2.2.1, Z.2.2.2.2.2.1, Z.2.2.2.2.2.2.1, (upd Z.2.2.2.2.2.2.2.1 Z.2.2.2.2.2.2.2.2.2.2.2.toNatClampNeg a0), Z.2.2.2.2.2.2.2.2.1, Z.2.2.2.2.2.2.2.2.2.1, Z.2.2.2.2.2.2.2.2.2.2.1, Z.2.2.2.2.2.2.2.2.2.2.2) P) H := hP
    have hD : va_D A (cW g ty pl ac ft md (Z.1, Z.2.1, Z.2.2.1, Z.2.2.2.1, Z.2.2.2.2.1, Z.2.2.2.2.2.1, Z.2.2.2.2.2.2.1, (upd Z.2.2.2.2.2.2.2.1 Z.2.2.2.2.2.2.2.2.2.2.2.toNatClampNeg a0), Z.2.2.2.2.2.2.2.2.1, Z.2.2.2.2.2.2.2.2.2.1, Z.2.2.2.2.2.2.2.2.2.2.1, Z.2.2.2.2.2.2.2.2.2.2.2) P) := hD
    refine lv_aload_n hx hb dX1_open_20 rfl (lv_at hl 0 rfl) ?_
    refine va_get (D := (dC, dI)) (ci := 6) (v := .ref (g 5)) (C := RX1) (T := TX1) (N := 5) hx hb hg inG1 hown hK hP 3 rfl rfl 1 (by decide) (hg _ wF_X1_15) (fun _ h9 => h9) rfl dX1_open_21 ?_
    refine lv_aload_n hx hb dX1_open_24 rfl (lv_at hl 0 rfl) ?_
    refine va_get (D := (dC, dI)) (ci := 6) (v := .int Z.2.2.2.2.2.2.2.2.2.2.2) (C := RX1) (T := TX1) (N := 5) hx hb hg inG1 hown hK hP 3 rfl rfl 4 (by decide) (hg _ wF_X1_24) (fun _ h9 => h9) rfl dX1_open_25 ?_
    refine lv_iload_n hx hb dX1_open_28 rfl (lv_at hl 2 rfl) ?_
    refine va_iast hx hb hK hP hD hS 5 0 rfl rfl (by first | assumption | exact dep_in pre0.1.1 (by assumption) | exact dep_in1 (by assumption) pre0.1.2 | exact dep_in0 (by assumption) pre0.1.1 pre0.1.2) dX1_open_29 (fun H locs hP hD hS => ?_)
    have hP : va_P (dC, dI) vwCl (cW g ty pl ac ft md (Z.1, Z.2.1, Z.2.2.1, Z.2.2.2.1, Z.2.2.2.2.1, Z.2.2.2.2.2.1, Z.2.2.2.2.2.2.1, (upd Z.2.2.2.2.2.2.2.1 Z.2.2.2.2.2.2.2.2.2.2.2.toNatClampNeg a0), (upd Z.2.2.2.2.2.2.2.2.1 Z.2.2.2.2.2.2.2.2.2.2.2.toNatClampNeg b0), Z.2.2.2.2.2.2.2.2.2.1, Z.2.2.2.2.2.2.2.2.2.2.1, Z.2.2.2.2.2.2.2.2.2.2.2) P) H := hP
    have hD : va_D A (cW g ty pl ac ft md (Z.1, Z.2.1, Z.2.2.1, Z.2.2.2.1, Z.2.2.2.2.1, Z.2.2.2.2.2.1, Z.2.2.2.2.2.2.1, (upd Z.2.2.2.2.2.2.2.1 Z.2.2.2.2.2.2.2.2.2.2.2.toNatClampNeg a0), (upd Z.2.2.2.2.2.2.2.2.1 Z.2.2.2.2.2.2.2.2.2.2.2.toNatClampNeg b0), Z.2.2.2.2.2.2.2.2.2.1, Z.2.2.2.2.2.2.2.2.2.2.1, Z.2.2.2.2.2.2.2.2.2.2.2) P) := hD
    refine lv_aload_n hx hb dX1_open_30 rfl (lv_at hl 0 rfl) ?_
    refine va_get (D := (dC, dI)) (ci := 6) (v := .ref (g 6)) (C := RX1) (T := TX1) (N := 5) hx hb hg inG1 hown hK hP 3 rfl rfl 2 (by decide) (hg _ wF_X1_18) (fun _ h9 => h9) rfl dX1_open_31 ?_
    refine lv_aload_n hx hb dX1_open_34 rfl (lv_at hl 0 rfl) ?_
    refine va_get (D := (dC, dI)) (ci := 6) (v := .int Z.2.2.2.2.2.2.2.2.2.2.2) (C := RX1) (T := TX1) (N := 5) hx hb hg inG1 hown hK hP 3 rfl rfl 4 (by decide) (hg _ wF_X1_24) (fun _ h9 => h9) rfl dX1_open_35 ?_
    refine lv_iload_n hx hb dX1_open_38 rfl (lv_at hl 3 rfl) ?_
    refine va_iast hx hb hK hP hD hS 6 0 rfl rfl (by first | assumption | exact dep_in pre0.1.1 (by assumption) | exact dep_in1 (by assumption) pre0.1.2 | exact dep_in0 (by assumption) pre0.1.1 pre0.1.2) dX1_open_39 (fun H locs hP hD hS => ?_)
    have hP : va_P (dC, dI) vwCl (cW g ty pl ac ft md (Z.1, Z.2.1, Z.2.2.1, Z.2.2.2.1, Z.2.2.2.2.1, Z.2.2.2.2.2.1, Z.2.2.2.2.2.2.1, (upd Z.2.2.2.2.2.2.2.1 Z.2.2.2.2.2.2.2.2.2.2.2.toNatClampNeg a0), (upd Z.2.2.2.2.2.2.2.2.1 Z.2.2.2.2.2.2.2.2.2.2.2.toNatClampNeg b0), (upd Z.2.2.2.2.2.2.2.2.2.1 Z.2.2.2.2.2.2.2.2.2.2.2.toNatClampNeg c0), Z.2.2.2.2.2.2.2.2.2.2.1, Z.2.2.2.2.2.2.2.2.2.2.2) P) H := hP
    have hD : va_D A (cW g ty pl ac ft md (Z.1, Z.2.1, Z.2.2.1, Z.2.2.2.1, Z.2.2.2.2.1, Z.2.2.2.2.2.1, Z.2.2.2.2.2.2.1, (upd Z.2.2.2.2.2.2.2.1 Z.2.2.2.2.2.2.2.2.2.2.2.toNatClampNeg a0), (upd Z.2.2.2.2.2.2.2.2.1 Z.2.2.2.2.2.2.2.2.2.2.2.toNatClampNeg b0), (upd Z.2.2.2.2.2.2.2.2.2.1 Z.2.2.2.2.2.2.2.2.2.2.2.toNatClampNeg c0), Z.2.2.2.2.2.2.2.2.2.2.1, Z.2.2.2.2.2.2.2.2.2.2.2) P) := hD
    refine lv_aload_n hx hb dX1_open_40 rfl (lv_at hl 0 rfl) ?_
    refine va_get (D := (dC, dI)) (ci := 6) (v := .ref (g 7)) (C := RX1) (T := TX1) (N := 5) hx hb hg inG1 hown hK hP 3 rfl rfl 3 (by decide) (hg _ wF_X1_21) (fun _ h9 => h9) rfl dX1_open_41 ?_
    refine lv_aload_n hx hb dX1_open_44 rfl (lv_at hl 0 rfl) ?_
    refine va_get (D := (dC, dI)) (ci := 6) (v := .int Z.2.2.2.2.2.2.2.2.2.2.2) (C := RX1) (T := TX1) (N := 5) hx hb hg inG1 hown hK hP 3 rfl rfl 4 (by decide) (hg _ wF_X1_24) (fun _ h9 => h9) rfl dX1_open_45 ?_
    refine lv_iload hx hb dX1_open_48 (lv_at hl 4 rfl) ?_
    refine va_iast hx hb hK hP hD hS 7 0 rfl rfl (by first | assumption | exact dep_in pre0.1.1 (by assumption) | exact dep_in1 (by assumption) pre0.1.2 | exact dep_in0 (by assumption) pre0.1.1 pre0.1.2) dX1_open_50 (fun H locs hP hD hS => ?_)
    have hP : va_P (dC, dI) vwCl (cW g ty pl ac ft md (Z.1, Z.2.1, Z.2.2.1, Z.2.2.2.1, Z.2.2.2.2.1, Z.2.2.2.2.2.1, Z.2.2.2.2.2.2.1, (upd Z.2.2.2.2.2.2.2.1 Z.2.2.2.2.2.2.2.2.2.2.2.toNatClampNeg a0), (upd Z.2.2.2.2.2.2.2.2.1 Z.2.2.2.2.2.2.2.2.2.2.2.toNatClampNeg b0), (upd Z.2.2.2.2.2.2.2.2.2.1 Z.2.2.2.2.2.2.2.2.2.2.2.toNatClampNeg c0), (upd Z.2.2.2.2.2.2.2.2.2.2.1 Z.2.2.2.2.2.2.2.2.2.2.2.toNatClampNeg e0), Z.2.2.2.2.2.2.2.2.2.2.2) P) H := hP
    have hD : va_D A (cW g ty pl ac ft md (Z.1, Z.2.1, Z.2.2.1, Z.2.2.2.1, Z.2.2.2.2.1, Z.2.2.2.2.2.1, Z.2.2.2.2.2.2.1, (upd Z.2.2.2.2.2.2.2.1 Z.2.2.2.2.2.2.2.2.2.2.2.toNatClampNeg a0), (upd Z.2.2.2.2.2.2.2.2.1 Z.2.2.2.2.2.2.2.2.2.2.2.toNatClampNeg b0), (upd Z.2.2.2.2.2.2.2.2.2.1 Z.2.2.2.2.2.2.2.2.2.2.2.toNatClampNeg c0), (upd Z.2.2.2.2.2.2.2.2.2.2.1 Z.2.2.2.2.2.2.2.2.2.2.2.toNatClampNeg e0), Z.2.2.2.2.2.2.2.2.2.2.2) P) := hD
    refine lv_aload_n hx hb dX1_open_51 rfl (lv_at hl 0 rfl) ?_
    refine lv_dup hx hb dX1_open_52 rfl ?_
    refine va_get (D := (dC, dI)) (ci := 6) (v := .int Z.2.2.2.2.2.2.2.2.2.2.2) (C := RX1) (T := TX1) (N := 5) hx hb hg inG1 hown hK hP 3 rfl rfl 4 (by decide) (hg _ wF_X1_24) (fun _ h9 => h9) rfl dX1_open_53 ?_
    refine lv_iconst (v := 1) hx hb dX1_open_56 (by decide) ?_
    refine lv_iadd hx hb dX1_open_57 ?_
    refine va_put (D := (dC, dI)) (ci := 6) (v := .int (Z.2.2.2.2.2.2.2.2.2.2.2 + 1)) (ty := .int) (C := RX1) (T := TX1) (N := 5) hx hb hg inG1 tyX1 tyX1_ok nmX1 hown hK hP hD hS 3 rfl rfl 4 (by decide) (hg _ wF_X1_24) (fun _ h9 => h9) rfl (by decide +kernel) rfl rfl (Nat.le_of_ble_eq_true rfl) dX1_open_58 (fun H locs hP hD hS => ?_)
    have hP : va_P (dC, dI) vwCl (cW g ty pl ac ft md (Z.1, Z.2.1, Z.2.2.1, Z.2.2.2.1, Z.2.2.2.2.1, Z.2.2.2.2.2.1, Z.2.2.2.2.2.2.1, (upd Z.2.2.2.2.2.2.2.1 Z.2.2.2.2.2.2.2.2.2.2.2.toNatClampNeg a0), (upd Z.2.2.2.2.2.2.2.2.1 Z.2.2.2.2.2.2.2.2.2.2.2.toNatClampNeg b0), (upd Z.2.2.2.2.2.2.2.2.2.1 Z.2.2.2.2.2.2.2.2.2.2.2.toNatClampNeg c0), (upd Z.2.2.2.2.2.2.2.2.2.2.1 Z.2.2.2.2.2.2.2.2.2.2.2.toNatClampNeg e0), (Z.2.2.2.2.2.2.2.2.2.2.2 + 1)) P) H := hP
    have hD : va_D A (cW g ty pl ac ft md (Z.1, Z.2.1, Z.2.2.1, Z.2.2.2.1, Z.2.2.2.2.1, Z.2.2.2.2.2.1, Z.2.2.2.2.2.2.1, (upd Z.2.2.2.2.2.2.2.1 Z.2.2.2.2.2.2.2.2.2.2.2.toNatClampNeg a0), (upd Z.2.2.2.2.2.2.2.2.1 Z.2.2.2.2.2.2.2.2.2.2.2.toNatClampNeg b0), (upd Z.2.2.2.2.2.2.2.2.2.1 Z.2.2.2.2.2.2.2.2.2.2.2.toNatClampNeg c0), (upd Z.2.2.2.2.2.2.2.2.2.2.1 Z.2.2.2.2.2.2.2.2.2.2.2.toNatClampNeg e0), (Z.2.2.2.2.2.2.2.2.2.2.2 + 1)) P) := hD
    refine cr_v (wo := fun u : cZ => cW g ty pl ac ft md u P) ((Z.1, Z.2.1, Z.2.2.1, Z.2.2.2.1, Z.2.2.2.2.1, Z.2.2.2.2.2.1, Z.2.2.2.2.2.2.1, (upd Z.2.2.2.2.2.2.2.1 Z.2.2.2.2.2.2.2.2.2.2.2.toNatClampNeg a0), (upd Z.2.2.2.2.2.2.2.2.1 Z.2.2.2.2.2.2.2.2.2.2.2.toNatClampNeg b0), (upd Z.2.2.2.2.2.2.2.2.2.1 Z.2.2.2.2.2.2.2.2.2.2.2.toNatClampNeg c0), (upd Z.2.2.2.2.2.2.2.2.2.2.1 Z.2.2.2.2.2.2.2.2.2.2.2.toNatClampNeg e0), (Z.2.2.2.2.2.2.2.2.2.2.2 + 1))) hx hb hr hlk hS hP hD ?_ dX1_open_61
    exact (by first | rfl | (simp only [zOpen, c_1, if_true, if_false]; done) | (simp only [zOpen, c_1, if_true, if_false]; rfl) | (simp [zOpen, c_1]; done))
set_option maxHeartbeats 800000 in
set_option maxRecDepth 100000 in
theorem cf_X1_drop (l : Launch) (dC : Nat → ClassId) (dI : Nat → Nat → Nat) (g : Nat → Nat) (ty : Nat → ClassId) (sz : Nat) (pl : Nat → Option Nat) (ac : Int64) (ft : Int32) (md : Int32) (Z : cZ) (P : cQ) (pre0 : zOk Z) : Met l yX1_drop (Cond.code yX1_drop cX1_drop 1 none :: gT) ({ frames := 0, cells := 0, slots := 0, locals := 0 }) (cP (dC, dI) (cTy ty) (cW g ty pl ac ft md Z P) sz [.ref (g 3)]) (va_Qv (fun (u : cZ) => (zDrop Z) = u) (cB (dC, dI) (fun u : cZ => cW g ty pl ac ft md u P) (va_A (cW g ty pl ac ft md Z P) sz)) (va_A (cW g ty pl ac ft md Z P) sz)) 0 0 (va_A (cW g ty pl ac ft md Z P) sz) := by
  refine cc_of (Qa := fun A => va_Qv (fun (u : cZ) => (zDrop Z) = u) (cB (dC, dI) (fun u : cZ => cW g ty pl ac ft md u P) A) A) (by decide) (Nat.le_of_ble_eq_true rfl) ?_
  intro p e s m below meth c A hx hb hr hml hown hg hlk hmn hP hK hD hT hS hA hsz ls hl
  have hown : s.vm.findClass RX1 = some m.cls := hown
  have hl : lv_has ls 1 [(0, .ref (g 3))] := hl
  refine lv_aload_n hx hb dX1_drop_0 rfl (lv_at hl 0 rfl) ?_
  refine va_get (D := (dC, dI)) (ci := 6) (v := .int Z.2.2.2.2.2.2.2.2.2.2.2) (C := RX1) (T := TX1) (N := 5) hx hb hg inG1 hown hK hP 3 rfl rfl 4 (by decide) (hg _ wF_X1_24) (fun _ h9 => h9) rfl dX1_drop_1 ?_
  refine lv_if_le (tgt := 17) hx hb dX1_drop_4 (by decide) (fun c_1 => ?_) (fun c_1 => ?_)
  · show _
    refine cr_v (wo := fun u : cZ => cW g ty pl ac ft md u P) (Z) hx hb hr hlk hS hP hD ?_ dX1_drop_17
    exact (by first | rfl | (simp only [zDrop, c_1, if_true, if_false]; done) | (simp only [zDrop, c_1, if_true, if_false]; rfl) | (simp [zDrop, c_1]; done))
  · show _
    refine lv_aload_n hx hb dX1_drop_7 rfl (lv_at hl 0 rfl) ?_
    refine lv_dup hx hb dX1_drop_8 rfl ?_
    refine va_get (D := (dC, dI)) (ci := 6) (v := .int Z.2.2.2.2.2.2.2.2.2.2.2) (C := RX1) (T := TX1) (N := 5) hx hb hg inG1 hown hK hP 3 rfl rfl 4 (by decide) (hg _ wF_X1_24) (fun _ h9 => h9) rfl dX1_drop_9 ?_
    refine lv_iconst (v := 1) hx hb dX1_drop_12 (by decide) ?_
    refine lv_isub hx hb dX1_drop_13 ?_
    refine va_put (D := (dC, dI)) (ci := 6) (v := .int (Z.2.2.2.2.2.2.2.2.2.2.2 - 1)) (ty := .int) (C := RX1) (T := TX1) (N := 5) hx hb hg inG1 tyX1 tyX1_ok nmX1 hown hK hP hD hS 3 rfl rfl 4 (by decide) (hg _ wF_X1_24) (fun _ h9 => h9) rfl (by decide +kernel) rfl rfl (Nat.le_of_ble_eq_true rfl) dX1_drop_14 (fun H locs hP hD hS => ?_)
    have hP : va_P (dC, dI) vwCl (cW g ty pl ac ft md (Z.1, Z.2.1, Z.2.2.1, Z.2.2.2.1, Z.2.2.2.2.1, Z.2.2.2.2.2.1, Z.2.2.2.2.2.2.1, Z.2.2.2.2.2.2.2.1, Z.2.2.2.2.2.2.2.2.1, Z.2.2.2.2.2.2.2.2.2.1, Z.2.2.2.2.2.2.2.2.2.2.1, (Z.2.2.2.2.2.2.2.2.2.2.2 - 1)) P) H := hP
    have hD : va_D A (cW g ty pl ac ft md (Z.1, Z.2.1, Z.2.2.1, Z.2.2.2.1, Z.2.2.2.2.1, Z.2.2.2.2.2.1, Z.2.2.2.2.2.2.1, Z.2.2.2.2.2.2.2.1, Z.2.2.2.2.2.2.2.2.1, Z.2.2.2.2.2.2.2.2.2.1, Z.2.2.2.2.2.2.2.2.2.2.1, (Z.2.2.2.2.2.2.2.2.2.2.2 - 1)) P) := hD
    refine cr_v (wo := fun u : cZ => cW g ty pl ac ft md u P) ((Z.1, Z.2.1, Z.2.2.1, Z.2.2.2.1, Z.2.2.2.2.1, Z.2.2.2.2.2.1, Z.2.2.2.2.2.2.1, Z.2.2.2.2.2.2.2.1, Z.2.2.2.2.2.2.2.2.1, Z.2.2.2.2.2.2.2.2.2.1, Z.2.2.2.2.2.2.2.2.2.2.1, (Z.2.2.2.2.2.2.2.2.2.2.2 - 1))) hx hb hr hlk hS hP hD ?_ dX1_drop_17
    exact (by first | rfl | (simp only [zDrop, c_1, if_true, if_false]; done) | (simp only [zDrop, c_1, if_true, if_false]; rfl) | (simp [zDrop, c_1]; done))
set_option maxHeartbeats 800000 in
set_option maxRecDepth 100000 in
theorem cf_X1_innerStart (l : Launch) (dC : Nat → ClassId) (dI : Nat → Nat → Nat) (g : Nat → Nat) (ty : Nat → ClassId) (sz : Nat) (pl : Nat → Option Nat) (ac : Int64) (ft : Int32) (md : Int32) (Z : cZ) (P : cQ) (pre0 : zOk Z) : Met l yX1_innerStart (Cond.code yX1_innerStart cX1_innerStart 1 (some .int) :: gT) ({ frames := 0, cells := 0, slots := 0, locals := 0 }) (cP (dC, dI) (cTy ty) (cW g ty pl ac ft md Z P) sz [.ref (g 3)]) (va_Qi (fun (rz : Int32) (u : Unit) => (zSta Z) = rz) (cB (dC, dI) (fun u : Unit => cW g ty pl ac ft md Z P) (va_A (cW g ty pl ac ft md Z P) sz)) (va_A (cW g ty pl ac ft md Z P) sz)) 0 0 (va_A (cW g ty pl ac ft md Z P) sz) := by
  refine cc_of (Qa := fun A => va_Qi (fun (rz : Int32) (u : Unit) => (zSta Z) = rz) (cB (dC, dI) (fun u : Unit => cW g ty pl ac ft md Z P) A) A) (by decide) (Nat.le_of_ble_eq_true rfl) ?_
  intro p e s m below meth c A hx hb hr hml hown hg hlk hmn hP hK hD hT hS hA hsz ls hl
  have hown : s.vm.findClass RX1 = some m.cls := hown
  have hl : lv_has ls 1 [(0, .ref (g 3))] := hl
  refine lv_aload_n hx hb dX1_innerStart_0 rfl (lv_at hl 0 rfl) ?_
  refine va_get (D := (dC, dI)) (ci := 6) (v := .int Z.2.2.2.2.2.2.2.2.2.2.2) (C := RX1) (T := TX1) (N := 5) hx hb hg inG1 hown hK hP 3 rfl rfl 4 (by decide) (hg _ wF_X1_24) (fun _ h9 => h9) rfl dX1_innerStart_1 ?_
  refine lv_if_le (tgt := 21) hx hb dX1_innerStart_4 (by decide) (fun c_1 => ?_) (fun c_1 => ?_)
  · show _
    refine lv_iconst (v := 0) hx hb dX1_innerStart_21 (by decide) ?_
    refine cr_i (wo := fun u : Unit => cW g ty pl ac ft md Z P) (()) hx hb hr hlk hS hP hD ?_ dX1_innerStart_22
    exact (by first | rfl | (simp only [zSta, c_1, if_true, if_false]; done) | (simp only [zSta, c_1, if_true, if_false]; rfl) | (simp [zSta, c_1]; done))
  · show _
    refine lv_aload_n hx hb dX1_innerStart_7 rfl (lv_at hl 0 rfl) ?_
    refine va_get (D := (dC, dI)) (ci := 6) (v := .ref (g 4)) (C := RX1) (T := TX1) (N := 5) hx hb hg inG1 hown hK hP 3 rfl rfl 0 (by decide) (hg _ wF_X1_9) (fun _ h9 => h9) rfl dX1_innerStart_8 ?_
    refine lv_aload_n hx hb dX1_innerStart_11 rfl (lv_at hl 0 rfl) ?_
    refine va_get (D := (dC, dI)) (ci := 6) (v := .int Z.2.2.2.2.2.2.2.2.2.2.2) (C := RX1) (T := TX1) (N := 5) hx hb hg inG1 hown hK hP 3 rfl rfl 4 (by decide) (hg _ wF_X1_24) (fun _ h9 => h9) rfl dX1_innerStart_12 ?_
    refine lv_iconst (v := 1) hx hb dX1_innerStart_15 (by decide) ?_
    refine lv_isub hx hb dX1_innerStart_16 ?_
    refine va_iald hx hb hK hP 4 0 rfl rfl (by first | assumption | exact dep_in pre0.1.1 (by assumption) | exact dep_in1 (by assumption) pre0.1.2 | exact dep_in0 (by assumption) pre0.1.1 pre0.1.2) dX1_innerStart_17 ?_
    refine lv_goto (tgt := 22) hx hb dX1_innerStart_18 (by decide) ?_
    refine cr_i (wo := fun u : Unit => cW g ty pl ac ft md Z P) (()) hx hb hr hlk hS hP hD ?_ dX1_innerStart_22
    exact (by first | rfl | (simp only [zSta, c_1, if_true, if_false]; done) | (simp only [zSta, c_1, if_true, if_false]; rfl) | (simp [zSta, c_1]; done))
set_option maxHeartbeats 800000 in
set_option maxRecDepth 100000 in
theorem cf_X1_innerEnd (l : Launch) (dC : Nat → ClassId) (dI : Nat → Nat → Nat) (g : Nat → Nat) (ty : Nat → ClassId) (sz : Nat) (pl : Nat → Option Nat) (ac : Int64) (ft : Int32) (md : Int32) (Z : cZ) (P : cQ) (pre0 : zOk Z) : Met l yX1_innerEnd (Cond.code yX1_innerEnd cX1_innerEnd 1 (some .int) :: gT) ({ frames := 0, cells := 0, slots := 0, locals := 0 }) (cP (dC, dI) (cTy ty) (cW g ty pl ac ft md Z P) sz [.ref (g 3)]) (va_Qi (fun (rz : Int32) (u : Unit) => (zEnd Z) = rz) (cB (dC, dI) (fun u : Unit => cW g ty pl ac ft md Z P) (va_A (cW g ty pl ac ft md Z P) sz)) (va_A (cW g ty pl ac ft md Z P) sz)) 0 0 (va_A (cW g ty pl ac ft md Z P) sz) := by
  refine cc_of (Qa := fun A => va_Qi (fun (rz : Int32) (u : Unit) => (zEnd Z) = rz) (cB (dC, dI) (fun u : Unit => cW g ty pl ac ft md Z P) A) A) (by decide) (Nat.le_of_ble_eq_true rfl) ?_
  intro p e s m below meth c A hx hb hr hml hown hg hlk hmn hP hK hD hT hS hA hsz ls hl
  have hown : s.vm.findClass RX1 = some m.cls := hown
  have hl : lv_has ls 1 [(0, .ref (g 3))] := hl
  refine lv_aload_n hx hb dX1_innerEnd_0 rfl (lv_at hl 0 rfl) ?_
  refine va_get (D := (dC, dI)) (ci := 6) (v := .int Z.2.2.2.2.2.2.2.2.2.2.2) (C := RX1) (T := TX1) (N := 5) hx hb hg inG1 hown hK hP 3 rfl rfl 4 (by decide) (hg _ wF_X1_24) (fun _ h9 => h9) rfl dX1_innerEnd_1 ?_
  refine lv_if_le (tgt := 21) hx hb dX1_innerEnd_4 (by decide) (fun c_1 => ?_) (fun c_1 => ?_)
  · show _
    refine lv_sipush (v := 256) hx hb dX1_innerEnd_21 (by decide) ?_
    refine cr_i (wo := fun u : Unit => cW g ty pl ac ft md Z P) (()) hx hb hr hlk hS hP hD ?_ dX1_innerEnd_24
    exact (by first | rfl | (simp only [zEnd, c_1, if_true, if_false]; done) | (simp only [zEnd, c_1, if_true, if_false]; rfl) | (simp [zEnd, c_1]; done))
  · show _
    refine lv_aload_n hx hb dX1_innerEnd_7 rfl (lv_at hl 0 rfl) ?_
    refine va_get (D := (dC, dI)) (ci := 6) (v := .ref (g 5)) (C := RX1) (T := TX1) (N := 5) hx hb hg inG1 hown hK hP 3 rfl rfl 1 (by decide) (hg _ wF_X1_15) (fun _ h9 => h9) rfl dX1_innerEnd_8 ?_
    refine lv_aload_n hx hb dX1_innerEnd_11 rfl (lv_at hl 0 rfl) ?_
    refine va_get (D := (dC, dI)) (ci := 6) (v := .int Z.2.2.2.2.2.2.2.2.2.2.2) (C := RX1) (T := TX1) (N := 5) hx hb hg inG1 hown hK hP 3 rfl rfl 4 (by decide) (hg _ wF_X1_24) (fun _ h9 => h9) rfl dX1_innerEnd_12 ?_
    refine lv_iconst (v := 1) hx hb dX1_innerEnd_15 (by decide) ?_
    refine lv_isub hx hb dX1_innerEnd_16 ?_
    refine va_iald hx hb hK hP 5 0 rfl rfl (by first | assumption | exact dep_in pre0.1.1 (by assumption) | exact dep_in1 (by assumption) pre0.1.2 | exact dep_in0 (by assumption) pre0.1.1 pre0.1.2) dX1_innerEnd_17 ?_
    refine lv_goto (tgt := 24) hx hb dX1_innerEnd_18 (by decide) ?_
    refine cr_i (wo := fun u : Unit => cW g ty pl ac ft md Z P) (()) hx hb hr hlk hS hP hD ?_ dX1_innerEnd_24
    exact (by first | rfl | (simp only [zEnd, c_1, if_true, if_false]; done) | (simp only [zEnd, c_1, if_true, if_false]; rfl) | (simp [zEnd, c_1]; done))
set_option maxHeartbeats 800000 in
set_option maxRecDepth 100000 in
theorem cf_X1_innerCatch (l : Launch) (dC : Nat → ClassId) (dI : Nat → Nat → Nat) (g : Nat → Nat) (ty : Nat → ClassId) (sz : Nat) (pl : Nat → Option Nat) (ac : Int64) (ft : Int32) (md : Int32) (Z : cZ) (P : cQ) (pre0 : zOk Z) : Met l yX1_innerCatch (Cond.code yX1_innerCatch cX1_innerCatch 1 (some .int) :: gT) ({ frames := 0, cells := 0, slots := 0, locals := 0 }) (cP (dC, dI) (cTy ty) (cW g ty pl ac ft md Z P) sz [.ref (g 3)]) (va_Qi (fun (rz : Int32) (u : Unit) => (zCat Z) = rz) (cB (dC, dI) (fun u : Unit => cW g ty pl ac ft md Z P) (va_A (cW g ty pl ac ft md Z P) sz)) (va_A (cW g ty pl ac ft md Z P) sz)) 0 0 (va_A (cW g ty pl ac ft md Z P) sz) := by
  refine cc_of (Qa := fun A => va_Qi (fun (rz : Int32) (u : Unit) => (zCat Z) = rz) (cB (dC, dI) (fun u : Unit => cW g ty pl ac ft md Z P) A) A) (by decide) (Nat.le_of_ble_eq_true rfl) ?_
  intro p e s m below meth c A hx hb hr hml hown hg hlk hmn hP hK hD hT hS hA hsz ls hl
  have hown : s.vm.findClass RX1 = some m.cls := hown
  have hl : lv_has ls 1 [(0, .ref (g 3))] := hl
  refine lv_aload_n hx hb dX1_innerCatch_0 rfl (lv_at hl 0 rfl) ?_
  refine va_get (D := (dC, dI)) (ci := 6) (v := .int Z.2.2.2.2.2.2.2.2.2.2.2) (C := RX1) (T := TX1) (N := 5) hx hb hg inG1 hown hK hP 3 rfl rfl 4 (by decide) (hg _ wF_X1_24) (fun _ h9 => h9) rfl dX1_innerCatch_1 ?_
  refine lv_if_le (tgt := 21) hx hb dX1_innerCatch_4 (by decide) (fun c_1 => ?_) (fun c_1 => ?_)
  · show _
    refine lv_bipush (v := 8) hx hb dX1_innerCatch_21 (by decide) ?_
    refine cr_i (wo := fun u : Unit => cW g ty pl ac ft md Z P) (()) hx hb hr hlk hS hP hD ?_ dX1_innerCatch_23
    exact (by first | rfl | (simp only [zCat, c_1, if_true, if_false]; done) | (simp only [zCat, c_1, if_true, if_false]; rfl) | (simp [zCat, c_1]; done))
  · show _
    refine lv_aload_n hx hb dX1_innerCatch_7 rfl (lv_at hl 0 rfl) ?_
    refine va_get (D := (dC, dI)) (ci := 6) (v := .ref (g 7)) (C := RX1) (T := TX1) (N := 5) hx hb hg inG1 hown hK hP 3 rfl rfl 3 (by decide) (hg _ wF_X1_21) (fun _ h9 => h9) rfl dX1_innerCatch_8 ?_
    refine lv_aload_n hx hb dX1_innerCatch_11 rfl (lv_at hl 0 rfl) ?_
    refine va_get (D := (dC, dI)) (ci := 6) (v := .int Z.2.2.2.2.2.2.2.2.2.2.2) (C := RX1) (T := TX1) (N := 5) hx hb hg inG1 hown hK hP 3 rfl rfl 4 (by decide) (hg _ wF_X1_24) (fun _ h9 => h9) rfl dX1_innerCatch_12 ?_
    refine lv_iconst (v := 1) hx hb dX1_innerCatch_15 (by decide) ?_
    refine lv_isub hx hb dX1_innerCatch_16 ?_
    refine va_iald hx hb hK hP 7 0 rfl rfl (by first | assumption | exact dep_in pre0.1.1 (by assumption) | exact dep_in1 (by assumption) pre0.1.2 | exact dep_in0 (by assumption) pre0.1.1 pre0.1.2) dX1_innerCatch_17 ?_
    refine lv_goto (tgt := 23) hx hb dX1_innerCatch_18 (by decide) ?_
    refine cr_i (wo := fun u : Unit => cW g ty pl ac ft md Z P) (()) hx hb hr hlk hS hP hD ?_ dX1_innerCatch_23
    exact (by first | rfl | (simp only [zCat, c_1, if_true, if_false]; done) | (simp only [zCat, c_1, if_true, if_false]; rfl) | (simp [zCat, c_1]; done))
set_option maxHeartbeats 800000 in
set_option maxRecDepth 100000 in
theorem cf_X1_takeTurn (l : Launch) (dC : Nat → ClassId) (dI : Nat → Nat → Nat) (g : Nat → Nat) (ty : Nat → ClassId) (sz : Nat) (pl : Nat → Option Nat) (ac : Int64) (ft : Int32) (md : Int32) (Z : cZ) (P : cQ) (pre0 : zOk Z) : Met l yX1_takeTurn (Cond.code yX1_takeTurn cX1_takeTurn 1 (some .boolean) :: gT) ({ frames := 0, cells := 0, slots := 0, locals := 0 }) (cP (dC, dI) (cTy ty) (cW g ty pl ac ft md Z P) sz [.ref (g 3)]) (va_Qi (fun (rz : Int32) (u : cZ) => (0 = rz ∧ Z = u ∧ zDue Z = false) ∨ (1 = rz ∧ (zTurn Z) = u ∧ zDue Z = true)) (cB (dC, dI) (fun u : cZ => cW g ty pl ac ft md u P) (va_A (cW g ty pl ac ft md Z P) sz)) (va_A (cW g ty pl ac ft md Z P) sz)) 0 0 (va_A (cW g ty pl ac ft md Z P) sz) := by
  refine cc_of (Qa := fun A => va_Qi (fun (rz : Int32) (u : cZ) => (0 = rz ∧ Z = u ∧ zDue Z = false) ∨ (1 = rz ∧ (zTurn Z) = u ∧ zDue Z = true)) (cB (dC, dI) (fun u : cZ => cW g ty pl ac ft md u P) A) A) (by decide) (Nat.le_of_ble_eq_true rfl) ?_
  intro p e s m below meth c A hx hb hr hml hown hg hlk hmn hP hK hD hT hS hA hsz ls hl
  have hown : s.vm.findClass RX1 = some m.cls := hown
  have hl : lv_has ls 1 [(0, .ref (g 3))] := hl
  refine lv_aload_n hx hb dX1_takeTurn_0 rfl (lv_at hl 0 rfl) ?_
  refine va_get (D := (dC, dI)) (ci := 6) (v := .int Z.2.2.2.2.2.2.2.2.2.2.2) (C := RX1) (T := TX1) (N := 5) hx hb hg inG1 hown hK hP 3 rfl rfl 4 (by decide) (hg _ wF_X1_24) (fun _ h9 => h9) rfl dX1_takeTurn_1 ?_
  refine lv_if_eq (tgt := 22) hx hb dX1_takeTurn_4 (by decide) (fun c_1 => ?_) (fun c_1 => ?_)
  · show _
    refine lv_iconst (v := 0) hx hb dX1_takeTurn_22 (by decide) ?_
    refine cr_z (wo := fun u : cZ => cW g ty pl ac ft md u P) (Z) hx hb hr hlk hS hP hD rfl ?_ dX1_takeTurn_23
    exact Or.inl ⟨rfl, rfl, (by first | (simp [zDue, *]; done))⟩
  · show _
    refine lv_aload_n hx hb dX1_takeTurn_7 rfl (lv_at hl 0 rfl) ?_
    refine va_get (D := (dC, dI)) (ci := 6) (v := .ref (g 6)) (C := RX1) (T := TX1) (N := 5) hx hb hg inG1 hown hK hP 3 rfl rfl 2 (by decide) (hg _ wF_X1_18) (fun _ h9 => h9) rfl dX1_takeTurn_8 ?_
    refine lv_aload_n hx hb dX1_takeTurn_11 rfl (lv_at hl 0 rfl) ?_
    refine va_get (D := (dC, dI)) (ci := 6) (v := .int Z.2.2.2.2.2.2.2.2.2.2.2) (C := RX1) (T := TX1) (N := 5) hx hb hg inG1 hown hK hP 3 rfl rfl 4 (by decide) (hg _ wF_X1_24) (fun _ h9 => h9) rfl dX1_takeTurn_12 ?_
    refine lv_iconst (v := 1) hx hb dX1_takeTurn_15 (by decide) ?_
    refine lv_isub hx hb dX1_takeTurn_16 ?_
    refine va_iald hx hb hK hP 6 0 rfl rfl (by first | assumption | exact dep_in pre0.1.1 (by assumption) | exact dep_in1 (by assumption) pre0.1.2 | exact dep_in0 (by assumption) pre0.1.1 pre0.1.2) dX1_takeTurn_17 ?_
    refine lv_iconst (v := 1) hx hb dX1_takeTurn_18 (by decide) ?_
    refine lv_icmp_gt (tgt := 24) hx hb dX1_takeTurn_19 (by decide) (fun c_2 => ?_) (fun c_2 => ?_)
    · show _
      refine lv_aload_n hx hb dX1_takeTurn_24 rfl (lv_at hl 0 rfl) ?_
      refine va_get (D := (dC, dI)) (ci := 6) (v := .ref (g 6)) (C := RX1) (T := TX1) (N := 5) hx hb hg inG1 hown hK hP 3 rfl rfl 2 (by decide) (hg _ wF_X1_18) (fun _ h9 => h9) rfl dX1_takeTurn_25 ?_
      refine lv_aload_n hx hb dX1_takeTurn_28 rfl (lv_at hl 0 rfl) ?_
      refine va_get (D := (dC, dI)) (ci := 6) (v := .int Z.2.2.2.2.2.2.2.2.2.2.2) (C := RX1) (T := TX1) (N := 5) hx hb hg inG1 hown hK hP 3 rfl rfl 4 (by decide) (hg _ wF_X1_24) (fun _ h9 => h9) rfl dX1_takeTurn_29 ?_
      refine lv_iconst (v := 1) hx hb dX1_takeTurn_32 (by decide) ?_
      refine lv_isub hx hb dX1_takeTurn_33 ?_
      refine lv_dup2_11 hx hb dX1_takeTurn_34 rfl rfl ?_
      refine va_iald hx hb hK hP 6 0 rfl rfl (by first | assumption | exact dep_in pre0.1.1 (by assumption) | exact dep_in1 (by assumption) pre0.1.2 | exact dep_in0 (by assumption) pre0.1.1 pre0.1.2) dX1_takeTurn_35 ?_
      refine lv_iconst (v := 1) hx hb dX1_takeTurn_36 (by decide) ?_
      refine lv_isub hx hb dX1_takeTurn_37 ?_
      refine va_iast hx hb hK hP hD hS 6 0 rfl rfl (by first | assumption | exact dep_in pre0.1.1 (by assumption) | exact dep_in1 (by assumption) pre0.1.2 | exact dep_in0 (by assumption) pre0.1.1 pre0.1.2) dX1_takeTurn_38 (fun H locs hP hD hS => ?_)
      have hP : va_P (dC, dI) vwCl (cW g ty pl ac ft md (Z.1, Z.2.1, Z.2.2.1, Z.2.2.2.1, Z.2.2.2.2.1, Z.2.2.2.2.2.1, Z.2.2.2.2.2.2.1, Z.2.2.2.2.2.2.2.1, Z.2.2.2.2.2.2.2.2.1, (upd Z.2.2.2.2.2.2.2.2.2.1 (Z.2.2.2.2.2.2.2.2.2.2.2 - 1).toNatClampNeg ((Z.2.2.2.2.2.2.2.2.2.1 (Z.2.2.2.2.2.2.2.2.2.2.2 - 1).toNatClampNeg) - 1)), Z.2.2.2.2.2.2.2.2.2.2.1, Z.2.2.2.2.2.2.2.2.2.2.2) P) H := hP
      have hD : va_D A (cW g ty pl ac ft md (Z.1, Z.2.1, Z.2.2.1, Z.2.2.2.1, Z.2.2.2.2.1, Z.2.2.2.2.2.1, Z.2.2.2.2.2.2.1, Z.2.2.2.2.2.2.2.1, Z.2.2.2.2.2.2.2.2.1, (upd Z.2.2.2.2.2.2.2.2.2.1 (Z.2.2.2.2.2.2.2.2.2.2.2 - 1).toNatClampNeg ((Z.2.2.2.2.2.2.2.2.2.1 (Z.2.2.2.2.2.2.2.2.2.2.2 - 1).toNatClampNeg) - 1)), Z.2.2.2.2.2.2.2.2.2.2.1, Z.2.2.2.2.2.2.2.2.2.2.2) P) := hD
      refine lv_iconst (v := 1) hx hb dX1_takeTurn_39 (by decide) ?_
      refine cr_z (wo := fun u : cZ => cW g ty pl ac ft md u P) ((Z.1, Z.2.1, Z.2.2.1, Z.2.2.2.1, Z.2.2.2.2.1, Z.2.2.2.2.2.1, Z.2.2.2.2.2.2.1, Z.2.2.2.2.2.2.2.1, Z.2.2.2.2.2.2.2.2.1, (upd Z.2.2.2.2.2.2.2.2.2.1 (Z.2.2.2.2.2.2.2.2.2.2.2 - 1).toNatClampNeg ((Z.2.2.2.2.2.2.2.2.2.1 (Z.2.2.2.2.2.2.2.2.2.2.2 - 1).toNatClampNeg) - 1)), Z.2.2.2.2.2.2.2.2.2.2.1, Z.2.2.2.2.2.2.2.2.2.2.2)) hx hb hr hlk hS hP hD rfl ?_ dX1_takeTurn_40
      exact Or.inr ⟨rfl, rfl, (by first | (simp [zDue, *]; done))⟩
    · show _
      refine lv_iconst (v := 0) hx hb dX1_takeTurn_22 (by decide) ?_
      refine cr_z (wo := fun u : cZ => cW g ty pl ac ft md u P) (Z) hx hb hr hlk hS hP hD rfl ?_ dX1_takeTurn_23
      exact Or.inl ⟨rfl, rfl, (by first | (simp [zDue, *]; done))⟩
set_option maxHeartbeats 800000 in
set_option maxRecDepth 100000 in
theorem cf_X11_closeBlock (l : Launch) (dC : Nat → ClassId) (dI : Nat → Nat → Nat) (g : Nat → Nat) (ty : Nat → ClassId) (sz : Nat) (pl : Nat → Option Nat) (ac : Int64) (ft : Int32) (md : Int32) (Z : cZ) (P : cQ) (pre0 : zOk Z) : Met l yX11_closeBlock (Cond.code yX11_closeBlock cX11_closeBlock 1 none :: gT) ({ frames := 1, cells := 0, slots := 0, locals := 20 }) (cP (dC, dI) (cTy ty) (cW g ty pl ac ft md Z P) sz [.ref (g 0)]) (va_Qv (fun (u : cZ) => (zClose Z) = u) (cB (dC, dI) (fun u : cZ => cW g ty pl ac ft md u P) (va_A (cW g ty pl ac ft md Z P) sz)) (va_A (cW g ty pl ac ft md Z P) sz)) 0 0 (va_A (cW g ty pl ac ft md Z P) sz) := by
  refine cc_of (Qa := fun A => va_Qv (fun (u : cZ) => (zClose Z) = u) (cB (dC, dI) (fun u : cZ => cW g ty pl ac ft md u P) A) A) (by decide) (Nat.le_of_ble_eq_true rfl) ?_
  intro p e s m below meth c A hx hb hr hml hown hg hlk hmn hP hK hD hT hS hA hsz ls hl
  have hown : s.vm.findClass RX11 = some m.cls := hown
  have hl : lv_has ls 1 [(0, .ref (g 0))] := hl
  refine lv_aload_n hx hb dX11_closeBlock_0 rfl (lv_at hl 0 rfl) ?_
  refine va_get (D := (dC, dI)) (ci := 13) (v := .ref (g 3)) (C := RX11) (T := TX11) (N := 12) hx hb hg inG11 hown hK hP 0 rfl rfl 2 (by decide) (hg _ wF_X11_22) (fun _ h9 => h9) rfl dX11_closeBlock_1 ?_
  refine cV_i (C := RX1) (n := 0) (rest := []) hx hb hml hown hg hT (cf_X1_innerCatch l dC dI g ty s.heap.size pl ac ft md Z P  (by assumption)) (cv_of hg wM_X11_146 wN_X1_innerCatch wL_X1_X1_innerCatch wK_X1_innerCatch wI_X1 (by decide +kernel) ⟨Nat.le_of_ble_eq_true rfl, Nat.le_of_ble_eq_true rfl⟩) hK hP hD hS hA (va_recv hK hP (ci := 6) (q0 := 3) rfl rfl) rfl hl.1 rfl (Nat.le_of_ble_eq_true rfl) dX11_closeBlock_4 ⟨Nat.le_of_ble_eq_true rfl, Nat.le_of_ble_eq_true rfl⟩ (fun r_2 u_3 H locs q_1 hP hD hS => ?_)
  obtain rfl := q_1
  have hP : va_P (dC, dI) vwCl (cW g ty pl ac ft md Z P) H := hP
  have hD : va_D A (cW g ty pl ac ft md Z P) := hD
  refine lv_bipush (v := 6) hx hb dX11_closeBlock_7 (by decide) ?_
  refine lv_icmp_ne (tgt := 22) hx hb dX11_closeBlock_9 (by decide) (fun c_4 => ?_) (fun c_4 => ?_)
  · show _
    refine lv_aload_n hx hb dX11_closeBlock_22 rfl (lv_at hl 0 rfl) ?_
    refine lv_dup hx hb dX11_closeBlock_23 rfl ?_
    refine va_get (D := (dC, dI)) (ci := 13) (v := .int Z.2.2.2.1) (C := RX11) (T := TX11) (N := 12) hx hb hg inG11 hown hK hP 0 rfl rfl 7 (by decide) (hg _ wF_X11_37) (fun _ h9 => h9) rfl dX11_closeBlock_24 ?_
    refine lv_iconst (v := 1) hx hb dX11_closeBlock_27 (by decide) ?_
    refine lv_iadd hx hb dX11_closeBlock_28 ?_
    refine va_put (D := (dC, dI)) (ci := 13) (v := .int (Z.2.2.2.1 + 1)) (ty := .int) (C := RX11) (T := TX11) (N := 12) hx hb hg inG11 tyX11 tyX11_ok nmX11 hown hK hP hD hS 0 rfl rfl 7 (by decide) (hg _ wF_X11_37) (fun _ h9 => h9) rfl (by decide +kernel) rfl rfl (Nat.le_of_ble_eq_true rfl) dX11_closeBlock_29 (fun H locs hP hD hS => ?_)
    have hP : va_P (dC, dI) vwCl (cW g ty pl ac ft md (Z.1, Z.2.1, Z.2.2.1, (Z.2.2.2.1 + 1), Z.2.2.2.2.1, Z.2.2.2.2.2.1, Z.2.2.2.2.2.2.1, Z.2.2.2.2.2.2.2.1, Z.2.2.2.2.2.2.2.2.1, Z.2.2.2.2.2.2.2.2.2.1, Z.2.2.2.2.2.2.2.2.2.2.1, Z.2.2.2.2.2.2.2.2.2.2.2) P) H := hP
    have hD : va_D A (cW g ty pl ac ft md (Z.1, Z.2.1, Z.2.2.1, (Z.2.2.2.1 + 1), Z.2.2.2.2.1, Z.2.2.2.2.2.1, Z.2.2.2.2.2.2.1, Z.2.2.2.2.2.2.2.1, Z.2.2.2.2.2.2.2.2.1, Z.2.2.2.2.2.2.2.2.2.1, Z.2.2.2.2.2.2.2.2.2.2.1, Z.2.2.2.2.2.2.2.2.2.2.2) P) := hD
    refine lv_aload_n hx hb dX11_closeBlock_32 rfl (lv_at hl 0 rfl) ?_
    refine va_get (D := (dC, dI)) (ci := 13) (v := .ref (g 3)) (C := RX11) (T := TX11) (N := 12) hx hb hg inG11 hown hK hP 0 rfl rfl 2 (by decide) (hg _ wF_X11_22) (fun _ h9 => h9) rfl dX11_closeBlock_33 ?_
    refine cV_v (C := RX1) (n := 0) (rest := []) hx hb hml hown hg hT (cf_X1_drop l dC dI g ty H.size pl ac ft md (Z.1, Z.2.1, Z.2.2.1, (Z.2.2.2.1 + 1), Z.2.2.2.2.1, Z.2.2.2.2.2.1, Z.2.2.2.2.2.2.1, Z.2.2.2.2.2.2.2.1, Z.2.2.2.2.2.2.2.2.1, Z.2.2.2.2.2.2.2.2.2.1, Z.2.2.2.2.2.2.2.2.2.2.1, Z.2.2.2.2.2.2.2.2.2.2.2) P  (by first | exact zok_dn pre0 | exact zok_dn (zok_fin pre0))) (cv_of hg wM_X11_149 wN_X1_drop wL_X1_X1_drop wK_X1_drop wI_X1 (by decide +kernel) ⟨Nat.le_of_ble_eq_true rfl, Nat.le_of_ble_eq_true rfl⟩) hK hP hD hS hA (va_recv hK hP (ci := 6) (q0 := 3) rfl rfl) rfl hl.1 rfl (Nat.le_of_ble_eq_true rfl) dX11_closeBlock_36 ⟨Nat.le_of_ble_eq_true rfl, Nat.le_of_ble_eq_true rfl⟩ (fun u_7 H locs q_5 hP hD hS => ?_)
    obtain rfl := q_5
    have hP : va_P (dC, dI) vwCl (cW g ty pl ac ft md (zDrop (Z.1, Z.2.1, Z.2.2.1, (Z.2.2.2.1 + 1), Z.2.2.2.2.1, Z.2.2.2.2.2.1, Z.2.2.2.2.2.2.1, Z.2.2.2.2.2.2.2.1, Z.2.2.2.2.2.2.2.2.1, Z.2.2.2.2.2.2.2.2.2.1, Z.2.2.2.2.2.2.2.2.2.2.1, Z.2.2.2.2.2.2.2.2.2.2.2)) P) H := hP
    have hD : va_D A (cW g ty pl ac ft md (zDrop (Z.1, Z.2.1, Z.2.2.1, (Z.2.2.2.1 + 1), Z.2.2.2.2.1, Z.2.2.2.2.2.1, Z.2.2.2.2.2.2.1, Z.2.2.2.2.2.2.2.1, Z.2.2.2.2.2.2.2.2.1, Z.2.2.2.2.2.2.2.2.2.1, Z.2.2.2.2.2.2.2.2.2.2.1, Z.2.2.2.2.2.2.2.2.2.2.2)) P) := hD
    refine cr_v (wo := fun u : cZ => cW g ty pl ac ft md u P) (zDrop (Z.1, Z.2.1, Z.2.2.1, (Z.2.2.2.1 + 1), Z.2.2.2.2.1, Z.2.2.2.2.2.1, Z.2.2.2.2.2.2.1, Z.2.2.2.2.2.2.2.1, Z.2.2.2.2.2.2.2.2.1, Z.2.2.2.2.2.2.2.2.2.1, Z.2.2.2.2.2.2.2.2.2.2.1, Z.2.2.2.2.2.2.2.2.2.2.2)) hx hb hr hlk hS hP hD ?_ dX11_closeBlock_39
    exact (by first | rfl | (simp only [zClose, c_4, if_true, if_false]; done) | (simp only [zClose, c_4, if_true, if_false]; rfl) | (simp [zClose, c_4]; done))
  · show _
    refine lv_aload_n hx hb dX11_closeBlock_12 rfl (lv_at hl 0 rfl) ?_
    refine lv_dup hx hb dX11_closeBlock_13 rfl ?_
    refine va_get (D := (dC, dI)) (ci := 13) (v := .int Z.2.2.2.2.2.1) (C := RX11) (T := TX11) (N := 12) hx hb hg inG11 hown hK hP 0 rfl rfl 9 (by decide) (hg _ wF_X11_75) (fun _ h9 => h9) rfl dX11_closeBlock_14 ?_
    refine lv_iconst (v := 1) hx hb dX11_closeBlock_17 (by decide) ?_
    refine lv_iadd hx hb dX11_closeBlock_18 ?_
    refine va_put (D := (dC, dI)) (ci := 13) (v := .int (Z.2.2.2.2.2.1 + 1)) (ty := .int) (C := RX11) (T := TX11) (N := 12) hx hb hg inG11 tyX11 tyX11_ok nmX11 hown hK hP hD hS 0 rfl rfl 9 (by decide) (hg _ wF_X11_75) (fun _ h9 => h9) rfl (by decide +kernel) rfl rfl (Nat.le_of_ble_eq_true rfl) dX11_closeBlock_19 (fun H locs hP hD hS => ?_)
    have hP : va_P (dC, dI) vwCl (cW g ty pl ac ft md (Z.1, Z.2.1, Z.2.2.1, Z.2.2.2.1, Z.2.2.2.2.1, (Z.2.2.2.2.2.1 + 1), Z.2.2.2.2.2.2.1, Z.2.2.2.2.2.2.2.1, Z.2.2.2.2.2.2.2.2.1, Z.2.2.2.2.2.2.2.2.2.1, Z.2.2.2.2.2.2.2.2.2.2.1, Z.2.2.2.2.2.2.2.2.2.2.2) P) H := hP
    have hD : va_D A (cW g ty pl ac ft md (Z.1, Z.2.1, Z.2.2.1, Z.2.2.2.1, Z.2.2.2.2.1, (Z.2.2.2.2.2.1 + 1), Z.2.2.2.2.2.2.1, Z.2.2.2.2.2.2.2.1, Z.2.2.2.2.2.2.2.2.1, Z.2.2.2.2.2.2.2.2.2.1, Z.2.2.2.2.2.2.2.2.2.2.1, Z.2.2.2.2.2.2.2.2.2.2.2) P) := hD
    refine lv_aload_n hx hb dX11_closeBlock_22 rfl (lv_at hl 0 rfl) ?_
    refine lv_dup hx hb dX11_closeBlock_23 rfl ?_
    refine va_get (D := (dC, dI)) (ci := 13) (v := .int Z.2.2.2.1) (C := RX11) (T := TX11) (N := 12) hx hb hg inG11 hown hK hP 0 rfl rfl 7 (by decide) (hg _ wF_X11_37) (fun _ h9 => h9) rfl dX11_closeBlock_24 ?_
    refine lv_iconst (v := 1) hx hb dX11_closeBlock_27 (by decide) ?_
    refine lv_iadd hx hb dX11_closeBlock_28 ?_
    refine va_put (D := (dC, dI)) (ci := 13) (v := .int (Z.2.2.2.1 + 1)) (ty := .int) (C := RX11) (T := TX11) (N := 12) hx hb hg inG11 tyX11 tyX11_ok nmX11 hown hK hP hD hS 0 rfl rfl 7 (by decide) (hg _ wF_X11_37) (fun _ h9 => h9) rfl (by decide +kernel) rfl rfl (Nat.le_of_ble_eq_true rfl) dX11_closeBlock_29 (fun H locs hP hD hS => ?_)
    have hP : va_P (dC, dI) vwCl (cW g ty pl ac ft md (Z.1, Z.2.1, Z.2.2.1, (Z.2.2.2.1 + 1), Z.2.2.2.2.1, (Z.2.2.2.2.2.1 + 1), Z.2.2.2.2.2.2.1, Z.2.2.2.2.2.2.2.1, Z.2.2.2.2.2.2.2.2.1, Z.2.2.2.2.2.2.2.2.2.1, Z.2.2.2.2.2.2.2.2.2.2.1, Z.2.2.2.2.2.2.2.2.2.2.2) P) H := hP
    have hD : va_D A (cW g ty pl ac ft md (Z.1, Z.2.1, Z.2.2.1, (Z.2.2.2.1 + 1), Z.2.2.2.2.1, (Z.2.2.2.2.2.1 + 1), Z.2.2.2.2.2.2.1, Z.2.2.2.2.2.2.2.1, Z.2.2.2.2.2.2.2.2.1, Z.2.2.2.2.2.2.2.2.2.1, Z.2.2.2.2.2.2.2.2.2.2.1, Z.2.2.2.2.2.2.2.2.2.2.2) P) := hD
    refine lv_aload_n hx hb dX11_closeBlock_32 rfl (lv_at hl 0 rfl) ?_
    refine va_get (D := (dC, dI)) (ci := 13) (v := .ref (g 3)) (C := RX11) (T := TX11) (N := 12) hx hb hg inG11 hown hK hP 0 rfl rfl 2 (by decide) (hg _ wF_X11_22) (fun _ h9 => h9) rfl dX11_closeBlock_33 ?_
    refine cV_v (C := RX1) (n := 0) (rest := []) hx hb hml hown hg hT (cf_X1_drop l dC dI g ty H.size pl ac ft md (Z.1, Z.2.1, Z.2.2.1, (Z.2.2.2.1 + 1), Z.2.2.2.2.1, (Z.2.2.2.2.2.1 + 1), Z.2.2.2.2.2.2.1, Z.2.2.2.2.2.2.2.1, Z.2.2.2.2.2.2.2.2.1, Z.2.2.2.2.2.2.2.2.2.1, Z.2.2.2.2.2.2.2.2.2.2.1, Z.2.2.2.2.2.2.2.2.2.2.2) P  (by first | exact zok_dn pre0 | exact zok_dn (zok_fin pre0))) (cv_of hg wM_X11_149 wN_X1_drop wL_X1_X1_drop wK_X1_drop wI_X1 (by decide +kernel) ⟨Nat.le_of_ble_eq_true rfl, Nat.le_of_ble_eq_true rfl⟩) hK hP hD hS hA (va_recv hK hP (ci := 6) (q0 := 3) rfl rfl) rfl hl.1 rfl (Nat.le_of_ble_eq_true rfl) dX11_closeBlock_36 ⟨Nat.le_of_ble_eq_true rfl, Nat.le_of_ble_eq_true rfl⟩ (fun u_10 H locs q_8 hP hD hS => ?_)
    obtain rfl := q_8
    have hP : va_P (dC, dI) vwCl (cW g ty pl ac ft md (zDrop (Z.1, Z.2.1, Z.2.2.1, (Z.2.2.2.1 + 1), Z.2.2.2.2.1, (Z.2.2.2.2.2.1 + 1), Z.2.2.2.2.2.2.1, Z.2.2.2.2.2.2.2.1, Z.2.2.2.2.2.2.2.2.1, Z.2.2.2.2.2.2.2.2.2.1, Z.2.2.2.2.2.2.2.2.2.2.1, Z.2.2.2.2.2.2.2.2.2.2.2)) P) H := hP
    have hD : va_D A (cW g ty pl ac ft md (zDrop (Z.1, Z.2.1, Z.2.2.1, (Z.2.2.2.1 + 1), Z.2.2.2.2.1, (Z.2.2.2.2.2.1 + 1), Z.2.2.2.2.2.2.1, Z.2.2.2.2.2.2.2.1, Z.2.2.2.2.2.2.2.2.1, Z.2.2.2.2.2.2.2.2.2.1, Z.2.2.2.2.2.2.2.2.2.2.1, Z.2.2.2.2.2.2.2.2.2.2.2)) P) := hD
    refine cr_v (wo := fun u : cZ => cW g ty pl ac ft md u P) (zDrop (Z.1, Z.2.1, Z.2.2.1, (Z.2.2.2.1 + 1), Z.2.2.2.2.1, (Z.2.2.2.2.2.1 + 1), Z.2.2.2.2.2.2.1, Z.2.2.2.2.2.2.2.1, Z.2.2.2.2.2.2.2.2.1, Z.2.2.2.2.2.2.2.2.2.1, Z.2.2.2.2.2.2.2.2.2.2.1, Z.2.2.2.2.2.2.2.2.2.2.2)) hx hb hr hlk hS hP hD ?_ dX11_closeBlock_39
    exact (by first | rfl | (simp only [zClose, c_4, if_true, if_false]; done) | (simp only [zClose, c_4, if_true, if_false]; rfl) | (simp [zClose, c_4]; done))
set_option maxHeartbeats 800000 in
set_option maxRecDepth 100000 in
theorem c_X11_endOfNext (l : Launch) (dC : Nat → ClassId) (dI : Nat → Nat → Nat) (g : Nat → Nat) (ty : Nat → ClassId) (sz : Nat) (pl : Nat → Option Nat) (ac : Int64) (ft : Int32) (md : Int32) (Z : cZ) (P : cQ) (a0 : Int32) (pre0 : zOk Z) : Met l yX11_endOfNext (Cond.code yX11_endOfNext cX11_endOfNext 4 (some .int) :: gT) ({ frames := 1, cells := 0, slots := 0, locals := 21 }) (cP (dC, dI) (cTy ty) (cW g ty pl ac ft md Z P) sz [.ref (g 0), .int a0]) (va_Qi (fun (rz : Int32) (u : Unit) => (zEn Z a0) = rz) (cB (dC, dI) (fun u : Unit => cW g ty pl ac ft md Z P) (va_A (cW g ty pl ac ft md Z P) sz)) (va_A (cW g ty pl ac ft md Z P) sz)) 0 0 (va_A (cW g ty pl ac ft md Z P) sz) := by
  refine cc_of (Qa := fun A => va_Qi (fun (rz : Int32) (u : Unit) => (zEn Z a0) = rz) (cB (dC, dI) (fun u : Unit => cW g ty pl ac ft md Z P) A) A) (by decide) (Nat.le_of_ble_eq_true rfl) ?_
  intro p e s m below meth c A hx hb hr hml hown hg hlk hmn hP hK hD hT hS hA hsz ls hl
  have hown : s.vm.findClass RX11 = some m.cls := hown
  have hl : lv_has ls 4 [(0, .ref (g 0)), (1, .int a0)] := hl
  refine lv_aload_n hx hb dX11_endOfNext_0 rfl (lv_at hl 0 rfl) ?_
  refine va_get (D := (dC, dI)) (ci := 13) (v := .ref (g 3)) (C := RX11) (T := TX11) (N := 12) hx hb hg inG11 hown hK hP 0 rfl rfl 2 (by decide) (hg _ wF_X11_22) (fun _ h9 => h9) rfl dX11_endOfNext_1 ?_
  refine cV_i (C := RX1) (n := 0) (rest := []) hx hb hml hown hg hT (cf_X1_innerEnd l dC dI g ty s.heap.size pl ac ft md Z P  (by assumption)) (cv_of hg wM_X11_129 wN_X1_innerEnd wL_X1_X1_innerEnd wK_X1_innerEnd wI_X1 (by decide +kernel) ⟨Nat.le_of_ble_eq_true rfl, Nat.le_of_ble_eq_true rfl⟩) hK hP hD hS hA (va_recv hK hP (ci := 6) (q0 := 3) rfl rfl) rfl hl.1 rfl (Nat.le_of_ble_eq_true rfl) dX11_endOfNext_4 ⟨Nat.le_of_ble_eq_true rfl, Nat.le_of_ble_eq_true rfl⟩ (fun r_2 u_3 H locs q_1 hP hD hS => ?_)
  obtain rfl := q_1
  have hP : va_P (dC, dI) vwCl (cW g ty pl ac ft md Z P) H := hP
  have hD : va_D A (cW g ty pl ac ft md Z P) := hD
  refine lv_istore_n (lv' := [(2, .int (zEnd Z)), (0, .ref (g 0)), (1, .int a0)]) hx hb dX11_endOfNext_7 rfl hl (by decide) rfl (fun ls hl => ?_)
  refine lv_iload_n hx hb dX11_endOfNext_8 rfl (lv_at hl 2 rfl) ?_
  refine lv_iconst (v := 0) hx hb dX11_endOfNext_9 (by decide) ?_
  refine va_mmax hx hb (by rw [hml]; exact hl.1.symm) hown (hg _ wM_X11_53) (hg _ wS_J9_max) (hg _ wI_J9) (hg _ wK_J9_max) (Nat.le_of_ble_eq_true rfl) (Nat.le_of_ble_eq_true rfl) (by show 0 + 0 ≤ 0; omega) (by show 0 + 0 ≤ 0; omega) dX11_endOfNext_10 ?_
  refine lv_istore_n (lv' := [(3, .int (if a0 < 0 then 0 else a0)), (2, .int (zEnd Z)), (0, .ref (g 0)), (1, .int a0)]) hx hb dX11_endOfNext_13 rfl hl (by decide) rfl (fun ls hl => ?_)
  refine lv_iload_n hx hb dX11_endOfNext_14 rfl (lv_at hl 0 rfl) ?_
  refine lv_iload_n hx hb dX11_endOfNext_15 rfl (lv_at hl 1 rfl) ?_
  refine lv_aload_n hx hb dX11_endOfNext_16 rfl (lv_at hl 2 rfl) ?_
  refine va_get (D := (dC, dI)) (ci := 13) (v := .int Z.2.1) (C := RX11) (T := TX11) (N := 12) hx hb hg inG11 hown hK hP 0 rfl rfl 5 (by decide) (hg _ wF_X11_59) (fun _ h9 => h9) rfl dX11_endOfNext_17 ?_
  refine lv_isub hx hb dX11_endOfNext_20 ?_
  refine lv_icmp_ge (tgt := 33) hx hb dX11_endOfNext_21 (by decide) (fun c_4 => ?_) (fun c_4 => ?_)
  · show _
    refine lv_iload_n hx hb dX11_endOfNext_33 rfl (lv_at hl 1 rfl) ?_
    refine cr_i (wo := fun u : Unit => cW g ty pl ac ft md Z P) (()) hx hb hr hlk hS hP hD ?_ dX11_endOfNext_34
    exact (by first | rfl | (simp only [zEn, c_4, if_true, if_false]; done) | (simp only [zEn, c_4, if_true, if_false]; rfl) | (simp [zEn, c_4]; done))
  · show _
    refine lv_aload_n hx hb dX11_endOfNext_24 rfl (lv_at hl 2 rfl) ?_
    refine va_get (D := (dC, dI)) (ci := 13) (v := .int Z.2.1) (C := RX11) (T := TX11) (N := 12) hx hb hg inG11 hown hK hP 0 rfl rfl 5 (by decide) (hg _ wF_X11_59) (fun _ h9 => h9) rfl dX11_endOfNext_25 ?_
    refine lv_iload_n hx hb dX11_endOfNext_28 rfl (lv_at hl 0 rfl) ?_
    refine lv_iadd hx hb dX11_endOfNext_29 ?_
    refine lv_goto (tgt := 34) hx hb dX11_endOfNext_30 (by decide) ?_
    refine cr_i (wo := fun u : Unit => cW g ty pl ac ft md Z P) (()) hx hb hr hlk hS hP hD ?_ dX11_endOfNext_34
    exact (by first | rfl | (simp only [zEn, c_4, if_true, if_false]; done) | (simp only [zEn, c_4, if_true, if_false]; rfl) | (simp [zEn, c_4]; done))
set_option maxHeartbeats 800000 in
set_option maxRecDepth 100000 in
theorem c_X11_repeat (l : Launch) (dC : Nat → ClassId) (dI : Nat → Nat → Nat) (g : Nat → Nat) (ty : Nat → ClassId) (sz : Nat) (pl : Nat → Option Nat) (ac : Int64) (ft : Int32) (md : Int32) (Z : cZ) (P : cQ) (a0 : Int32) (b0 : Int32) (pre0 : zOk Z) : Met l yX11_repeat (Cond.code yX11_repeat cX11_repeat 4 none :: gT) ({ frames := 2, cells := 0, slots := 0, locals := 44 }) (cP (dC, dI) (cTy ty) (cW g ty pl ac ft md Z P) sz [.ref (g 0), .int a0, .int b0]) (va_Qv (fun (u : cZ) => (zRep Z a0 b0) = u) (cB (dC, dI) (fun u : cZ => cW g ty pl ac ft md u P) (va_A (cW g ty pl ac ft md Z P) sz)) (va_A (cW g ty pl ac ft md Z P) sz)) 0 0 (va_A (cW g ty pl ac ft md Z P) sz) := by
  refine cc_of (Qa := fun A => va_Qv (fun (u : cZ) => (zRep Z a0 b0) = u) (cB (dC, dI) (fun u : cZ => cW g ty pl ac ft md u P) A) A) (by decide) (Nat.le_of_ble_eq_true rfl) ?_
  intro p e s m below meth c A hx hb hr hml hown hg hlk hmn hP hK hD hT hS hA hsz ls hl
  have hown : s.vm.findClass RX11 = some m.cls := hown
  have hl : lv_has ls 4 [(0, .ref (g 0)), (1, .int a0), (2, .int b0)] := hl
  refine lv_aload_n hx hb dX11_repeat_0 rfl (lv_at hl 0 rfl) ?_
  refine lv_iload_n hx hb dX11_repeat_1 rfl (lv_at hl 1 rfl) ?_
  refine cV_i (C := RX11) (n := 1) (rest := []) hx hb hml hown hg hT (c_X11_endOfNext l dC dI g ty s.heap.size pl ac ft md Z P a0 (by first | assumption | exact pre0.1.1 | exact pre0.1.2)) (cv_of hg wM_X11_121 wN_X11_endOfNext wL_X11_X11_endOfNext wK_X11_endOfNext wI_X11 (by decide +kernel) ⟨Nat.le_of_ble_eq_true rfl, Nat.le_of_ble_eq_true rfl⟩) hK hP hD hS hA (va_recv hK hP (ci := 13) (q0 := 0) rfl rfl) rfl hl.1 rfl (Nat.le_of_ble_eq_true rfl) dX11_repeat_2 ⟨Nat.le_of_ble_eq_true rfl, Nat.le_of_ble_eq_true rfl⟩ (fun r_2 u_3 H locs q_1 hP hD hS => ?_)
  obtain rfl := q_1
  have hP : va_P (dC, dI) vwCl (cW g ty pl ac ft md Z P) H := hP
  have hD : va_D A (cW g ty pl ac ft md Z P) := hD
  refine lv_istore_n (lv' := [(3, .int (zEn Z a0)), (0, .ref (g 0)), (1, .int a0), (2, .int b0)]) hx hb dX11_repeat_5 rfl hl (by decide) rfl (fun ls hl => ?_)
  refine lv_iload_n hx hb dX11_repeat_6 rfl (lv_at hl 0 rfl) ?_
  refine lv_aload_n hx hb dX11_repeat_7 rfl (lv_at hl 1 rfl) ?_
  refine va_get (D := (dC, dI)) (ci := 13) (v := .int Z.2.1) (C := RX11) (T := TX11) (N := 12) hx hb hg inG11 hown hK hP 0 rfl rfl 5 (by decide) (hg _ wF_X11_59) (fun _ h9 => h9) rfl dX11_repeat_8 ?_
  refine lv_icmp_le (tgt := 36) hx hb dX11_repeat_11 (by decide) (fun c_4 => ?_) (fun c_4 => ?_)
  · show _
    refine lv_aload_n hx hb dX11_repeat_36 rfl (lv_at hl 1 rfl) ?_
    refine lv_iload_n hx hb dX11_repeat_37 rfl (lv_at hl 0 rfl) ?_
    refine va_put (D := (dC, dI)) (ci := 13) (v := .int (zEn Z a0)) (ty := .int) (C := RX11) (T := TX11) (N := 12) hx hb hg inG11 tyX11 tyX11_ok nmX11 hown hK hP hD hS 0 rfl rfl 5 (by decide) (hg _ wF_X11_59) (fun _ h9 => h9) rfl (by decide +kernel) rfl rfl (Nat.le_of_ble_eq_true rfl) dX11_repeat_38 (fun H locs hP hD hS => ?_)
    have hP : va_P (dC, dI) vwCl (cW g ty pl ac ft md (Z.1, zEn Z a0, Z.2.2.1, Z.2.2.2.1, Z.2.2.2.2.1, Z.2.2.2.2.2.1, Z.2.2.2.2.2.2.1, Z.2.2.2.2.2.2.2.1, Z.2.2.2.2.2.2.2.2.1, Z.2.2.2.2.2.2.2.2.2.1, Z.2.2.2.2.2.2.2.2.2.2.1, Z.2.2.2.2.2.2.2.2.2.2.2) P) H := hP
    have hD : va_D A (cW g ty pl ac ft md (Z.1, zEn Z a0, Z.2.2.1, Z.2.2.2.1, Z.2.2.2.2.1, Z.2.2.2.2.2.1, Z.2.2.2.2.2.2.1, Z.2.2.2.2.2.2.2.1, Z.2.2.2.2.2.2.2.2.1, Z.2.2.2.2.2.2.2.2.2.1, Z.2.2.2.2.2.2.2.2.2.2.1, Z.2.2.2.2.2.2.2.2.2.2.2) P) := hD
    refine lv_aload_n hx hb dX11_repeat_41 rfl (lv_at hl 1 rfl) ?_
    refine lv_dup hx hb dX11_repeat_42 rfl ?_
    refine va_get (D := (dC, dI)) (ci := 13) (v := .int Z.2.2.2.1) (C := RX11) (T := TX11) (N := 12) hx hb hg inG11 hown hK hP 0 rfl rfl 7 (by decide) (hg _ wF_X11_37) (fun _ h9 => h9) rfl dX11_repeat_43 ?_
    refine lv_iconst (v := 1) hx hb dX11_repeat_46 (by decide) ?_
    refine lv_iadd hx hb dX11_repeat_47 ?_
    refine va_put (D := (dC, dI)) (ci := 13) (v := .int (Z.2.2.2.1 + 1)) (ty := .int) (C := RX11) (T := TX11) (N := 12) hx hb hg inG11 tyX11 tyX11_ok nmX11 hown hK hP hD hS 0 rfl rfl 7 (by decide) (hg _ wF_X11_37) (fun _ h9 => h9) rfl (by decide +kernel) rfl rfl (Nat.le_of_ble_eq_true rfl) dX11_repeat_48 (fun H locs hP hD hS => ?_)
    have hP : va_P (dC, dI) vwCl (cW g ty pl ac ft md (Z.1, zEn Z a0, Z.2.2.1, (Z.2.2.2.1 + 1), Z.2.2.2.2.1, Z.2.2.2.2.2.1, Z.2.2.2.2.2.2.1, Z.2.2.2.2.2.2.2.1, Z.2.2.2.2.2.2.2.2.1, Z.2.2.2.2.2.2.2.2.2.1, Z.2.2.2.2.2.2.2.2.2.2.1, Z.2.2.2.2.2.2.2.2.2.2.2) P) H := hP
    have hD : va_D A (cW g ty pl ac ft md (Z.1, zEn Z a0, Z.2.2.1, (Z.2.2.2.1 + 1), Z.2.2.2.2.1, Z.2.2.2.2.2.1, Z.2.2.2.2.2.2.1, Z.2.2.2.2.2.2.2.1, Z.2.2.2.2.2.2.2.2.1, Z.2.2.2.2.2.2.2.2.2.1, Z.2.2.2.2.2.2.2.2.2.2.1, Z.2.2.2.2.2.2.2.2.2.2.2) P) := hD
    refine cr_v (wo := fun u : cZ => cW g ty pl ac ft md u P) ((Z.1, zEn Z a0, Z.2.2.1, (Z.2.2.2.1 + 1), Z.2.2.2.2.1, Z.2.2.2.2.2.1, Z.2.2.2.2.2.2.1, Z.2.2.2.2.2.2.2.1, Z.2.2.2.2.2.2.2.2.1, Z.2.2.2.2.2.2.2.2.2.1, Z.2.2.2.2.2.2.2.2.2.2.1, Z.2.2.2.2.2.2.2.2.2.2.2)) hx hb hr hlk hS hP hD ?_ dX11_repeat_51
    exact (by first | rfl | (simp only [zRep, c_4, if_true, if_false]; done) | (simp only [zRep, c_4, if_true, if_false]; rfl) | (simp [zRep, c_4]; done))
  · show _
    refine lv_iload_n hx hb dX11_repeat_14 rfl (lv_at hl 3 rfl) ?_
    refine lv_if_le (tgt := 36) hx hb dX11_repeat_15 (by decide) (fun c_5 => ?_) (fun c_5 => ?_)
    · show _
      refine lv_aload_n hx hb dX11_repeat_36 rfl (lv_at hl 1 rfl) ?_
      refine lv_iload_n hx hb dX11_repeat_37 rfl (lv_at hl 0 rfl) ?_
      refine va_put (D := (dC, dI)) (ci := 13) (v := .int (zEn Z a0)) (ty := .int) (C := RX11) (T := TX11) (N := 12) hx hb hg inG11 tyX11 tyX11_ok nmX11 hown hK hP hD hS 0 rfl rfl 5 (by decide) (hg _ wF_X11_59) (fun _ h9 => h9) rfl (by decide +kernel) rfl rfl (Nat.le_of_ble_eq_true rfl) dX11_repeat_38 (fun H locs hP hD hS => ?_)
      have hP : va_P (dC, dI) vwCl (cW g ty pl ac ft md (Z.1, zEn Z a0, Z.2.2.1, Z.2.2.2.1, Z.2.2.2.2.1, Z.2.2.2.2.2.1, Z.2.2.2.2.2.2.1, Z.2.2.2.2.2.2.2.1, Z.2.2.2.2.2.2.2.2.1, Z.2.2.2.2.2.2.2.2.2.1, Z.2.2.2.2.2.2.2.2.2.2.1, Z.2.2.2.2.2.2.2.2.2.2.2) P) H := hP
      have hD : va_D A (cW g ty pl ac ft md (Z.1, zEn Z a0, Z.2.2.1, Z.2.2.2.1, Z.2.2.2.2.1, Z.2.2.2.2.2.1, Z.2.2.2.2.2.2.1, Z.2.2.2.2.2.2.2.1, Z.2.2.2.2.2.2.2.2.1, Z.2.2.2.2.2.2.2.2.2.1, Z.2.2.2.2.2.2.2.2.2.2.1, Z.2.2.2.2.2.2.2.2.2.2.2) P) := hD
      refine lv_aload_n hx hb dX11_repeat_41 rfl (lv_at hl 1 rfl) ?_
      refine lv_dup hx hb dX11_repeat_42 rfl ?_
      refine va_get (D := (dC, dI)) (ci := 13) (v := .int Z.2.2.2.1) (C := RX11) (T := TX11) (N := 12) hx hb hg inG11 hown hK hP 0 rfl rfl 7 (by decide) (hg _ wF_X11_37) (fun _ h9 => h9) rfl dX11_repeat_43 ?_
      refine lv_iconst (v := 1) hx hb dX11_repeat_46 (by decide) ?_
      refine lv_iadd hx hb dX11_repeat_47 ?_
      refine va_put (D := (dC, dI)) (ci := 13) (v := .int (Z.2.2.2.1 + 1)) (ty := .int) (C := RX11) (T := TX11) (N := 12) hx hb hg inG11 tyX11 tyX11_ok nmX11 hown hK hP hD hS 0 rfl rfl 7 (by decide) (hg _ wF_X11_37) (fun _ h9 => h9) rfl (by decide +kernel) rfl rfl (Nat.le_of_ble_eq_true rfl) dX11_repeat_48 (fun H locs hP hD hS => ?_)
      have hP : va_P (dC, dI) vwCl (cW g ty pl ac ft md (Z.1, zEn Z a0, Z.2.2.1, (Z.2.2.2.1 + 1), Z.2.2.2.2.1, Z.2.2.2.2.2.1, Z.2.2.2.2.2.2.1, Z.2.2.2.2.2.2.2.1, Z.2.2.2.2.2.2.2.2.1, Z.2.2.2.2.2.2.2.2.2.1, Z.2.2.2.2.2.2.2.2.2.2.1, Z.2.2.2.2.2.2.2.2.2.2.2) P) H := hP
      have hD : va_D A (cW g ty pl ac ft md (Z.1, zEn Z a0, Z.2.2.1, (Z.2.2.2.1 + 1), Z.2.2.2.2.1, Z.2.2.2.2.2.1, Z.2.2.2.2.2.2.1, Z.2.2.2.2.2.2.2.1, Z.2.2.2.2.2.2.2.2.1, Z.2.2.2.2.2.2.2.2.2.1, Z.2.2.2.2.2.2.2.2.2.2.1, Z.2.2.2.2.2.2.2.2.2.2.2) P) := hD
      refine cr_v (wo := fun u : cZ => cW g ty pl ac ft md u P) ((Z.1, zEn Z a0, Z.2.2.1, (Z.2.2.2.1 + 1), Z.2.2.2.2.1, Z.2.2.2.2.2.1, Z.2.2.2.2.2.2.1, Z.2.2.2.2.2.2.2.1, Z.2.2.2.2.2.2.2.2.1, Z.2.2.2.2.2.2.2.2.2.1, Z.2.2.2.2.2.2.2.2.2.2.1, Z.2.2.2.2.2.2.2.2.2.2.2)) hx hb hr hlk hS hP hD ?_ dX11_repeat_51
      exact (by first | rfl | (simp only [zRep, c_4, c_5, if_true, if_false]; done) | (simp only [zRep, c_4, c_5, if_true, if_false]; rfl) | (simp [zRep, c_4, c_5]; done))
    · show _
      refine lv_aload_n hx hb dX11_repeat_18 rfl (lv_at hl 1 rfl) ?_
      refine va_get (D := (dC, dI)) (ci := 13) (v := .ref (g 3)) (C := RX11) (T := TX11) (N := 12) hx hb hg inG11 hown hK hP 0 rfl rfl 2 (by decide) (hg _ wF_X11_22) (fun _ h9 => h9) rfl dX11_repeat_19 ?_
      refine lv_aload_n hx hb dX11_repeat_22 rfl (lv_at hl 1 rfl) ?_
      refine va_get (D := (dC, dI)) (ci := 13) (v := .int Z.2.1) (C := RX11) (T := TX11) (N := 12) hx hb hg inG11 hown hK hP 0 rfl rfl 5 (by decide) (hg _ wF_X11_59) (fun _ h9 => h9) rfl dX11_repeat_23 ?_
      refine lv_iload_n hx hb dX11_repeat_26 rfl (lv_at hl 0 rfl) ?_
      refine lv_iload_n hx hb dX11_repeat_27 rfl (lv_at hl 3 rfl) ?_
      refine lv_bipush (v := 8) hx hb dX11_repeat_28 (by decide) ?_
      refine cV_v (C := RX1) (n := 4) (rest := []) hx hb hml hown hg hT (cf_X1_open l dC dI g ty H.size pl ac ft md Z P Z.2.1 (zEn Z a0) b0 8 (by assumption)) (cv_of hg wM_X11_125 wN_X1_open wL_X1_X1_open wK_X1_open wI_X1 (by decide +kernel) ⟨Nat.le_of_ble_eq_true rfl, Nat.le_of_ble_eq_true rfl⟩) hK hP hD hS hA (va_recv hK hP (ci := 6) (q0 := 3) rfl rfl) rfl hl.1 rfl (Nat.le_of_ble_eq_true rfl) dX11_repeat_30 ⟨Nat.le_of_ble_eq_true rfl, Nat.le_of_ble_eq_true rfl⟩ (fun u_8 H locs q_6 hP hD hS => ?_)
      obtain rfl := q_6
      have hP : va_P (dC, dI) vwCl (cW g ty pl ac ft md (zOpen Z Z.2.1 (zEn Z a0) b0 8) P) H := hP
      have hD : va_D A (cW g ty pl ac ft md (zOpen Z Z.2.1 (zEn Z a0) b0 8) P) := hD
      refine lv_goto (tgt := 51) hx hb dX11_repeat_33 (by decide) ?_
      refine cr_v (wo := fun u : cZ => cW g ty pl ac ft md u P) (zOpen Z Z.2.1 (zEn Z a0) b0 8) hx hb hr hlk hS hP hD ?_ dX11_repeat_51
      exact (by first | rfl | (simp only [zRep, c_4, c_5, if_true, if_false]; done) | (simp only [zRep, c_4, c_5, if_true, if_false]; rfl) | (simp [zRep, c_4, c_5]; done))

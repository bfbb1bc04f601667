theorem p40_0 : ∀ j, j < 1024 → (fun _ : Nat => (0 : Int32)) j = if j % 4 = 0 ∧ j / 4 < (0 : Int32).toNatClampNeg then 40 else 0 := by
  intro j _
  rw [if_neg]
  rw [show (0 : Int32).toNatClampNeg = 0 from rfl]
  omega
theorem p40_up {k : Int32} {f : Nat → Int32} (h0 : ¬ k < 0) (h : ¬ 256 ≤ k) (i2 : ∀ j, j < 1024 → f j = if j % 4 = 0 ∧ j / 4 < k.toNatClampNeg then 40 else 0) : ∀ j, j < 1024 → upd f (k * 4).toNatClampNeg 40 j = if j % 4 = 0 ∧ j / 4 < (k + 1).toNatClampNeg then 40 else 0 := by
  intro j hj
  have e : (k * 4).toNatClampNeg = k.toNatClampNeg * 4 := by
    have e1 := pg_mul (nn_of h0) h
    have h2 := nn_of h0
    rw [Int32.le_iff_toInt_le, ci_0] at h2
    show (k * 4).toInt.toNat = k.toInt.toNat * 4
    rw [e1]; omega
  rw [up1_clamp h0 h, e, upd_at']
  by_cases q : j = k.toNatClampNeg * 4
  · rw [if_pos q, if_pos (by omega)]
  · rw [if_neg q, i2 j hj]
    by_cases q2 : j % 4 = 0 ∧ j / 4 < k.toNatClampNeg
    · rw [if_pos q2, if_pos (by omega)]
    · rw [if_neg q2, if_neg (by omega)]
theorem p40_end {k : Int32} {f : Nat → Int32} (h1 : k ≤ 256) (h2 : 256 ≤ k) (i2 : ∀ j, j < 1024 → f j = if j % 4 = 0 ∧ j / 4 < k.toNatClampNeg then 40 else 0) : ∀ j, j < 1024 → f j = if j % 4 = 0 then 40 else 0 := by
  intro j hj
  have e : k = 256 := Int32.le_antisymm h1 h2
  rw [i2 j hj, e, show (256 : Int32).toNatClampNeg = 256 by decide]
  by_cases q : j % 4 = 0
  · rw [if_pos q, if_pos (by omega)]
  · rw [if_neg q, if_neg (by omega)]
set_option maxHeartbeats 4000000 in
set_option maxRecDepth 100000 in
theorem c_X1_init (l : Launch) (dC : Nat → ClassId) (dI : Nat → Nat → Nat) (ty : Nat → ClassId) (sz q0 : Nat) (x1 x2 x3 : Nat × va_E) : Met l yX1_init (Cond.code yX1_init cX1_init 1 none :: gT) ({ frames := 2, cells := 4, slots := 800, locals := 32 }) (cP (dC, dI) (cTy ty) ([x1, x2, x3, (q0, .inr (6, [.null, .null, .null, .null, .int 0]))] : va_W) sz [.ref q0]) (va_Qv (fun _ : Nat → Nat => True) (cB (dC, dI) (fun u : Nat → Nat => ([x1, x2, x3, (q0, .inr (6, [.ref (u 0), .ref (u 1), .ref (u 2), .ref (u 3), .int 0])), (u 0, .inl (ty 0, 200, .inl (fun _ => 0))), (u 1, .inl (ty 0, 200, .inl (fun _ => 0))), (u 2, .inl (ty 0, 200, .inl (fun _ => 0))), (u 3, .inl (ty 0, 200, .inl (fun _ => 0)))] : va_W)) (va_A ([x1, x2, x3, (q0, .inr (6, [.null, .null, .null, .null, .int 0]))] : va_W) sz)) (va_A ([x1, x2, x3, (q0, .inr (6, [.null, .null, .null, .null, .int 0]))] : va_W) sz)) 4 800 (va_A ([x1, x2, x3, (q0, .inr (6, [.null, .null, .null, .null, .int 0]))] : va_W) sz) := by
  refine cc_of (y := yX1_init) (cc := cX1_init) (maxL := 1) (ret := none) (av := [.ref q0]) (mc := 4) (ms := 800) (Qa := fun A => va_Qv (fun _ : Nat → Nat => True) (cB (dC, dI) (fun u : Nat → Nat => ([x1, x2, x3, (q0, .inr (6, [.ref (u 0), .ref (u 1), .ref (u 2), .ref (u 3), .int 0])), (u 0, .inl (ty 0, 200, .inl (fun _ => 0))), (u 1, .inl (ty 0, 200, .inl (fun _ => 0))), (u 2, .inl (ty 0, 200, .inl (fun _ => 0))), (u 3, .inl (ty 0, 200, .inl (fun _ => 0)))] : va_W)) A) A) (by decide) (Nat.le_of_ble_eq_true rfl) ?_
  intro p e s m below meth c A hx hb hr hml hown hg hlk hmn hP hK hD hT hS hA hsz ls hl
  have hown : s.vm.findClass RX1 = some m.cls := hown
  have hl : lv_has ls 1 [(0, .ref q0)] := hl
  refine lv_aload_n hx hb dX1_init_0 rfl (lv_at hl 0 rfl) ?_
  refine W.objInit hx hb hown (hg _ wM_X1_3) (hg _ wN_Object_init) (hg _ wK_objInit) rfl (by rw [hml]; exact hl.1) rfl dX1_init_1 (Nat.le_of_ble_eq_true rfl) (Nat.le_of_ble_eq_true rfl) ?_
  refine lv_aload_n hx hb dX1_init_4 rfl (lv_at hl 0 rfl) ?_
  refine lv_sipush (v := 200) hx hb dX1_init_5 (by decide) ?_
  refine va_newa (atype := .int) (ty := .int) (a0 := (200, .inl (fun _ => (0 : Int32)))) hx hb (hg _ wA_int) rfl hK hP hD hS hA (fun _ => rfl) (by decide) rfl (by decide) (by show 0 + 1 ≤ 4; decide) (by show 0 + 200 ≤ 800; decide) dX1_init_8 (fun y0 cA H hK2 hP hD hS => ?_)
  have hcA : cA = ty 0 := ck_uni hK2 0 rfl (fun _ h9 => by cases h9)
  subst hcA
  have hP : va_P (dC, dI) vwCl ([x1, x2, x3, (q0, .inr (6, [.null, .null, .null, .null, .int 0])), (y0, .inl (ty 0, 200, .inl (fun _ => 0)))] : va_W) H := hP
  have hD : va_D A ([x1, x2, x3, (q0, .inr (6, [.null, .null, .null, .null, .int 0])), (y0, .inl (ty 0, 200, .inl (fun _ => 0)))] : va_W) := hD
  refine va_putF (D := (dC, dI)) (ci := 6) (v := .ref y0) (ty := .array .int) (C := RX1) (T := TX1) (N := 5) hx hb hg inG1 tyX1 tyX1_ok nmX1 hown hK hP hD hS 3 rfl rfl 0 (by decide) (hg _ wF_X1_9) (fun _ h9 => h9) rfl hmn rfl (by decide +kernel) rfl rfl (Nat.le_of_ble_eq_true rfl) dX1_init_10 (fun H locs hP hD hS => ?_)
  have hP : va_P (dC, dI) vwCl ([x1, x2, x3, (q0, .inr (6, [.ref y0, .null, .null, .null, .int 0])), (y0, .inl (ty 0, 200, .inl (fun _ => 0)))] : va_W) H := hP
  have hD : va_D A ([x1, x2, x3, (q0, .inr (6, [.ref y0, .null, .null, .null, .int 0])), (y0, .inl (ty 0, 200, .inl (fun _ => 0)))] : va_W) := hD
  refine lv_aload_n hx hb dX1_init_13 rfl (lv_at hl 0 rfl) ?_
  refine lv_sipush (v := 200) hx hb dX1_init_14 (by decide) ?_
  refine va_newa (atype := .int) (ty := .int) (a0 := (200, .inl (fun _ => (0 : Int32)))) hx hb (hg _ wA_int) rfl hK hP hD hS hA (fun _ => rfl) (by decide) rfl (by decide) (by show 1 + 1 ≤ 4; decide) (by show 200 + 200 ≤ 800; decide) dX1_init_17 (fun y1 cA H hK2 hP hD hS => ?_)
  have hcA : cA = ty 0 := ck_uni hK2 0 rfl (fun _ h9 => by cases h9)
  subst hcA
  have hP : va_P (dC, dI) vwCl ([x1, x2, x3, (q0, .inr (6, [.ref y0, .null, .null, .null, .int 0])), (y0, .inl (ty 0, 200, .inl (fun _ => 0))), (y1, .inl (ty 0, 200, .inl (fun _ => 0)))] : va_W) H := hP
  have hD : va_D A ([x1, x2, x3, (q0, .inr (6, [.ref y0, .null, .null, .null, .int 0])), (y0, .inl (ty 0, 200, .inl (fun _ => 0))), (y1, .inl (ty 0, 200, .inl (fun _ => 0)))] : va_W) := hD
  refine va_putF (D := (dC, dI)) (ci := 6) (v := .ref y1) (ty := .array .int) (C := RX1) (T := TX1) (N := 5) hx hb hg inG1 tyX1 tyX1_ok nmX1 hown hK hP hD hS 3 rfl rfl 1 (by decide) (hg _ wF_X1_15) (fun _ h9 => h9) rfl hmn rfl (by decide +kernel) rfl rfl (Nat.le_of_ble_eq_true rfl) dX1_init_19 (fun H locs hP hD hS => ?_)
  have hP : va_P (dC, dI) vwCl ([x1, x2, x3, (q0, .inr (6, [.ref y0, .ref y1, .null, .null, .int 0])), (y0, .inl (ty 0, 200, .inl (fun _ => 0))), (y1, .inl (ty 0, 200, .inl (fun _ => 0)))] : va_W) H := hP
  have hD : va_D A ([x1, x2, x3, (q0, .inr (6, [.ref y0, .ref y1, .null, .null, .int 0])), (y0, .inl (ty 0, 200, .inl (fun _ => 0))), (y1, .inl (ty 0, 200, .inl (fun _ => 0)))] : va_W) := hD
  refine lv_aload_n hx hb dX1_init_22 rfl (lv_at hl 0 rfl) ?_
  refine lv_sipush (v := 200) hx hb dX1_init_23 (by decide) ?_
  refine va_newa (atype := .int) (ty := .int) (a0 := (200, .inl (fun _ => (0 : Int32)))) hx hb (hg _ wA_int) rfl hK hP hD hS hA (fun _ => rfl) (by decide) rfl (by decide) (by show 2 + 1 ≤ 4; decide) (by show 400 + 200 ≤ 800; decide) dX1_init_26 (fun y2 cA H hK2 hP hD hS => ?_)
  have hcA : cA = ty 0 := ck_uni hK2 0 rfl (fun _ h9 => by cases h9)
  subst hcA
  have hP : va_P (dC, dI) vwCl ([x1, x2, x3, (q0, .inr (6, [.ref y0, .ref y1, .null, .null, .int 0])), (y0, .inl (ty 0, 200, .inl (fun _ => 0))), (y1, .inl (ty 0, 200, .inl (fun _ => 0))), (y2, .inl (ty 0, 200, .inl (fun _ => 0)))] : va_W) H := hP
  have hD : va_D A ([x1, x2, x3, (q0, .inr (6, [.ref y0, .ref y1, .null, .null, .int 0])), (y0, .inl (ty 0, 200, .inl (fun _ => 0))), (y1, .inl (ty 0, 200, .inl (fun _ => 0))), (y2, .inl (ty 0, 200, .inl (fun _ => 0)))] : va_W) := hD
  refine va_putF (D := (dC, dI)) (ci := 6) (v := .ref y2) (ty := .array .int) (C := RX1) (T := TX1) (N := 5) hx hb hg inG1 tyX1 tyX1_ok nmX1 hown hK hP hD hS 3 rfl rfl 2 (by decide) (hg _ wF_X1_18) (fun _ h9 => h9) rfl hmn rfl (by decide +kernel) rfl rfl (Nat.le_of_ble_eq_true rfl) dX1_init_28 (fun H locs hP hD hS => ?_)
  have hP : va_P (dC, dI) vwCl ([x1, x2, x3, (q0, .inr (6, [.ref y0, .ref y1, .ref y2, .null, .int 0])), (y0, .inl (ty 0, 200, .inl (fun _ => 0))), (y1, .inl (ty 0, 200, .inl (fun _ => 0))), (y2, .inl (ty 0, 200, .inl (fun _ => 0)))] : va_W) H := hP
  have hD : va_D A ([x1, x2, x3, (q0, .inr (6, [.ref y0, .ref y1, .ref y2, .null, .int 0])), (y0, .inl (ty 0, 200, .inl (fun _ => 0))), (y1, .inl (ty 0, 200, .inl (fun _ => 0))), (y2, .inl (ty 0, 200, .inl (fun _ => 0)))] : va_W) := hD
  refine lv_aload_n hx hb dX1_init_31 rfl (lv_at hl 0 rfl) ?_
  refine lv_sipush (v := 200) hx hb dX1_init_32 (by decide) ?_
  refine va_newa (atype := .int) (ty := .int) (a0 := (200, .inl (fun _ => (0 : Int32)))) hx hb (hg _ wA_int) rfl hK hP hD hS hA (fun _ => rfl) (by decide) rfl (by decide) (by show 3 + 1 ≤ 4; decide) (by show 600 + 200 ≤ 800; decide) dX1_init_35 (fun y3 cA H hK2 hP hD hS => ?_)
  have hcA : cA = ty 0 := ck_uni hK2 0 rfl (fun _ h9 => by cases h9)
  subst hcA
  have hP : va_P (dC, dI) vwCl ([x1, x2, x3, (q0, .inr (6, [.ref y0, .ref y1, .ref y2, .null, .int 0])), (y0, .inl (ty 0, 200, .inl (fun _ => 0))), (y1, .inl (ty 0, 200, .inl (fun _ => 0))), (y2, .inl (ty 0, 200, .inl (fun _ => 0))), (y3, .inl (ty 0, 200, .inl (fun _ => 0)))] : va_W) H := hP
  have hD : va_D A ([x1, x2, x3, (q0, .inr (6, [.ref y0, .ref y1, .ref y2, .null, .int 0])), (y0, .inl (ty 0, 200, .inl (fun _ => 0))), (y1, .inl (ty 0, 200, .inl (fun _ => 0))), (y2, .inl (ty 0, 200, .inl (fun _ => 0))), (y3, .inl (ty 0, 200, .inl (fun _ => 0)))] : va_W) := hD
  refine va_putF (D := (dC, dI)) (ci := 6) (v := .ref y3) (ty := .array .int) (C := RX1) (T := TX1) (N := 5) hx hb hg inG1 tyX1 tyX1_ok nmX1 hown hK hP hD hS 3 rfl rfl 3 (by decide) (hg _ wF_X1_21) (fun _ h9 => h9) rfl hmn rfl (by decide +kernel) rfl rfl (Nat.le_of_ble_eq_true rfl) dX1_init_37 (fun H locs hP hD hS => ?_)
  have hP : va_P (dC, dI) vwCl ([x1, x2, x3, (q0, .inr (6, [.ref y0, .ref y1, .ref y2, .ref y3, .int 0])), (y0, .inl (ty 0, 200, .inl (fun _ => 0))), (y1, .inl (ty 0, 200, .inl (fun _ => 0))), (y2, .inl (ty 0, 200, .inl (fun _ => 0))), (y3, .inl (ty 0, 200, .inl (fun _ => 0)))] : va_W) H := hP
  have hD : va_D A ([x1, x2, x3, (q0, .inr (6, [.ref y0, .ref y1, .ref y2, .ref y3, .int 0])), (y0, .inl (ty 0, 200, .inl (fun _ => 0))), (y1, .inl (ty 0, 200, .inl (fun _ => 0))), (y2, .inl (ty 0, 200, .inl (fun _ => 0))), (y3, .inl (ty 0, 200, .inl (fun _ => 0)))] : va_W) := hD
  refine W.widen (k := 4) (n := 800) (by show 4 ≤ 4; decide) (by show 800 ≤ 800; decide) ?_
  exact cr_v (wo := fun u : Nat → Nat => ([x1, x2, x3, (q0, .inr (6, [.ref (u 0), .ref (u 1), .ref (u 2), .ref (u 3), .int 0])), (u 0, .inl (ty 0, 200, .inl (fun _ => 0))), (u 1, .inl (ty 0, 200, .inl (fun _ => 0))), (u 2, .inl (ty 0, 200, .inl (fun _ => 0))), (u 3, .inl (ty 0, 200, .inl (fun _ => 0)))] : va_W)) (fun k => [y0, y1, y2, y3].getD k 0) hx hb hr hlk hS hP hD trivial dX1_init_40
set_option maxHeartbeats 4000000 in
set_option maxRecDepth 100000 in
theorem c_X11_init (l : Launch) (dC : Nat → ClassId) (dI : Nat → Nat → Nat) (ty : Nat → ClassId) (sz q0 : Nat) : Met l yX11_init (Cond.code yX11_init cX11_init 2 none :: gT) ({ frames := 4, cells := 7, slots := 1861, locals := 64 }) (cP (dC, dI) (cTy ty) ([(q0, .inr (13, [.null, .null, .null, .long 0, .int 0, .int 0, .int 0, .int 0, .int 0, .int 0, .int 0, .int 0]))] : va_W) sz [.ref q0]) (va_Qv (fun u : (Nat → Nat) × (Nat → Int32) => ∀ j, j < 1024 → u.2 j = if j % 4 = 0 then 40 else 0) (cB (dC, dI) (fun u : (Nat → Nat) × (Nat → Int32) => cW (fun k => if k = 0 then q0 else if k = 1 then u.1 0 else if k = 2 then u.1 1 else if k = 3 then u.1 2 else if k = 4 then u.1 3 else if k = 5 then u.1 4 else if k = 6 then u.1 5 else u.1 6) ty (fun _ => none) 0 (-1) 0 (u.2, 0, 0, 0, 0, 0, 0, fun _ => 0, fun _ => 0, fun _ => 0, fun _ => 0, 0) ([], fun _ => 0, fun _ => 0, fun _ => 0, fun _ => none, fun _ => 0, fun _ _ => 0, fun _ _ => none)) (va_A ([(q0, .inr (13, [.null, .null, .null, .long 0, .int 0, .int 0, .int 0, .int 0, .int 0, .int 0, .int 0, .int 0]))] : va_W) sz)) (va_A ([(q0, .inr (13, [.null, .null, .null, .long 0, .int 0, .int 0, .int 0, .int 0, .int 0, .int 0, .int 0, .int 0]))] : va_W) sz)) 7 1861 (va_A ([(q0, .inr (13, [.null, .null, .null, .long 0, .int 0, .int 0, .int 0, .int 0, .int 0, .int 0, .int 0, .int 0]))] : va_W) sz) := by
  refine cc_of (y := yX11_init) (cc := cX11_init) (maxL := 2) (ret := none) (av := [.ref q0]) (mc := 7) (ms := 1861) (Qa := fun A => va_Qv (fun u : (Nat → Nat) × (Nat → Int32) => ∀ j, j < 1024 → u.2 j = if j % 4 = 0 then 40 else 0) (cB (dC, dI) (fun u : (Nat → Nat) × (Nat → Int32) => cW (fun k => if k = 0 then q0 else if k = 1 then u.1 0 else if k = 2 then u.1 1 else if k = 3 then u.1 2 else if k = 4 then u.1 3 else if k = 5 then u.1 4 else if k = 6 then u.1 5 else u.1 6) ty (fun _ => none) 0 (-1) 0 (u.2, 0, 0, 0, 0, 0, 0, fun _ => 0, fun _ => 0, fun _ => 0, fun _ => 0, 0) ([], fun _ => 0, fun _ => 0, fun _ => 0, fun _ => none, fun _ => 0, fun _ _ => 0, fun _ _ => none)) A) A) (by decide) (Nat.le_of_ble_eq_true rfl) ?_
  intro p e s m below meth c A hx hb hr hml hown hg hlk hmn hP hK hD hT hS hA hsz ls hl
  have hown : s.vm.findClass RX11 = some m.cls := hown
  have hl : lv_has ls 2 [(0, .ref q0)] := hl
  refine lv_aload_n hx hb dX11_init_0 rfl (lv_at hl 0 rfl) ?_
  refine W.objInit hx hb hown (hg _ wM_X11_1) (hg _ wN_Object_init) (hg _ wK_objInit) rfl (by rw [hml]; exact hl.1) rfl dX11_init_1 (Nat.le_of_ble_eq_true rfl) (Nat.le_of_ble_eq_true rfl) ?_
  refine lv_aload_n hx hb dX11_init_4 rfl (lv_at hl 0 rfl) ?_
  refine lv_bipush (v := 32) hx hb dX11_init_5 (by decide) ?_
  refine va_newq (C := RX10) hx hb hown (hg _ wC_X11_9) hT.2.2.2.1 hK hP hD hS hA (by decide) rfl (by decide) (by show 0 + 1 ≤ 7; decide) (by show 0 + 32 ≤ 1861; decide) dX11_init_7 (fun y0 cA H hK2 hP hD hS => ?_)
  have hcA : cA = ty 1 := ck_uniO hK2 1 rfl
  subst hcA
  have hP : va_P (dC, dI) vwCl ([(q0, .inr (13, [.null, .null, .null, .long 0, .int 0, .int 0, .int 0, .int 0, .int 0, .int 0, .int 0, .int 0])), (y0, .inl (ty 1, 32, .inr (.inr (.inr (.inr (fun _ => none))))))]) H := hP
  have hD : va_D A ([(q0, .inr (13, [.null, .null, .null, .long 0, .int 0, .int 0, .int 0, .int 0, .int 0, .int 0, .int 0, .int 0])), (y0, .inl (ty 1, 32, .inr (.inr (.inr (.inr (fun _ => none))))))]) := hD
  refine va_putF (D := (dC, dI)) (ci := 13) (v := .ref y0) (ty := .array (.object RX10)) (C := RX11) (T := TX11) (N := 12) hx hb hg inG11 tyX11 tyX11_ok nmX11 hown hK hP hD hS 0 rfl rfl 0 (by decide) (hg _ wF_X11_11) (fun _ h9 => h9) rfl hmn rfl (by decide +kernel) rfl rfl (Nat.le_of_ble_eq_true rfl) dX11_init_10 (fun H locs hP hD hS => ?_)
  have hP : va_P (dC, dI) vwCl ([(q0, .inr (13, [.ref y0, .null, .null, .long 0, .int 0, .int 0, .int 0, .int 0, .int 0, .int 0, .int 0, .int 0])), (y0, .inl (ty 1, 32, .inr (.inr (.inr (.inr (fun _ => none))))))]) H := hP
  have hD : va_D A ([(q0, .inr (13, [.ref y0, .null, .null, .long 0, .int 0, .int 0, .int 0, .int 0, .int 0, .int 0, .int 0, .int 0])), (y0, .inl (ty 1, 32, .inr (.inr (.inr (.inr (fun _ => none))))))]) := hD
  refine lv_aload_n hx hb dX11_init_13 rfl (lv_at hl 0 rfl) ?_
  refine lv_sipush (v := 1024) hx hb dX11_init_14 (by decide) ?_
  refine va_newa (atype := .int) (ty := .int) (a0 := (1024, .inl (fun _ => (0 : Int32)))) hx hb (hg _ wA_int) rfl hK hP hD hS hA (fun _ => rfl) (by decide) rfl (by decide) (by show 1 + 1 ≤ 7; decide) (by show 32 + 1024 ≤ 1861; decide) dX11_init_17 (fun y1 cA H hK2 hP hD hS => ?_)
  have hcA : cA = ty 0 := ck_uni hK2 0 rfl (fun _ h9 => by cases h9)
  subst hcA
  have hP : va_P (dC, dI) vwCl ([(q0, .inr (13, [.ref y0, .null, .null, .long 0, .int 0, .int 0, .int 0, .int 0, .int 0, .int 0, .int 0, .int 0])), (y0, .inl (ty 1, 32, .inr (.inr (.inr (.inr (fun _ => none)))))), (y1, .inl (ty 0, 1024, .inl (fun _ => 0)))]) H := hP
  have hD : va_D A ([(q0, .inr (13, [.ref y0, .null, .null, .long 0, .int 0, .int 0, .int 0, .int 0, .int 0, .int 0, .int 0, .int 0])), (y0, .inl (ty 1, 32, .inr (.inr (.inr (.inr (fun _ => none)))))), (y1, .inl (ty 0, 1024, .inl (fun _ => 0)))]) := hD
  refine va_putF (D := (dC, dI)) (ci := 13) (v := .ref y1) (ty := .array .int) (C := RX11) (T := TX11) (N := 12) hx hb hg inG11 tyX11 tyX11_ok nmX11 hown hK hP hD hS 0 rfl rfl 1 (by decide) (hg _ wF_X11_15) (fun _ h9 => h9) rfl hmn rfl (by decide +kernel) rfl rfl (Nat.le_of_ble_eq_true rfl) dX11_init_19 (fun H locs hP hD hS => ?_)
  have hP : va_P (dC, dI) vwCl ([(q0, .inr (13, [.ref y0, .ref y1, .null, .long 0, .int 0, .int 0, .int 0, .int 0, .int 0, .int 0, .int 0, .int 0])), (y0, .inl (ty 1, 32, .inr (.inr (.inr (.inr (fun _ => none)))))), (y1, .inl (ty 0, 1024, .inl (fun _ => 0)))]) H := hP
  have hD : va_D A ([(q0, .inr (13, [.ref y0, .ref y1, .null, .long 0, .int 0, .int 0, .int 0, .int 0, .int 0, .int 0, .int 0, .int 0])), (y0, .inl (ty 1, 32, .inr (.inr (.inr (.inr (fun _ => none)))))), (y1, .inl (ty 0, 1024, .inl (fun _ => 0)))]) := hD
  refine lv_iconst (v := 0) hx hb dX11_init_22 (by decide) ?_
  refine lv_istore_n (lv' := [(1, .int 0), (0, .ref q0)]) hx hb dX11_init_23 rfl hl (by decide) rfl (fun ls hl => ?_)
  have LOOP : ∀ (Nn : Nat) (k1 : Int32) (fw : Nat → Int32) (H : Heap) (locs : List Loc) (ls : Array Slot), 256 - k1.toNatClampNeg = Nn → ¬ k1 < 0 → k1 ≤ 256 → (∀ j, j < 1024 → fw j = if j % 4 = 0 ∧ j / 4 < k1.toNatClampNeg then 40 else 0) → va_P (dC, dI) vwCl ([(q0, .inr (13, [.ref y0, .ref y1, .null, .long 0, .int 0, .int 0, .int 0, .int 0, .int 0, .int 0, .int 0, .int 0])), (y0, .inl (ty 1, 32, .inr (.inr (.inr (.inr (fun _ => none)))))), (y1, .inl (ty 0, 1024, .inl fw))]) H → va_D A ([(q0, .inr (13, [.ref y0, .ref y1, .null, .long 0, .int 0, .int 0, .int 0, .int 0, .int 0, .int 0, .int 0, .int 0])), (y0, .inl (ty 1, 32, .inr (.inr (.inr (.inr (fun _ => none)))))), (y1, .inl (ty 0, 1024, .inl fw))]) → va_S A s.heap H locs → lv_has ls 2 [(1, .int k1), (0, .ref q0)] → W p l e ({ frames := 4, cells := 7, slots := 1861, locals := 64 }) s m ([.ref q0] : List Value).toArray below meth c H locs (2) (1056) (MQ below (va_Qv (fun u : (Nat → Nat) × (Nat → Int32) => ∀ j, j < 1024 → u.2 j = if j % 4 = 0 then 40 else 0) (cB (dC, dI) (fun u : (Nat → Nat) × (Nat → Int32) => cW (fun k => if k = 0 then q0 else if k = 1 then u.1 0 else if k = 2 then u.1 1 else if k = 3 then u.1 2 else if k = 4 then u.1 3 else if k = 5 then u.1 4 else if k = 6 then u.1 5 else u.1 6) ty (fun _ => none) 0 (-1) 0 (u.2, 0, 0, 0, 0, 0, 0, fun _ => 0, fun _ => 0, fun _ => 0, fun _ => 0, 0) ([], fun _ => 0, fun _ => 0, fun _ => 0, fun _ => none, fun _ => 0, fun _ _ => 0, fun _ _ => none)) A) A) ([.ref q0] : List Value).toArray s 7 1861 A) (F0 m 24 ls []) := by
    intro Nn
    induction Nn using Nat.strongRecOn with
    | _ Nn IH =>
      intro k1 fw H locs ls hN i0 i1 i2 hP hD hS hl
      refine lv_iload_n hx hb dX11_init_24 rfl (lv_at hl 0 rfl) ?_
      refine lv_sipush (v := 256) hx hb dX11_init_25 (by decide) ?_
      refine lv_icmp_ge (tgt := 47) hx hb dX11_init_28 (by decide) (fun c1 => ?_) (fun c1 => ?_)
      · show _
        refine lv_aload_n hx hb dX11_init_47 rfl (lv_at hl 1 rfl) ?_
        refine va_new (ci := 6) (fs := [.null, .null, .null, .null, .int 0]) (C := RX1) (T := TX1) (N := 5) hx hb hg inG1 tyX1 tyX1_ok hown (hg _ wC_X11_19) (hg _ wT_X1) (hg _ wI_X1) hK hP hD hS hA rfl (fun j hj => by rcases (show j = 0 ∨ j = 1 ∨ j = 2 ∨ j = 3 ∨ j = 4 by omega) with rfl | rfl | rfl | rfl | rfl <;> rfl) (by show 2 + 1 ≤ 7; decide) (by show 1056 + 5 ≤ 1861; decide) dX11_init_48 (fun qb H hP hD hS => ?_)
        have hP : va_P (dC, dI) vwCl ([(q0, .inr (13, [.ref y0, .ref y1, .null, .long 0, .int 0, .int 0, .int 0, .int 0, .int 0, .int 0, .int 0, .int 0])), (y0, .inl (ty 1, 32, .inr (.inr (.inr (.inr (fun _ => none)))))), (y1, .inl (ty 0, 1024, .inl fw)), (qb, .inr (6, [.null, .null, .null, .null, .int 0]))]) H := hP
        have hD : va_D A ([(q0, .inr (13, [.ref y0, .ref y1, .null, .long 0, .int 0, .int 0, .int 0, .int 0, .int 0, .int 0, .int 0, .int 0])), (y0, .inl (ty 1, 32, .inr (.inr (.inr (.inr (fun _ => none)))))), (y1, .inl (ty 0, 1024, .inl fw)), (qb, .inr (6, [.null, .null, .null, .null, .int 0]))]) := hD
        refine lv_dup hx hb dX11_init_51 rfl ?_
        refine cN_v (n := 0) (rest := [.ref qb, .ref q0]) hx hb hml hown hg hT (c_X1_init l dC dI ty H.size qb (q0, .inr (13, [.ref y0, .ref y1, .null, .long 0, .int 0, .int 0, .int 0, .int 0, .int 0, .int 0, .int 0, .int 0])) (y0, .inl (ty 1, 32, .inr (.inr (.inr (.inr (fun _ => none)))))) (y1, .inl (ty 0, 1024, .inl fw))) (cb_of hg wM_X11_21 wK_X1_init wI_X1 (by decide +kernel) ⟨Nat.le_of_ble_eq_true rfl, Nat.le_of_ble_eq_true rfl⟩) rfl wN_X1_init hK hP hD hS hA rfl hl.1 rfl (Nat.le_of_ble_eq_true rfl) dX11_init_52 ⟨by show 3 + 4 ≤ 7; decide, by show 1061 + 800 ≤ 1861; decide⟩ (fun ub H locs _ hP hD hS => ?_)
        have hP : va_P (dC, dI) vwCl ([(q0, .inr (13, [.ref y0, .ref y1, .null, .long 0, .int 0, .int 0, .int 0, .int 0, .int 0, .int 0, .int 0, .int 0])), (y0, .inl (ty 1, 32, .inr (.inr (.inr (.inr (fun _ => none)))))), (y1, .inl (ty 0, 1024, .inl fw)), (qb, .inr (6, [.ref (ub 0), .ref (ub 1), .ref (ub 2), .ref (ub 3), .int 0])), (ub 0, .inl (ty 0, 200, .inl (fun _ => 0))), (ub 1, .inl (ty 0, 200, .inl (fun _ => 0))), (ub 2, .inl (ty 0, 200, .inl (fun _ => 0))), (ub 3, .inl (ty 0, 200, .inl (fun _ => 0)))]) H := hP
        have hD : va_D A ([(q0, .inr (13, [.ref y0, .ref y1, .null, .long 0, .int 0, .int 0, .int 0, .int 0, .int 0, .int 0, .int 0, .int 0])), (y0, .inl (ty 1, 32, .inr (.inr (.inr (.inr (fun _ => none)))))), (y1, .inl (ty 0, 1024, .inl fw)), (qb, .inr (6, [.ref (ub 0), .ref (ub 1), .ref (ub 2), .ref (ub 3), .int 0])), (ub 0, .inl (ty 0, 200, .inl (fun _ => 0))), (ub 1, .inl (ty 0, 200, .inl (fun _ => 0))), (ub 2, .inl (ty 0, 200, .inl (fun _ => 0))), (ub 3, .inl (ty 0, 200, .inl (fun _ => 0)))]) := hD
        refine va_putF (D := (dC, dI)) (ci := 13) (v := .ref qb) (ty := .object RX1) (C := RX11) (T := TX11) (N := 12) hx hb hg inG11 tyX11 tyX11_ok nmX11 hown hK hP hD hS 0 rfl rfl 2 (by decide) (hg _ wF_X11_22) (fun _ h9 => h9) rfl hmn rfl (by decide +kernel) rfl rfl (Nat.le_of_ble_eq_true rfl) dX11_init_55 (fun H locs hP hD hS => ?_)
        have hP : va_P (dC, dI) vwCl ([(q0, .inr (13, [.ref y0, .ref y1, .ref qb, .long 0, .int 0, .int 0, .int 0, .int 0, .int 0, .int 0, .int 0, .int 0])), (y0, .inl (ty 1, 32, .inr (.inr (.inr (.inr (fun _ => none)))))), (y1, .inl (ty 0, 1024, .inl fw)), (qb, .inr (6, [.ref (ub 0), .ref (ub 1), .ref (ub 2), .ref (ub 3), .int 0])), (ub 0, .inl (ty 0, 200, .inl (fun _ => 0))), (ub 1, .inl (ty 0, 200, .inl (fun _ => 0))), (ub 2, .inl (ty 0, 200, .inl (fun _ => 0))), (ub 3, .inl (ty 0, 200, .inl (fun _ => 0)))]) H := hP
        have hD : va_D A ([(q0, .inr (13, [.ref y0, .ref y1, .ref qb, .long 0, .int 0, .int 0, .int 0, .int 0, .int 0, .int 0, .int 0, .int 0])), (y0, .inl (ty 1, 32, .inr (.inr (.inr (.inr (fun _ => none)))))), (y1, .inl (ty 0, 1024, .inl fw)), (qb, .inr (6, [.ref (ub 0), .ref (ub 1), .ref (ub 2), .ref (ub 3), .int 0])), (ub 0, .inl (ty 0, 200, .inl (fun _ => 0))), (ub 1, .inl (ty 0, 200, .inl (fun _ => 0))), (ub 2, .inl (ty 0, 200, .inl (fun _ => 0))), (ub 3, .inl (ty 0, 200, .inl (fun _ => 0)))]) := hD
        refine lv_aload_n hx hb dX11_init_58 rfl (lv_at hl 1 rfl) ?_
        refine lv_iconst (v := (-1)) hx hb dX11_init_59 (by decide) ?_
        refine va_put (D := (dC, dI)) (ci := 13) (v := .int (-1)) (ty := .int) (C := RX11) (T := TX11) (N := 12) hx hb hg inG11 tyX11 tyX11_ok nmX11 hown hK hP hD hS 0 rfl rfl 4 (by decide) (hg _ wF_X11_26) (fun _ h9 => h9) rfl (by decide +kernel) rfl rfl (Nat.le_of_ble_eq_true rfl) dX11_init_60 (fun H locs hP hD hS => ?_)
        have hP : va_P (dC, dI) vwCl ([(q0, .inr (13, [.ref y0, .ref y1, .ref qb, .long 0, .int (-1), .int 0, .int 0, .int 0, .int 0, .int 0, .int 0, .int 0])), (y0, .inl (ty 1, 32, .inr (.inr (.inr (.inr (fun _ => none)))))), (y1, .inl (ty 0, 1024, .inl fw)), (qb, .inr (6, [.ref (ub 0), .ref (ub 1), .ref (ub 2), .ref (ub 3), .int 0])), (ub 0, .inl (ty 0, 200, .inl (fun _ => 0))), (ub 1, .inl (ty 0, 200, .inl (fun _ => 0))), (ub 2, .inl (ty 0, 200, .inl (fun _ => 0))), (ub 3, .inl (ty 0, 200, .inl (fun _ => 0)))]) H := hP
        have hD : va_D A ([(q0, .inr (13, [.ref y0, .ref y1, .ref qb, .long 0, .int (-1), .int 0, .int 0, .int 0, .int 0, .int 0, .int 0, .int 0])), (y0, .inl (ty 1, 32, .inr (.inr (.inr (.inr (fun _ => none)))))), (y1, .inl (ty 0, 1024, .inl fw)), (qb, .inr (6, [.ref (ub 0), .ref (ub 1), .ref (ub 2), .ref (ub 3), .int 0])), (ub 0, .inl (ty 0, 200, .inl (fun _ => 0))), (ub 1, .inl (ty 0, 200, .inl (fun _ => 0))), (ub 2, .inl (ty 0, 200, .inl (fun _ => 0))), (ub 3, .inl (ty 0, 200, .inl (fun _ => 0)))]) := hD
        refine W.widen (k := 7) (n := 1861) (by show 7 ≤ 7; decide) (by show 1861 ≤ 1861; decide) ?_
        have hP9 : va_P (dC, dI) vwCl ((fun u : (Nat → Nat) × (Nat → Int32) => cW (fun k => if k = 0 then q0 else if k = 1 then u.1 0 else if k = 2 then u.1 1 else if k = 3 then u.1 2 else if k = 4 then u.1 3 else if k = 5 then u.1 4 else if k = 6 then u.1 5 else u.1 6) ty (fun _ => none) 0 (-1) 0 (u.2, 0, 0, 0, 0, 0, 0, fun _ => 0, fun _ => 0, fun _ => 0, fun _ => 0, 0) ([], fun _ => 0, fun _ => 0, fun _ => 0, fun _ => none, fun _ => 0, fun _ _ => 0, fun _ _ => none)) ((fun k => [y0, y1, qb, ub 0, ub 1, ub 2, ub 3].getD k 0), fw)) H := hP
        have hD9 : va_D A ((fun u : (Nat → Nat) × (Nat → Int32) => cW (fun k => if k = 0 then q0 else if k = 1 then u.1 0 else if k = 2 then u.1 1 else if k = 3 then u.1 2 else if k = 4 then u.1 3 else if k = 5 then u.1 4 else if k = 6 then u.1 5 else u.1 6) ty (fun _ => none) 0 (-1) 0 (u.2, 0, 0, 0, 0, 0, 0, fun _ => 0, fun _ => 0, fun _ => 0, fun _ => 0, 0) ([], fun _ => 0, fun _ => 0, fun _ => 0, fun _ => none, fun _ => 0, fun _ _ => 0, fun _ _ => none)) ((fun k => [y0, y1, qb, ub 0, ub 1, ub 2, ub 3].getD k 0), fw)) := hD
        exact cr_v (wo := fun u : (Nat → Nat) × (Nat → Int32) => cW (fun k => if k = 0 then q0 else if k = 1 then u.1 0 else if k = 2 then u.1 1 else if k = 3 then u.1 2 else if k = 4 then u.1 3 else if k = 5 then u.1 4 else if k = 6 then u.1 5 else u.1 6) ty (fun _ => none) 0 (-1) 0 (u.2, 0, 0, 0, 0, 0, 0, fun _ => 0, fun _ => 0, fun _ => 0, fun _ => 0, 0) ([], fun _ => 0, fun _ => 0, fun _ => 0, fun _ => none, fun _ => 0, fun _ _ => 0, fun _ _ => none)) _ hx hb hr hlk hS hP9 hD9 (p40_end i1 c1 i2) dX11_init_63
      · show _
        have hin := pg_in0 (nn_of i0) c1
        refine lv_aload_n hx hb dX11_init_31 rfl (lv_at hl 1 rfl) ?_
        refine va_get (D := (dC, dI)) (ci := 13) (v := .ref y1) (C := RX11) (T := TX11) (N := 12) hx hb hg inG11 hown hK hP 0 rfl rfl 1 (by decide) (hg _ wF_X11_15) (fun _ h9 => h9) rfl dX11_init_32 ?_
        refine lv_iload_n hx hb dX11_init_35 rfl (lv_at hl 0 rfl) ?_
        refine lv_iconst (v := 4) hx hb dX11_init_36 (by decide) ?_
        refine lv_imul hx hb dX11_init_37 ?_
        refine lv_bipush (v := 40) hx hb dX11_init_38 (by decide) ?_
        refine va_iast hx hb hK hP hD hS 2 0 rfl rfl hin dX11_init_40 (fun H locs hP hD hS => ?_)
        have hP : va_P (dC, dI) vwCl ([(q0, .inr (13, [.ref y0, .ref y1, .null, .long 0, .int 0, .int 0, .int 0, .int 0, .int 0, .int 0, .int 0, .int 0])), (y0, .inl (ty 1, 32, .inr (.inr (.inr (.inr (fun _ => none)))))), (y1, .inl (ty 0, 1024, .inl (upd fw (k1 * 4).toNatClampNeg 40)))]) H := hP
        have hD : va_D A ([(q0, .inr (13, [.ref y0, .ref y1, .null, .long 0, .int 0, .int 0, .int 0, .int 0, .int 0, .int 0, .int 0, .int 0])), (y0, .inl (ty 1, 32, .inr (.inr (.inr (.inr (fun _ => none)))))), (y1, .inl (ty 0, 1024, .inl (upd fw (k1 * 4).toNatClampNeg 40)))]) := hD
        refine lv_iinc (v := (k1 + 1)) (lv' := [(1, .int (k1 + 1)), (0, .ref q0)]) hx hb dX11_init_41 hl (k := 0) rfl rfl (by decide) rfl (fun ls hl => ?_)
        refine lv_goto (tgt := 24) hx hb dX11_init_44 (by decide) ?_
        exact IH _ (by rw [← hN]; exact th_dec i0 c1) (k1 + 1) (upd fw (k1 * 4).toNatClampNeg 40) _ _ _ rfl (k1_nn i0 c1) (k1_le c1) (p40_up i0 c1 i2) hP hD hS hl
  exact LOOP _ 0 (fun _ => 0) _ _ _ rfl (by decide) (by decide) p40_0 hP hD hS (lv_sub hl [0, 1] rfl)

theorem dep_in {x : Int32} (h : 0 ≤ x) (h1 : ¬ 200 ≤ x) : vp_in x 200 := cin_of (nlt_of h) h1 (by decide)
theorem dep_in1 {x : Int32} (h : ¬ x ≤ 0) (h1 : x ≤ 200) : vp_in (x - 1) 200 := by
  rw [Int32.le_iff_toInt_le, ci_0] at h
  rw [Int32.le_iff_toInt_le, ci_200] at h1
  have e : (x - 1).toInt = x.toInt - 1 := by
    rw [Int32.toInt_sub, ci_1]
    exact Int.bmod_eq_of_le (by omega) (by omega)
  rw [vp_in_iff, e]
  omega
theorem dep_in0 {x : Int32} (h : ¬ x = 0) (h0 : 0 ≤ x) (h1 : x ≤ 200) : vp_in (x - 1) 200 := dep_in1 (fun q => by
  rw [Int32.le_iff_toInt_le, ci_0] at q h0
  exact h (Int32.toInt_inj.mp (by rw [ci_0]; omega))) h1
/-- whether a TRY of this kind catches an exception of this sort -/
def kCa (c f : Int32) : Bool := if c = 0 ∨ c = 1 ∨ c = 2 then f == c else if c = 3 then f == 3 || f == 5 else if c = 4 then true else if c = 7 then f == 6 else false
set_option maxHeartbeats 800000 in
set_option maxRecDepth 100000 in
theorem c_X1_open (l : Launch) (dC : Nat → ClassId) (dI : Nat → Nat → Nat) (g : Nat → Nat) (ty : Nat → ClassId) (sz : Nat) (pl : Nat → Option Nat) (ac : Int64) (ft : Int32) (md : Int32) (Z : cZ) (P : cQ) (a0 : Int32) (b0 : Int32) (c0 : Int32) (e0 : Int32) (pre0 : 0 ≤ Z.2.2.2.2.2.2.2.2.2.2.2) (pre1 : Z.2.2.2.2.2.2.2.2.2.2.2 ≤ 200) : Met l yX1_open (Cond.code yX1_open cX1_open 5 none :: gT) ({ frames := 0, cells := 0, slots := 0, locals := 0 }) (cP (dC, dI) (cTy ty) (cW g ty pl ac ft md Z P) sz [.ref (g 3), .int a0, .int b0, .int c0, .int e0]) (va_Qv (fun (u : cZ) => ((Z.1, Z.2.1, Z.2.2.1, Z.2.2.2.1, Z.2.2.2.2.1, Z.2.2.2.2.2.1, Z.2.2.2.2.2.2.1, (upd Z.2.2.2.2.2.2.2.1 Z.2.2.2.2.2.2.2.2.2.2.2.toNatClampNeg a0), (upd Z.2.2.2.2.2.2.2.2.1 Z.2.2.2.2.2.2.2.2.2.2.2.toNatClampNeg b0), (upd Z.2.2.2.2.2.2.2.2.2.1 Z.2.2.2.2.2.2.2.2.2.2.2.toNatClampNeg c0), (upd Z.2.2.2.2.2.2.2.2.2.2.1 Z.2.2.2.2.2.2.2.2.2.2.2.toNatClampNeg e0), (Z.2.2.2.2.2.2.2.2.2.2.2 + 1)) = u ∧ ¬ 200 ≤ Z.2.2.2.2.2.2.2.2.2.2.2) ∨ (Z = u ∧ 200 ≤ Z.2.2.2.2.2.2.2.2.2.2.2)) (cB (dC, dI) (fun u : cZ => cW g ty pl ac ft md u P) (va_A (cW g ty pl ac ft md Z P) sz)) (va_A (cW g ty pl ac ft md Z P) sz)) 0 0 (va_A (cW g ty pl ac ft md Z P) sz) := by
  refine cc_of (Qa := fun A => va_Qv (fun (u : cZ) => ((Z.1, Z.2.1, Z.2.2.1, Z.2.2.2.1, Z.2.2.2.2.1, Z.2.2.2.2.2.1, Z.2.2.2.2.2.2.1, (upd Z.2.2.2.2.2.2.2.1 Z.2.2.2.2.2.2.2.2.2.2.2.toNatClampNeg a0), (upd Z.2.2.2.2.2.2.2.2.1 Z.2.2.2.2.2.2.2.2.2.2.2.toNatClampNeg b0), (upd Z.2.2.2.2.2.2.2.2.2.1 Z.2.2.2.2.2.2.2.2.2.2.2.toNatClampNeg c0), (upd Z.2.2.2.2.2.2.2.2.2.2.1 Z.2.2.2.2.2.2.2.2.2.2.2.toNatClampNeg e0), (Z.2.2.2.2.2.2.2.2.2.2.2 + 1)) = u ∧ ¬ 200 ≤ Z.2.2.2.2.2.2.2.2.2.2.2) ∨ (Z = u ∧ 200 ≤ Z.2.2.2.2.2.2.2.2.2.2.2)) (cB (dC, dI) (fun u : cZ => cW g ty pl ac ft md u P) A) A) (by decide) (Nat.le_of_ble_eq_true rfl) ?_
  intro p e s m below meth c A hx hb hr hml hown hg hlk hmn hP hK hD hT hS hA hsz ls hl
  have hown : s.vm.findClass RX1 = some m.cls := hown
  have hl : lv_has ls 5 [(0, .ref (g 3)), (1, .int a0), (2, .int b0), (3, .int c0), (4, .int e0)] := hl
  refine lv_aload_n hx hb dX1_open_0 rfl (lv_at hl 0 rfl) ?_
  refine va_get (D := (dC, dI)) (ci := 6) (v := .int Z.2.2.2.2.2.2.2.2.2.2.2) (C := RX1) (T := TX1) (N := 5) hx hb hg inG1 hown hK hP 3 rfl rfl 4 (by decide) (hg _ wF_X1_24) (fun _ h9 => h9) rfl dX1_open_1 ?_
  refine lv_sipush (v := 200) hx hb dX1_open_4 (by decide) ?_
  refine lv_icmp_ge (tgt := 61) hx hb dX1_open_7 (by decide) (fun c_1 => ?_) (fun c_1 => ?_)
  · show _
    refine cr_v (wo := fun u : cZ => cW g ty pl ac ft md u P) (Z) hx hb hr hlk hS hP hD ?_ dX1_open_61
    exact Or.inr ⟨rfl, (by first | assumption | exact dep_in pre0 (by assumption))⟩
  · show _
    refine lv_aload_n hx hb dX1_open_10 rfl (lv_at hl 0 rfl) ?_
    refine va_get (D := (dC, dI)) (ci := 6) (v := .ref (g 4)) (C := RX1) (T := TX1) (N := 5) hx hb hg inG1 hown hK hP 3 rfl rfl 0 (by decide) (hg _ wF_X1_9) (fun _ h9 => h9) rfl dX1_open_11 ?_
    refine lv_aload_n hx hb dX1_open_14 rfl (lv_at hl 0 rfl) ?_
    refine va_get (D := (dC, dI)) (ci := 6) (v := .int Z.2.2.2.2.2.2.2.2.2.2.2) (C := RX1) (T := TX1) (N := 5) hx hb hg inG1 hown hK hP 3 rfl rfl 4 (by decide) (hg _ wF_X1_24) (fun _ h9 => h9) rfl dX1_open_15 ?_
    refine lv_iload_n hx hb dX1_open_18 rfl (lv_at hl 1 rfl) ?_
    refine va_iast hx hb hK hP hD hS 4 0 rfl rfl (by first | assumption | exact dep_in pre0 (by assumption)) dX1_open_19 (fun H locs hP hD hS => ?_)
    have hP : va_P (dC, dI) vwCl (cW g ty pl ac ft md (Z.1, Z.2.1, Z.2.2.1, Z.2.2.2.1, Z.2.2.2.2.1, Z.2.2.2.2.2.1, Z.2.2.2.2.2.2.1, (upd Z.2.2.2.2.2.2.2.1 Z.2.2.2.2.2.2.2.2.2.2.2.toNatClampNeg a0), Z.2.2.2.2.2.2.2.2.1, Z.2.2.2.2.2.2.2.2.2.1, Z.2.2.2.2.2.2.2.2.2.2.1, Z.2.2.2.2.2.2.2.2.2.2.2) P) H := hP
    have hD : va_D A (cW g ty pl ac ft md (Z.1, Z.2.1, Z.2.2.1, Z.2.2.2.1, Z.2.2.2.2.1, Z.2.2.2.2.2.1, Z.2.2.2.2.2.2.1, (upd Z.2.2.2.2.2.2.2.1 Z.2.2.2.2.2.2.2.2.2.2.2.toNatClampNeg a0), Z.2.2.2.2.2.2.2.2.1, Z.2.2.2.2.2.2.2.2.2.1, Z.2.2.2.2.2.2.2.2.2.2.1, Z.2.2.2.2.2.2.2.2.2.2.2) P) := hD
    refine lv_aload_n hx hb dX1_open_20 rfl (lv_at hl 0 rfl) ?_
    refine va_get (D := (dC, dI)) (ci := 6) (v := .ref (g 5)) (C := RX1) (T := TX1) (N := 5) hx hb hg inG1 hown hK hP 3 rfl rfl 1 (by decide) (hg _ wF_X1_15) (fun _ h9 => h9) rfl dX1_open_21 ?_
    refine lv_aload_n hx hb dX1_open_24 rfl (lv_at hl 0 rfl) ?_
    refine va_get (D := (dC, dI)) (ci := 6) (v := .int Z.2.2.2.2.2.2.2.2.2.2.2) (C := RX1) (T := TX1) (N := 5) hx hb hg inG1 hown hK hP 3 rfl rfl 4 (by decide) (hg _ wF_X1_24) (fun _ h9 => h9) rfl dX1_open_25 ?_
    refine lv_iload_n hx hb dX1_open_28 rfl (lv_at hl 2 rfl) ?_
    refine va_iast hx hb hK hP hD hS 5 0 rfl rfl (by first | assumption | exact dep_in pre0 (by assumption)) dX1_open_29 (fun H locs hP hD hS => ?_)
    have hP : va_P (dC, dI) vwCl (cW g ty pl ac ft md (Z.1, Z.2.1, Z.2.2.1, Z.2.2.2.1, Z.2.2.2.2.1, Z.2.2.2.2.2.1, Z.2.2.2.2.2.2.1, (upd Z.2.2.2.2.2.2.2.1 Z.2.2.2.2.2.2.2.2.2.2.2.toNatClampNeg a0), (upd Z.2.2.2.2.2.2.2.2.1 Z.2.2.2.2.2.2.2.2.2.2.2.toNatClampNeg b0), Z.2.2.2.2.2.2.2.2.2.1, Z.2.2.2.2.2.2.2.2.2.2.1, Z.2.2.2.2.2.2.2.2.2.2.2) P) H := hP
    have hD : va_D A (cW g ty pl ac ft md (Z.1, Z.2.1, Z.2.2.1, Z.2.2.2.1, Z.2.2.2.2.1, Z.2.2.2.2.2.1, Z.2.2.2.2.2.2.1, (upd Z.2.2.2.2.2.2.2.1 Z.2.2.2.2.2.2.2.2.2.2.2.toNatClampNeg a0), (upd Z.2.2.2.2.2.2.2.2.1 Z.2.2.2.2.2.2.2.2.2.2.2.toNatClampNeg b0), Z.2.2.2.2.2.2.2.2.2.1, Z.2.2.2.2.2.2.2.2.2.2.1, Z.2.2.2.2.2.2.2.2.2.2.2) P) := hD
    refine lv_aload_n hx hb dX1_open_30 rfl (lv_at hl 0 rfl) ?_
    refine va_get (D := (dC, dI)) (ci := 6) (v := .ref (g 6)) (C := RX1) (T := TX1) (N := 5) hx hb hg inG1 hown hK hP 3 rfl rfl 2 (by decide) (hg _ wF_X1_18) (fun _ h9 => h9) rfl dX1_open_31 ?_
    refine lv_aload_n hx hb dX1_open_34 rfl (lv_at hl 0 rfl) ?_
    refine va_get (D := (dC, dI)) (ci := 6) (v := .int Z.2.2.2.2.2.2.2.2.2.2.2) (C := RX1) (T := TX1) (N := 5) hx hb hg inG1 hown hK hP 3 rfl rfl 4 (by decide) (hg _ wF_X1_24) (fun _ h9 => h9) rfl dX1_open_35 ?_
    refine lv_iload_n hx hb dX1_open_38 rfl (lv_at hl 3 rfl) ?_
    refine va_iast hx hb hK hP hD hS 6 0 rfl rfl (by first | assumption | exact dep_in pre0 (by assumption)) dX1_open_39 (fun H locs hP hD hS => ?_)
    have hP : va_P (dC, dI) vwCl (cW g ty pl ac ft md (Z.1, Z.2.1, Z.2.2.1, Z.2.2.2.1, Z.2.2.2.2.1, Z.2.2.2.2.2.1, Z.2.2.2.2.2.2.1, (upd Z.2.2.2.2.2.2.2.1 Z.2.2.2.2.2.2.2.2.2.2.2.toNatClampNeg a0), (upd Z.2.2.2.2.2.2.2.2.1 Z.2.2.2.2.2.2.2.2.2.2.2.toNatClampNeg b0), (upd Z.2.2.2.2.2.2.2.2.2.1 Z.2.2.2.2.2.2.2.2.2.2.2.toNatClampNeg c0), Z.2.2.2.2.2.2.2.2.2.2.1, Z.2.2.2.2.2.2.2.2.2.2.2) P) H := hP
    have hD : va_D A (cW g ty pl ac ft md (Z.1, Z.2.1, Z.2.2.1, Z.2.2.2.1, Z.2.2.2.2.1, Z.2.2.2.2.2.1, Z.2.2.2.2.2.2.1, (upd Z.2.2.2.2.2.2.2.1 Z.2.2.2.2.2.2.2.2.2.2.2.toNatClampNeg a0), (upd Z.2.2.2.2.2.2.2.2.1 Z.2.2.2.2.2.2.2.2.2.2.2.toNatClampNeg b0), (upd Z.2.2.2.2.2.2.2.2.2.1 Z.2.2.2.2.2.2.2.2.2.2.2.toNatClampNeg c0), Z.2.2.2.2.2.2.2.2.2.2.1, Z.2.2.2.2.2.2.2.2.2.2.2) P) := hD
    refine lv_aload_n hx hb dX1_open_40 rfl (lv_at hl 0 rfl) ?_
    refine va_get (D := (dC, dI)) (ci := 6) (v := .ref (g 7)) (C := RX1) (T := TX1) (N := 5) hx hb hg inG1 hown hK hP 3 rfl rfl 3 (by decide) (hg _ wF_X1_21) (fun _ h9 => h9) rfl dX1_open_41 ?_
    refine lv_aload_n hx hb dX1_open_44 rfl (lv_at hl 0 rfl) ?_
    refine va_get (D := (dC, dI)) (ci := 6) (v := .int Z.2.2.2.2.2.2.2.2.2.2.2) (C := RX1) (T := TX1) (N := 5) hx hb hg inG1 hown hK hP 3 rfl rfl 4 (by decide) (hg _ wF_X1_24) (fun _ h9 => h9) rfl dX1_open_45 ?_
    refine lv_iload hx hb dX1_open_48 (lv_at hl 4 rfl) ?_
    refine va_iast hx hb hK hP hD hS 7 0 rfl rfl (by first | assumption | exact dep_in pre0 (by assumption)) dX1_open_50 (fun H locs hP hD hS => ?_)
    have hP : va_P (dC, dI) vwCl (cW g ty pl ac ft md (Z.1, Z.2.1, Z.2.2.1, Z.2.2.2.1, Z.2.2.2.2.1, Z.2.2.2.2.2.1, Z.2.2.2.2.2.2.1, (upd Z.2.2.2.2.2.2.2.1 Z.2.2.2.2.2.2.2.2.2.2.2.toNatClampNeg a0), (upd Z.2.2.2.2.2.2.2.2.1 Z.2.2.2.2.2.2.2.2.2.2.2.toNatClampNeg b0), (upd Z.2.2.2.2.2.2.2.2.2.1 Z.2.2.2.2.2.2.2.2.2.2.2.toNatClampNeg c0), (upd Z.2.2.2.2.2.2.2.2.2.2.1 Z.2.2.2.2.2.2.2.2.2.2.2.toNatClampNeg e0), Z.2.2.2.2.2.2.2.2.2.2.2) P) H := hP
    have hD : va_D A (cW g ty pl ac ft md (Z.1, Z.2.1, Z.2.2.1, Z.2.2.2.1, Z.2.2.2.2.1, Z.2.2.2.2.2.1, Z.2.2.2.2.2.2.1, (upd Z.2.2.2.2.2.2.2.1 Z.2.2.2.2.2.2.2.2.2.2.2.toNatClampNeg a0), (upd Z.2.2.2.2.2.2.2.2.1 Z.2.2.2.2.2.2.2.2.2.2.2.toNatClampNeg b0), (upd Z.2.2.2.2.2.2.2.2.2.1 Z.2.2.2.2.2.2.2.2.2.2.2.toNatClampNeg c0), (upd Z.2.2.2.2.2.2.2.2.2.2.1 Z.2.2.2.2.2.2.2.2.2.2.2.toNatClampNeg e0), Z.2.2.2.2.2.2.2.2.2.2.2) P) := hD
    refine lv_aload_n hx hb dX1_open_51 rfl (lv_at hl 0 rfl) ?_
    refine lv_dup hx hb dX1_open_52 rfl ?_
    refine va_get (D := (dC, dI)) (ci := 6) (v := .int Z.2.2.2.2.2.2.2.2.2.2.2) (C := RX1) (T := TX1) (N := 5) hx hb hg inG1 hown hK hP 3 rfl rfl 4 (by decide) (hg _ wF_X1_24) (fun _ h9 => h9) rfl dX1_open_53 ?_
    refine lv_iconst (v := 1) hx hb dX1_open_56 (by decide) ?_
    refine lv_iadd hx hb dX1_open_57 ?_
    refine va_put (D := (dC, dI)) (ci := 6) (v := .int (Z.2.2.2.2.2.2.2.2.2.2.2 + 1)) (ty := .int) (C := RX1) (T := TX1) (N := 5) hx hb hg inG1 tyX1 tyX1_ok nmX1 hown hK hP hD hS 3 rfl rfl 4 (by decide) (hg _ wF_X1_24) (fun _ h9 => h9) rfl (by decide +kernel) rfl rfl (Nat.le_of_ble_eq_true rfl) dX1_open_58 (fun H locs hP hD hS => ?_)
    have hP : va_P (dC, dI) vwCl (cW g ty pl ac ft md (Z.1, Z.2.1, Z.2.2.1, Z.2.2.2.1, Z.2.2.2.2.1, Z.2.2.2.2.2.1, Z.2.2.2.2.2.2.1, (upd Z.2.2.2.2.2.2.2.1 Z.2.2.2.2.2.2.2.2.2.2.2.toNatClampNeg a0), (upd Z.2.2.2.2.2.2.2.2.1 Z.2.2.2.2.2.2.2.2.2.2.2.toNatClampNeg b0), (upd Z.2.2.2.2.2.2.2.2.2.1 Z.2.2.2.2.2.2.2.2.2.2.2.toNatClampNeg c0), (upd Z.2.2.2.2.2.2.2.2.2.2.1 Z.2.2.2.2.2.2.2.2.2.2.2.toNatClampNeg e0), (Z.2.2.2.2.2.2.2.2.2.2.2 + 1)) P) H := hP
    have hD : va_D A (cW g ty pl ac ft md (Z.1, Z.2.1, Z.2.2.1, Z.2.2.2.1, Z.2.2.2.2.1, Z.2.2.2.2.2.1, Z.2.2.2.2.2.2.1, (upd Z.2.2.2.2.2.2.2.1 Z.2.2.2.2.2.2.2.2.2.2.2.toNatClampNeg a0), (upd Z.2.2.2.2.2.2.2.2.1 Z.2.2.2.2.2.2.2.2.2.2.2.toNatClampNeg b0), (upd Z.2.2.2.2.2.2.2.2.2.1 Z.2.2.2.2.2.2.2.2.2.2.2.toNatClampNeg c0), (upd Z.2.2.2.2.2.2.2.2.2.2.1 Z.2.2.2.2.2.2.2.2.2.2.2.toNatClampNeg e0), (Z.2.2.2.2.2.2.2.2.2.2.2 + 1)) P) := hD
    refine cr_v (wo := fun u : cZ => cW g ty pl ac ft md u P) ((Z.1, Z.2.1, Z.2.2.1, Z.2.2.2.1, Z.2.2.2.2.1, Z.2.2.2.2.2.1, Z.2.2.2.2.2.2.1, (upd Z.2.2.2.2.2.2.2.1 Z.2.2.2.2.2.2.2.2.2.2.2.toNatClampNeg a0), (upd Z.2.2.2.2.2.2.2.2.1 Z.2.2.2.2.2.2.2.2.2.2.2.toNatClampNeg b0), (upd Z.2.2.2.2.2.2.2.2.2.1 Z.2.2.2.2.2.2.2.2.2.2.2.toNatClampNeg c0), (upd Z.2.2.2.2.2.2.2.2.2.2.1 Z.2.2.2.2.2.2.2.2.2.2.2.toNatClampNeg e0), (Z.2.2.2.2.2.2.2.2.2.2.2 + 1))) hx hb hr hlk hS hP hD ?_ dX1_open_61
    exact Or.inl ⟨rfl, (by first | assumption | exact dep_in pre0 (by assumption))⟩
set_option maxHeartbeats 800000 in
set_option maxRecDepth 100000 in
theorem c_X1_drop (l : Launch) (dC : Nat → ClassId) (dI : Nat → Nat → Nat) (g : Nat → Nat) (ty : Nat → ClassId) (sz : Nat) (pl : Nat → Option Nat) (ac : Int64) (ft : Int32) (md : Int32) (Z : cZ) (P : cQ) : Met l yX1_drop (Cond.code yX1_drop cX1_drop 1 none :: gT) ({ frames := 0, cells := 0, slots := 0, locals := 0 }) (cP (dC, dI) (cTy ty) (cW g ty pl ac ft md Z P) sz [.ref (g 3)]) (va_Qv (fun (u : cZ) => ((Z.1, Z.2.1, Z.2.2.1, Z.2.2.2.1, Z.2.2.2.2.1, Z.2.2.2.2.2.1, Z.2.2.2.2.2.2.1, Z.2.2.2.2.2.2.2.1, Z.2.2.2.2.2.2.2.2.1, Z.2.2.2.2.2.2.2.2.2.1, Z.2.2.2.2.2.2.2.2.2.2.1, (Z.2.2.2.2.2.2.2.2.2.2.2 - 1)) = u ∧ ¬ Z.2.2.2.2.2.2.2.2.2.2.2 ≤ 0) ∨ (Z = u ∧ Z.2.2.2.2.2.2.2.2.2.2.2 ≤ 0)) (cB (dC, dI) (fun u : cZ => cW g ty pl ac ft md u P) (va_A (cW g ty pl ac ft md Z P) sz)) (va_A (cW g ty pl ac ft md Z P) sz)) 0 0 (va_A (cW g ty pl ac ft md Z P) sz) := by
  refine cc_of (Qa := fun A => va_Qv (fun (u : cZ) => ((Z.1, Z.2.1, Z.2.2.1, Z.2.2.2.1, Z.2.2.2.2.1, Z.2.2.2.2.2.1, Z.2.2.2.2.2.2.1, Z.2.2.2.2.2.2.2.1, Z.2.2.2.2.2.2.2.2.1, Z.2.2.2.2.2.2.2.2.2.1, Z.2.2.2.2.2.2.2.2.2.2.1, (Z.2.2.2.2.2.2.2.2.2.2.2 - 1)) = u ∧ ¬ Z.2.2.2.2.2.2.2.2.2.2.2 ≤ 0) ∨ (Z = u ∧ Z.2.2.2.2.2.2.2.2.2.2.2 ≤ 0)) (cB (dC, dI) (fun u : cZ => cW g ty pl ac ft md u P) A) A) (by decide) (Nat.le_of_ble_eq_true rfl) ?_
  intro p e s m below meth c A hx hb hr hml hown hg hlk hmn hP hK hD hT hS hA hsz ls hl
  have hown : s.vm.findClass RX1 = some m.cls := hown
  have hl : lv_has ls 1 [(0, .ref (g 3))] := hl
  refine lv_aload_n hx hb dX1_drop_0 rfl (lv_at hl 0 rfl) ?_
  refine va_get (D := (dC, dI)) (ci := 6) (v := .int Z.2.2.2.2.2.2.2.2.2.2.2) (C := RX1) (T := TX1) (N := 5) hx hb hg inG1 hown hK hP 3 rfl rfl 4 (by decide) (hg _ wF_X1_24) (fun _ h9 => h9) rfl dX1_drop_1 ?_
  refine lv_if_le (tgt := 17) hx hb dX1_drop_4 (by decide) (fun c_1 => ?_) (fun c_1 => ?_)
  · show _
    refine cr_v (wo := fun u : cZ => cW g ty pl ac ft md u P) (Z) hx hb hr hlk hS hP hD ?_ dX1_drop_17
    exact Or.inr ⟨rfl, (by first | assumption)⟩
  · show _
    refine lv_aload_n hx hb dX1_drop_7 rfl (lv_at hl 0 rfl) ?_
    refine lv_dup hx hb dX1_drop_8 rfl ?_
    refine va_get (D := (dC, dI)) (ci := 6) (v := .int Z.2.2.2.2.2.2.2.2.2.2.2) (C := RX1) (T := TX1) (N := 5) hx hb hg inG1 hown hK hP 3 rfl rfl 4 (by decide) (hg _ wF_X1_24) (fun _ h9 => h9) rfl dX1_drop_9 ?_
    refine lv_iconst (v := 1) hx hb dX1_drop_12 (by decide) ?_
    refine lv_isub hx hb dX1_drop_13 ?_
    refine va_put (D := (dC, dI)) (ci := 6) (v := .int (Z.2.2.2.2.2.2.2.2.2.2.2 - 1)) (ty := .int) (C := RX1) (T := TX1) (N := 5) hx hb hg inG1 tyX1 tyX1_ok nmX1 hown hK hP hD hS 3 rfl rfl 4 (by decide) (hg _ wF_X1_24) (fun _ h9 => h9) rfl (by decide +kernel) rfl rfl (Nat.le_of_ble_eq_true rfl) dX1_drop_14 (fun H locs hP hD hS => ?_)
    have hP : va_P (dC, dI) vwCl (cW g ty pl ac ft md (Z.1, Z.2.1, Z.2.2.1, Z.2.2.2.1, Z.2.2.2.2.1, Z.2.2.2.2.2.1, Z.2.2.2.2.2.2.1, Z.2.2.2.2.2.2.2.1, Z.2.2.2.2.2.2.2.2.1, Z.2.2.2.2.2.2.2.2.2.1, Z.2.2.2.2.2.2.2.2.2.2.1, (Z.2.2.2.2.2.2.2.2.2.2.2 - 1)) P) H := hP
    have hD : va_D A (cW g ty pl ac ft md (Z.1, Z.2.1, Z.2.2.1, Z.2.2.2.1, Z.2.2.2.2.1, Z.2.2.2.2.2.1, Z.2.2.2.2.2.2.1, Z.2.2.2.2.2.2.2.1, Z.2.2.2.2.2.2.2.2.1, Z.2.2.2.2.2.2.2.2.2.1, Z.2.2.2.2.2.2.2.2.2.2.1, (Z.2.2.2.2.2.2.2.2.2.2.2 - 1)) P) := hD
    refine cr_v (wo := fun u : cZ => cW g ty pl ac ft md u P) ((Z.1, Z.2.1, Z.2.2.1, Z.2.2.2.1, Z.2.2.2.2.1, Z.2.2.2.2.2.1, Z.2.2.2.2.2.2.1, Z.2.2.2.2.2.2.2.1, Z.2.2.2.2.2.2.2.2.1, Z.2.2.2.2.2.2.2.2.2.1, Z.2.2.2.2.2.2.2.2.2.2.1, (Z.2.2.2.2.2.2.2.2.2.2.2 - 1))) hx hb hr hlk hS hP hD ?_ dX1_drop_17
    exact Or.inl ⟨rfl, (by first | assumption)⟩
set_option maxHeartbeats 800000 in
set_option maxRecDepth 100000 in
theorem c_X1_innerStart (l : Launch) (dC : Nat → ClassId) (dI : Nat → Nat → Nat) (g : Nat → Nat) (ty : Nat → ClassId) (sz : Nat) (pl : Nat → Option Nat) (ac : Int64) (ft : Int32) (md : Int32) (Z : cZ) (P : cQ) (pre0 : 0 ≤ Z.2.2.2.2.2.2.2.2.2.2.2) (pre1 : Z.2.2.2.2.2.2.2.2.2.2.2 ≤ 200) : Met l yX1_innerStart (Cond.code yX1_innerStart cX1_innerStart 1 (some .int) :: gT) ({ frames := 0, cells := 0, slots := 0, locals := 0 }) (cP (dC, dI) (cTy ty) (cW g ty pl ac ft md Z P) sz [.ref (g 3)]) (va_Qi (fun (rz : Int32) (u : Unit) => ((Z.2.2.2.2.2.2.2.1 (Z.2.2.2.2.2.2.2.2.2.2.2 - 1).toNatClampNeg) = rz ∧ ¬ Z.2.2.2.2.2.2.2.2.2.2.2 ≤ 0) ∨ (0 = rz ∧ Z.2.2.2.2.2.2.2.2.2.2.2 ≤ 0)) (cB (dC, dI) (fun u : Unit => cW g ty pl ac ft md Z P) (va_A (cW g ty pl ac ft md Z P) sz)) (va_A (cW g ty pl ac ft md Z P) sz)) 0 0 (va_A (cW g ty pl ac ft md Z P) sz) := by
  refine cc_of (Qa := fun A => va_Qi (fun (rz : Int32) (u : Unit) => ((Z.2.2.2.2.2.2.2.1 (Z.2.2.2.2.2.2.2.2.2.2.2 - 1).toNatClampNeg) = rz ∧ ¬ Z.2.2.2.2.2.2.2.2.2.2.2 ≤ 0) ∨ (0 = rz ∧ Z.2.2.2.2.2.2.2.2.2.2.2 ≤ 0)) (cB (dC, dI) (fun u : Unit => cW g ty pl ac ft md Z P) A) A) (by decide) (Nat.le_of_ble_eq_true rfl) ?_
  intro p e s m below meth c A hx hb hr hml hown hg hlk hmn hP hK hD hT hS hA hsz ls hl
  have hown : s.vm.findClass RX1 = some m.cls := hown
  have hl : lv_has ls 1 [(0, .ref (g 3))] := hl
  refine lv_aload_n hx hb dX1_innerStart_0 rfl (lv_at hl 0 rfl) ?_
  refine va_get (D := (dC, dI)) (ci := 6) (v := .int Z.2.2.2.2.2.2.2.2.2.2.2) (C := RX1) (T := TX1) (N := 5) hx hb hg inG1 hown hK hP 3 rfl rfl 4 (by decide) (hg _ wF_X1_24) (fun _ h9 => h9) rfl dX1_innerStart_1 ?_
  refine lv_if_le (tgt := 21) hx hb dX1_innerStart_4 (by decide) (fun c_1 => ?_) (fun c_1 => ?_)
  · show _
    refine lv_iconst (v := 0) hx hb dX1_innerStart_21 (by decide) ?_
    refine cr_i (wo := fun u : Unit => cW g ty pl ac ft md Z P) (()) hx hb hr hlk hS hP hD ?_ dX1_innerStart_22
    first | exact Or.inl ⟨rfl, (by first | assumption | exact dep_in1 (by assumption) pre1)⟩ | exact Or.inr ⟨rfl, (by first | assumption | exact dep_in1 (by assumption) pre1)⟩
  · show _
    refine lv_aload_n hx hb dX1_innerStart_7 rfl (lv_at hl 0 rfl) ?_
    refine va_get (D := (dC, dI)) (ci := 6) (v := .ref (g 4)) (C := RX1) (T := TX1) (N := 5) hx hb hg inG1 hown hK hP 3 rfl rfl 0 (by decide) (hg _ wF_X1_9) (fun _ h9 => h9) rfl dX1_innerStart_8 ?_
    refine lv_aload_n hx hb dX1_innerStart_11 rfl (lv_at hl 0 rfl) ?_
    refine va_get (D := (dC, dI)) (ci := 6) (v := .int Z.2.2.2.2.2.2.2.2.2.2.2) (C := RX1) (T := TX1) (N := 5) hx hb hg inG1 hown hK hP 3 rfl rfl 4 (by decide) (hg _ wF_X1_24) (fun _ h9 => h9) rfl dX1_innerStart_12 ?_
    refine lv_iconst (v := 1) hx hb dX1_innerStart_15 (by decide) ?_
    refine lv_isub hx hb dX1_innerStart_16 ?_
    refine va_iald hx hb hK hP 4 0 rfl rfl (by first | assumption | exact dep_in1 (by assumption) pre1) dX1_innerStart_17 ?_
    refine lv_goto (tgt := 22) hx hb dX1_innerStart_18 (by decide) ?_
    refine cr_i (wo := fun u : Unit => cW g ty pl ac ft md Z P) (()) hx hb hr hlk hS hP hD ?_ dX1_innerStart_22
    first | exact Or.inl ⟨rfl, (by first | assumption | exact dep_in1 (by assumption) pre1)⟩ | exact Or.inr ⟨rfl, (by first | assumption | exact dep_in1 (by assumption) pre1)⟩
set_option maxHeartbeats 800000 in
set_option maxRecDepth 100000 in
theorem c_X1_innerEnd (l : Launch) (dC : Nat → ClassId) (dI : Nat → Nat → Nat) (g : Nat → Nat) (ty : Nat → ClassId) (sz : Nat) (pl : Nat → Option Nat) (ac : Int64) (ft : Int32) (md : Int32) (Z : cZ) (P : cQ) (pre0 : 0 ≤ Z.2.2.2.2.2.2.2.2.2.2.2) (pre1 : Z.2.2.2.2.2.2.2.2.2.2.2 ≤ 200) : Met l yX1_innerEnd (Cond.code yX1_innerEnd cX1_innerEnd 1 (some .int) :: gT) ({ frames := 0, cells := 0, slots := 0, locals := 0 }) (cP (dC, dI) (cTy ty) (cW g ty pl ac ft md Z P) sz [.ref (g 3)]) (va_Qi (fun (rz : Int32) (u : Unit) => ((Z.2.2.2.2.2.2.2.2.1 (Z.2.2.2.2.2.2.2.2.2.2.2 - 1).toNatClampNeg) = rz ∧ ¬ Z.2.2.2.2.2.2.2.2.2.2.2 ≤ 0) ∨ (256 = rz ∧ Z.2.2.2.2.2.2.2.2.2.2.2 ≤ 0)) (cB (dC, dI) (fun u : Unit => cW g ty pl ac ft md Z P) (va_A (cW g ty pl ac ft md Z P) sz)) (va_A (cW g ty pl ac ft md Z P) sz)) 0 0 (va_A (cW g ty pl ac ft md Z P) sz) := by
  refine cc_of (Qa := fun A => va_Qi (fun (rz : Int32) (u : Unit) => ((Z.2.2.2.2.2.2.2.2.1 (Z.2.2.2.2.2.2.2.2.2.2.2 - 1).toNatClampNeg) = rz ∧ ¬ Z.2.2.2.2.2.2.2.2.2.2.2 ≤ 0) ∨ (256 = rz ∧ Z.2.2.2.2.2.2.2.2.2.2.2 ≤ 0)) (cB (dC, dI) (fun u : Unit => cW g ty pl ac ft md Z P) A) A) (by decide) (Nat.le_of_ble_eq_true rfl) ?_
  intro p e s m below meth c A hx hb hr hml hown hg hlk hmn hP hK hD hT hS hA hsz ls hl
  have hown : s.vm.findClass RX1 = some m.cls := hown
  have hl : lv_has ls 1 [(0, .ref (g 3))] := hl
  refine lv_aload_n hx hb dX1_innerEnd_0 rfl (lv_at hl 0 rfl) ?_
  refine va_get (D := (dC, dI)) (ci := 6) (v := .int Z.2.2.2.2.2.2.2.2.2.2.2) (C := RX1) (T := TX1) (N := 5) hx hb hg inG1 hown hK hP 3 rfl rfl 4 (by decide) (hg _ wF_X1_24) (fun _ h9 => h9) rfl dX1_innerEnd_1 ?_
  refine lv_if_le (tgt := 21) hx hb dX1_innerEnd_4 (by decide) (fun c_1 => ?_) (fun c_1 => ?_)
  · show _
    refine lv_sipush (v := 256) hx hb dX1_innerEnd_21 (by decide) ?_
    refine cr_i (wo := fun u : Unit => cW g ty pl ac ft md Z P) (()) hx hb hr hlk hS hP hD ?_ dX1_innerEnd_24
    first | exact Or.inl ⟨rfl, (by first | assumption | exact dep_in1 (by assumption) pre1)⟩ | exact Or.inr ⟨rfl, (by first | assumption | exact dep_in1 (by assumption) pre1)⟩
  · show _
    refine lv_aload_n hx hb dX1_innerEnd_7 rfl (lv_at hl 0 rfl) ?_
    refine va_get (D := (dC, dI)) (ci := 6) (v := .ref (g 5)) (C := RX1) (T := TX1) (N := 5) hx hb hg inG1 hown hK hP 3 rfl rfl 1 (by decide) (hg _ wF_X1_15) (fun _ h9 => h9) rfl dX1_innerEnd_8 ?_
    refine lv_aload_n hx hb dX1_innerEnd_11 rfl (lv_at hl 0 rfl) ?_
    refine va_get (D := (dC, dI)) (ci := 6) (v := .int Z.2.2.2.2.2.2.2.2.2.2.2) (C := RX1) (T := TX1) (N := 5) hx hb hg inG1 hown hK hP 3 rfl rfl 4 (by decide) (hg _ wF_X1_24) (fun _ h9 => h9) rfl dX1_innerEnd_12 ?_
    refine lv_iconst (v := 1) hx hb dX1_innerEnd_15 (by decide) ?_
    refine lv_isub hx hb dX1_innerEnd_16 ?_
    refine va_iald hx hb hK hP 5 0 rfl rfl (by first | assumption | exact dep_in1 (by assumption) pre1) dX1_innerEnd_17 ?_
    refine lv_goto (tgt := 24) hx hb dX1_innerEnd_18 (by decide) ?_
    refine cr_i (wo := fun u : Unit => cW g ty pl ac ft md Z P) (()) hx hb hr hlk hS hP hD ?_ dX1_innerEnd_24
    first | exact Or.inl ⟨rfl, (by first | assumption | exact dep_in1 (by assumption) pre1)⟩ | exact Or.inr ⟨rfl, (by first | assumption | exact dep_in1 (by assumption) pre1)⟩
set_option maxHeartbeats 800000 in
set_option maxRecDepth 100000 in
theorem c_X1_innerCatch (l : Launch) (dC : Nat → ClassId) (dI : Nat → Nat → Nat) (g : Nat → Nat) (ty : Nat → ClassId) (sz : Nat) (pl : Nat → Option Nat) (ac : Int64) (ft : Int32) (md : Int32) (Z : cZ) (P : cQ) (pre0 : 0 ≤ Z.2.2.2.2.2.2.2.2.2.2.2) (pre1 : Z.2.2.2.2.2.2.2.2.2.2.2 ≤ 200) : Met l yX1_innerCatch (Cond.code yX1_innerCatch cX1_innerCatch 1 (some .int) :: gT) ({ frames := 0, cells := 0, slots := 0, locals := 0 }) (cP (dC, dI) (cTy ty) (cW g ty pl ac ft md Z P) sz [.ref (g 3)]) (va_Qi (fun (rz : Int32) (u : Unit) => ((Z.2.2.2.2.2.2.2.2.2.2.1 (Z.2.2.2.2.2.2.2.2.2.2.2 - 1).toNatClampNeg) = rz ∧ ¬ Z.2.2.2.2.2.2.2.2.2.2.2 ≤ 0) ∨ (8 = rz ∧ Z.2.2.2.2.2.2.2.2.2.2.2 ≤ 0)) (cB (dC, dI) (fun u : Unit => cW g ty pl ac ft md Z P) (va_A (cW g ty pl ac ft md Z P) sz)) (va_A (cW g ty pl ac ft md Z P) sz)) 0 0 (va_A (cW g ty pl ac ft md Z P) sz) := by
  refine cc_of (Qa := fun A => va_Qi (fun (rz : Int32) (u : Unit) => ((Z.2.2.2.2.2.2.2.2.2.2.1 (Z.2.2.2.2.2.2.2.2.2.2.2 - 1).toNatClampNeg) = rz ∧ ¬ Z.2.2.2.2.2.2.2.2.2.2.2 ≤ 0) ∨ (8 = rz ∧ Z.2.2.2.2.2.2.2.2.2.2.2 ≤ 0)) (cB (dC, dI) (fun u : Unit => cW g ty pl ac ft md Z P) A) A) (by decide) (Nat.le_of_ble_eq_true rfl) ?_
  intro p e s m below meth c A hx hb hr hml hown hg hlk hmn hP hK hD hT hS hA hsz ls hl
  have hown : s.vm.findClass RX1 = some m.cls := hown
  have hl : lv_has ls 1 [(0, .ref (g 3))] := hl
  refine lv_aload_n hx hb dX1_innerCatch_0 rfl (lv_at hl 0 rfl) ?_
  refine va_get (D := (dC, dI)) (ci := 6) (v := .int Z.2.2.2.2.2.2.2.2.2.2.2) (C := RX1) (T := TX1) (N := 5) hx hb hg inG1 hown hK hP 3 rfl rfl 4 (by decide) (hg _ wF_X1_24) (fun _ h9 => h9) rfl dX1_innerCatch_1 ?_
  refine lv_if_le (tgt := 21) hx hb dX1_innerCatch_4 (by decide) (fun c_1 => ?_) (fun c_1 => ?_)
  · show _
    refine lv_bipush (v := 8) hx hb dX1_innerCatch_21 (by decide) ?_
    refine cr_i (wo := fun u : Unit => cW g ty pl ac ft md Z P) (()) hx hb hr hlk hS hP hD ?_ dX1_innerCatch_23
    first | exact Or.inl ⟨rfl, (by first | assumption | exact dep_in1 (by assumption) pre1)⟩ | exact Or.inr ⟨rfl, (by first | assumption | exact dep_in1 (by assumption) pre1)⟩
  · show _
    refine lv_aload_n hx hb dX1_innerCatch_7 rfl (lv_at hl 0 rfl) ?_
    refine va_get (D := (dC, dI)) (ci := 6) (v := .ref (g 7)) (C := RX1) (T := TX1) (N := 5) hx hb hg inG1 hown hK hP 3 rfl rfl 3 (by decide) (hg _ wF_X1_21) (fun _ h9 => h9) rfl dX1_innerCatch_8 ?_
    refine lv_aload_n hx hb dX1_innerCatch_11 rfl (lv_at hl 0 rfl) ?_
    refine va_get (D := (dC, dI)) (ci := 6) (v := .int Z.2.2.2.2.2.2.2.2.2.2.2) (C := RX1) (T := TX1) (N := 5) hx hb hg inG1 hown hK hP 3 rfl rfl 4 (by decide) (hg _ wF_X1_24) (fun _ h9 => h9) rfl dX1_innerCatch_12 ?_
    refine lv_iconst (v := 1) hx hb dX1_innerCatch_15 (by decide) ?_
    refine lv_isub hx hb dX1_innerCatch_16 ?_
    refine va_iald hx hb hK hP 7 0 rfl rfl (by first | assumption | exact dep_in1 (by assumption) pre1) dX1_innerCatch_17 ?_
    refine lv_goto (tgt := 23) hx hb dX1_innerCatch_18 (by decide) ?_
    refine cr_i (wo := fun u : Unit => cW g ty pl ac ft md Z P) (()) hx hb hr hlk hS hP hD ?_ dX1_innerCatch_23
    first | exact Or.inl ⟨rfl, (by first | assumption | exact dep_in1 (by assumption) pre1)⟩ | exact Or.inr ⟨rfl, (by first | assumption | exact dep_in1 (by assumption) pre1)⟩
set_option maxHeartbeats 800000 in
set_option maxRecDepth 100000 in
theorem c_X1_takeTurn (l : Launch) (dC : Nat → ClassId) (dI : Nat → Nat → Nat) (g : Nat → Nat) (ty : Nat → ClassId) (sz : Nat) (pl : Nat → Option Nat) (ac : Int64) (ft : Int32) (md : Int32) (Z : cZ) (P : cQ) (pre0 : 0 ≤ Z.2.2.2.2.2.2.2.2.2.2.2) (pre1 : Z.2.2.2.2.2.2.2.2.2.2.2 ≤ 200) : Met l yX1_takeTurn (Cond.code yX1_takeTurn cX1_takeTurn 1 (some .boolean) :: gT) ({ frames := 0, cells := 0, slots := 0, locals := 0 }) (cP (dC, dI) (cTy ty) (cW g ty pl ac ft md Z P) sz [.ref (g 3)]) (va_Qi (fun (rz : Int32) (u : cZ) => (0 = rz ∧ Z = u ∧ Z.2.2.2.2.2.2.2.2.2.2.2 = 0) ∨ (0 = rz ∧ Z = u ∧ ¬ Z.2.2.2.2.2.2.2.2.2.2.2 = 0 ∧ ¬ 1 < Z.2.2.2.2.2.2.2.2.2.1 (Z.2.2.2.2.2.2.2.2.2.2.2 - 1).toNatClampNeg) ∨ (1 = rz ∧ (Z.1, Z.2.1, Z.2.2.1, Z.2.2.2.1, Z.2.2.2.2.1, Z.2.2.2.2.2.1, Z.2.2.2.2.2.2.1, Z.2.2.2.2.2.2.2.1, Z.2.2.2.2.2.2.2.2.1, (upd Z.2.2.2.2.2.2.2.2.2.1 (Z.2.2.2.2.2.2.2.2.2.2.2 - 1).toNatClampNeg (Z.2.2.2.2.2.2.2.2.2.1 (Z.2.2.2.2.2.2.2.2.2.2.2 - 1).toNatClampNeg - 1)), Z.2.2.2.2.2.2.2.2.2.2.1, Z.2.2.2.2.2.2.2.2.2.2.2) = u ∧ ¬ Z.2.2.2.2.2.2.2.2.2.2.2 = 0 ∧ 1 < Z.2.2.2.2.2.2.2.2.2.1 (Z.2.2.2.2.2.2.2.2.2.2.2 - 1).toNatClampNeg)) (cB (dC, dI) (fun u : cZ => cW g ty pl ac ft md u P) (va_A (cW g ty pl ac ft md Z P) sz)) (va_A (cW g ty pl ac ft md Z P) sz)) 0 0 (va_A (cW g ty pl ac ft md Z P) sz) := by
  refine cc_of (Qa := fun A => va_Qi (fun (rz : Int32) (u : cZ) => (0 = rz ∧ Z = u ∧ Z.2.2.2.2.2.2.2.2.2.2.2 = 0) ∨ (0 = rz ∧ Z = u ∧ ¬ Z.2.2.2.2.2.2.2.2.2.2.2 = 0 ∧ ¬ 1 < Z.2.2.2.2.2.2.2.2.2.1 (Z.2.2.2.2.2.2.2.2.2.2.2 - 1).toNatClampNeg) ∨ (1 = rz ∧ (Z.1, Z.2.1, Z.2.2.1, Z.2.2.2.1, Z.2.2.2.2.1, Z.2.2.2.2.2.1, Z.2.2.2.2.2.2.1, Z.2.2.2.2.2.2.2.1, Z.2.2.2.2.2.2.2.2.1, (upd Z.2.2.2.2.2.2.2.2.2.1 (Z.2.2.2.2.2.2.2.2.2.2.2 - 1).toNatClampNeg (Z.2.2.2.2.2.2.2.2.2.1 (Z.2.2.2.2.2.2.2.2.2.2.2 - 1).toNatClampNeg - 1)), Z.2.2.2.2.2.2.2.2.2.2.1, Z.2.2.2.2.2.2.2.2.2.2.2) = u ∧ ¬ Z.2.2.2.2.2.2.2.2.2.2.2 = 0 ∧ 1 < Z.2.2.2.2.2.2.2.2.2.1 (Z.2.2.2.2.2.2.2.2.2.2.2 - 1).toNatClampNeg)) (cB (dC, dI) (fun u : cZ => cW g ty pl ac ft md u P) A) A) (by decide) (Nat.le_of_ble_eq_true rfl) ?_
  intro p e s m below meth c A hx hb hr hml hown hg hlk hmn hP hK hD hT hS hA hsz ls hl
  have hown : s.vm.findClass RX1 = some m.cls := hown
  have hl : lv_has ls 1 [(0, .ref (g 3))] := hl
  refine lv_aload_n hx hb dX1_takeTurn_0 rfl (lv_at hl 0 rfl) ?_
  refine va_get (D := (dC, dI)) (ci := 6) (v := .int Z.2.2.2.2.2.2.2.2.2.2.2) (C := RX1) (T := TX1) (N := 5) hx hb hg inG1 hown hK hP 3 rfl rfl 4 (by decide) (hg _ wF_X1_24) (fun _ h9 => h9) rfl dX1_takeTurn_1 ?_
  refine lv_if_eq (tgt := 22) hx hb dX1_takeTurn_4 (by decide) (fun c_1 => ?_) (fun c_1 => ?_)
  · show _
    refine lv_iconst (v := 0) hx hb dX1_takeTurn_22 (by decide) ?_
    refine cr_z (wo := fun u : cZ => cW g ty pl ac ft md u P) (Z) hx hb hr hlk hS hP hD rfl ?_ dX1_takeTurn_23
    first | exact Or.inl ⟨rfl, rfl, (by first | assumption | exact dep_in0 (by assumption) pre0 pre1)⟩ | exact Or.inr (Or.inl ⟨rfl, rfl, (by first | assumption | exact dep_in0 (by assumption) pre0 pre1), (by first | assumption | exact dep_in0 (by assumption) pre0 pre1)⟩)
  · show _
    refine lv_aload_n hx hb dX1_takeTurn_7 rfl (lv_at hl 0 rfl) ?_
    refine va_get (D := (dC, dI)) (ci := 6) (v := .ref (g 6)) (C := RX1) (T := TX1) (N := 5) hx hb hg inG1 hown hK hP 3 rfl rfl 2 (by decide) (hg _ wF_X1_18) (fun _ h9 => h9) rfl dX1_takeTurn_8 ?_
    refine lv_aload_n hx hb dX1_takeTurn_11 rfl (lv_at hl 0 rfl) ?_
    refine va_get (D := (dC, dI)) (ci := 6) (v := .int Z.2.2.2.2.2.2.2.2.2.2.2) (C := RX1) (T := TX1) (N := 5) hx hb hg inG1 hown hK hP 3 rfl rfl 4 (by decide) (hg _ wF_X1_24) (fun _ h9 => h9) rfl dX1_takeTurn_12 ?_
    refine lv_iconst (v := 1) hx hb dX1_takeTurn_15 (by decide) ?_
    refine lv_isub hx hb dX1_takeTurn_16 ?_
    refine va_iald hx hb hK hP 6 0 rfl rfl (by first | assumption | exact dep_in0 (by assumption) pre0 pre1) dX1_takeTurn_17 ?_
    refine lv_iconst (v := 1) hx hb dX1_takeTurn_18 (by decide) ?_
    refine lv_icmp_gt (tgt := 24) hx hb dX1_takeTurn_19 (by decide) (fun c_2 => ?_) (fun c_2 => ?_)
    · show _
      refine lv_aload_n hx hb dX1_takeTurn_24 rfl (lv_at hl 0 rfl) ?_
      refine va_get (D := (dC, dI)) (ci := 6) (v := .ref (g 6)) (C := RX1) (T := TX1) (N := 5) hx hb hg inG1 hown hK hP 3 rfl rfl 2 (by decide) (hg _ wF_X1_18) (fun _ h9 => h9) rfl dX1_takeTurn_25 ?_
      refine lv_aload_n hx hb dX1_takeTurn_28 rfl (lv_at hl 0 rfl) ?_
      refine va_get (D := (dC, dI)) (ci := 6) (v := .int Z.2.2.2.2.2.2.2.2.2.2.2) (C := RX1) (T := TX1) (N := 5) hx hb hg inG1 hown hK hP 3 rfl rfl 4 (by decide) (hg _ wF_X1_24) (fun _ h9 => h9) rfl dX1_takeTurn_29 ?_
      refine lv_iconst (v := 1) hx hb dX1_takeTurn_32 (by decide) ?_
      refine lv_isub hx hb dX1_takeTurn_33 ?_
      refine lv_dup2_11 hx hb dX1_takeTurn_34 rfl rfl ?_
      refine va_iald hx hb hK hP 6 0 rfl rfl (by first | assumption | exact dep_in0 (by assumption) pre0 pre1) dX1_takeTurn_35 ?_
      refine lv_iconst (v := 1) hx hb dX1_takeTurn_36 (by decide) ?_
      refine lv_isub hx hb dX1_takeTurn_37 ?_
      refine va_iast hx hb hK hP hD hS 6 0 rfl rfl (by first | assumption | exact dep_in0 (by assumption) pre0 pre1) dX1_takeTurn_38 (fun H locs hP hD hS => ?_)
      have hP : va_P (dC, dI) vwCl (cW g ty pl ac ft md (Z.1, Z.2.1, Z.2.2.1, Z.2.2.2.1, Z.2.2.2.2.1, Z.2.2.2.2.2.1, Z.2.2.2.2.2.2.1, Z.2.2.2.2.2.2.2.1, Z.2.2.2.2.2.2.2.2.1, (upd Z.2.2.2.2.2.2.2.2.2.1 (Z.2.2.2.2.2.2.2.2.2.2.2 - 1).toNatClampNeg ((Z.2.2.2.2.2.2.2.2.2.1 (Z.2.2.2.2.2.2.2.2.2.2.2 - 1).toNatClampNeg) - 1)), Z.2.2.2.2.2.2.2.2.2.2.1, Z.2.2.2.2.2.2.2.2.2.2.2) P) H := hP
      have hD : va_D A (cW g ty pl ac ft md (Z.1, Z.2.1, Z.2.2.1, Z.2.2.2.1, Z.2.2.2.2.1, Z.2.2.2.2.2.1, Z.2.2.2.2.2.2.1, Z.2.2.2.2.2.2.2.1, Z.2.2.2.2.2.2.2.2.1, (upd Z.2.2.2.2.2.2.2.2.2.1 (Z.2.2.2.2.2.2.2.2.2.2.2 - 1).toNatClampNeg ((Z.2.2.2.2.2.2.2.2.2.1 (Z.2.2.2.2.2.2.2.2.2.2.2 - 1).toNatClampNeg) - 1)), Z.2.2.2.2.2.2.2.2.2.2.1, Z.2.2.2.2.2.2.2.2.2.2.2) P) := hD
      refine lv_iconst (v := 1) hx hb dX1_takeTurn_39 (by decide) ?_
      refine cr_z (wo := fun u : cZ => cW g ty pl ac ft md u P) ((Z.1, Z.2.1, Z.2.2.1, Z.2.2.2.1, Z.2.2.2.2.1, Z.2.2.2.2.2.1, Z.2.2.2.2.2.2.1, Z.2.2.2.2.2.2.2.1, Z.2.2.2.2.2.2.2.2.1, (upd Z.2.2.2.2.2.2.2.2.2.1 (Z.2.2.2.2.2.2.2.2.2.2.2 - 1).toNatClampNeg ((Z.2.2.2.2.2.2.2.2.2.1 (Z.2.2.2.2.2.2.2.2.2.2.2 - 1).toNatClampNeg) - 1)), Z.2.2.2.2.2.2.2.2.2.2.1, Z.2.2.2.2.2.2.2.2.2.2.2)) hx hb hr hlk hS hP hD rfl ?_ dX1_takeTurn_40
      exact Or.inr (Or.inr ⟨rfl, rfl, (by first | assumption | exact dep_in0 (by assumption) pre0 pre1), (by first | assumption | exact dep_in0 (by assumption) pre0 pre1)⟩)
    · show _
      refine lv_iconst (v := 0) hx hb dX1_takeTurn_22 (by decide) ?_
      refine cr_z (wo := fun u : cZ => cW g ty pl ac ft md u P) (Z) hx hb hr hlk hS hP hD rfl ?_ dX1_takeTurn_23
      first | exact Or.inl ⟨rfl, rfl, (by first | assumption | exact dep_in0 (by assumption) pre0 pre1)⟩ | exact Or.inr (Or.inl ⟨rfl, rfl, (by first | assumption | exact dep_in0 (by assumption) pre0 pre1), (by first | assumption | exact dep_in0 (by assumption) pre0 pre1)⟩)
set_option maxHeartbeats 800000 in
set_option maxRecDepth 100000 in
theorem c_X11_count (l : Launch) (dC : Nat → ClassId) (dI : Nat → Nat → Nat) (g : Nat → Nat) (ty : Nat → ClassId) (sz : Nat) (pl : Nat → Option Nat) (ac : Int64) (ft : Int32) (md : Int32) (Z : cZ) (P : cQ) (w0 : Int32) : Met l yX11_count (Cond.code yX11_count cX11_count 2 (some .int) :: gT) ({ frames := 0, cells := 0, slots := 0, locals := 0 }) (cP (dC, dI) (cTy ty) (cW g ty pl ac ft md Z P) sz [.ref (g 0), .int w0]) (va_Qi (fun (rz : Int32) (u : Unit) => (Z.2.2.2.1 = rz ∧ w0 = 0) ∨ (Z.2.2.2.2.1 = rz ∧ w0 = 1) ∨ (Z.2.2.2.2.2.1 = rz ∧ w0 = 2) ∨ (Z.2.2.2.2.2.2.1 = rz ∧ w0 = 3) ∨ (Z.2.2.1 = rz ∧ w0 = 4) ∨ (md = rz ∧ w0 = 5) ∨ ((-1) = rz ∧ ¬ w0 = 0 ∧ ¬ w0 = 1 ∧ ¬ w0 = 2 ∧ ¬ w0 = 3 ∧ ¬ w0 = 4 ∧ ¬ w0 = 5)) (cB (dC, dI) (fun u : Unit => cW g ty pl ac ft md Z P) (va_A (cW g ty pl ac ft md Z P) sz)) (va_A (cW g ty pl ac ft md Z P) sz)) 0 0 (va_A (cW g ty pl ac ft md Z P) sz) := by
  refine cc_of (Qa := fun A => va_Qi (fun (rz : Int32) (u : Unit) => (Z.2.2.2.1 = rz ∧ w0 = 0) ∨ (Z.2.2.2.2.1 = rz ∧ w0 = 1) ∨ (Z.2.2.2.2.2.1 = rz ∧ w0 = 2) ∨ (Z.2.2.2.2.2.2.1 = rz ∧ w0 = 3) ∨ (Z.2.2.1 = rz ∧ w0 = 4) ∨ (md = rz ∧ w0 = 5) ∨ ((-1) = rz ∧ ¬ w0 = 0 ∧ ¬ w0 = 1 ∧ ¬ w0 = 2 ∧ ¬ w0 = 3 ∧ ¬ w0 = 4 ∧ ¬ w0 = 5)) (cB (dC, dI) (fun u : Unit => cW g ty pl ac ft md Z P) A) A) (by decide) (Nat.le_of_ble_eq_true rfl) ?_
  intro p e s m below meth c A hx hb hr hml hown hg hlk hmn hP hK hD hT hS hA hsz ls hl
  have hown : s.vm.findClass RX11 = some m.cls := hown
  have hl : lv_has ls 2 [(0, .ref (g 0)), (1, .int w0)] := hl
  refine lv_iload_n hx hb dX11_count_0 rfl (lv_at hl 1 rfl) ?_
  by_cases e_1 : w0 = 0
  · show _
    refine lv_tableIn (off := 39) (tgt := 40) hx hb dX11_count_1 (by rw [e_1]; decide) (by rw [e_1]; decide) (by rw [e_1]; decide) (by decide) ?_
    refine lv_aload_n hx hb dX11_count_40 rfl (lv_at hl 0 rfl) ?_
    refine va_get (D := (dC, dI)) (ci := 13) (v := .int Z.2.2.2.1) (C := RX11) (T := TX11) (N := 12) hx hb hg inG11 hown hK hP 0 rfl rfl 7 (by decide) (hg _ wF_X11_37) (fun _ h9 => h9) rfl dX11_count_41 ?_
    refine cr_i (wo := fun u : Unit => cW g ty pl ac ft md Z P) (()) hx hb hr hlk hS hP hD ?_ dX11_count_44
    first | exact Or.inl ⟨rfl, (by first | assumption)⟩ | exact Or.inr (Or.inl ⟨rfl, (by first | assumption)⟩) | exact Or.inr (Or.inr (Or.inl ⟨rfl, (by first | assumption)⟩)) | exact Or.inr (Or.inr (Or.inr (Or.inl ⟨rfl, (by first | assumption)⟩))) | exact Or.inr (Or.inr (Or.inr (Or.inr (Or.inl ⟨rfl, (by first | assumption)⟩)))) | exact Or.inr (Or.inr (Or.inr (Or.inr (Or.inr (Or.inl ⟨rfl, (by first | assumption)⟩))))) | exact Or.inr (Or.inr (Or.inr (Or.inr (Or.inr (Or.inr ⟨rfl, (by first | assumption), (by first | assumption), (by first | assumption), (by first | assumption), (by first | assumption), (by first | assumption)⟩)))))
  · show _
    by_cases e_2 : w0 = 1
    · show _
      refine lv_tableIn (off := 44) (tgt := 45) hx hb dX11_count_1 (by rw [e_2]; decide) (by rw [e_2]; decide) (by rw [e_2]; decide) (by decide) ?_
      refine lv_aload_n hx hb dX11_count_45 rfl (lv_at hl 0 rfl) ?_
      refine va_get (D := (dC, dI)) (ci := 13) (v := .int Z.2.2.2.2.1) (C := RX11) (T := TX11) (N := 12) hx hb hg inG11 hown hK hP 0 rfl rfl 8 (by decide) (hg _ wF_X11_72) (fun _ h9 => h9) rfl dX11_count_46 ?_
      refine cr_i (wo := fun u : Unit => cW g ty pl ac ft md Z P) (()) hx hb hr hlk hS hP hD ?_ dX11_count_49
      first | exact Or.inl ⟨rfl, (by first | assumption)⟩ | exact Or.inr (Or.inl ⟨rfl, (by first | assumption)⟩) | exact Or.inr (Or.inr (Or.inl ⟨rfl, (by first | assumption)⟩)) | exact Or.inr (Or.inr (Or.inr (Or.inl ⟨rfl, (by first | assumption)⟩))) | exact Or.inr (Or.inr (Or.inr (Or.inr (Or.inl ⟨rfl, (by first | assumption)⟩)))) | exact Or.inr (Or.inr (Or.inr (Or.inr (Or.inr (Or.inl ⟨rfl, (by first | assumption)⟩))))) | exact Or.inr (Or.inr (Or.inr (Or.inr (Or.inr (Or.inr ⟨rfl, (by first | assumption), (by first | assumption), (by first | assumption), (by first | assumption), (by first | assumption), (by first | assumption)⟩)))))
    · show _
      by_cases e_3 : w0 = 2
      · show _
        refine lv_tableIn (off := 49) (tgt := 50) hx hb dX11_count_1 (by rw [e_3]; decide) (by rw [e_3]; decide) (by rw [e_3]; decide) (by decide) ?_
        refine lv_aload_n hx hb dX11_count_50 rfl (lv_at hl 0 rfl) ?_
        refine va_get (D := (dC, dI)) (ci := 13) (v := .int Z.2.2.2.2.2.1) (C := RX11) (T := TX11) (N := 12) hx hb hg inG11 hown hK hP 0 rfl rfl 9 (by decide) (hg _ wF_X11_75) (fun _ h9 => h9) rfl dX11_count_51 ?_
        refine cr_i (wo := fun u : Unit => cW g ty pl ac ft md Z P) (()) hx hb hr hlk hS hP hD ?_ dX11_count_54
        first | exact Or.inl ⟨rfl, (by first | assumption)⟩ | exact Or.inr (Or.inl ⟨rfl, (by first | assumption)⟩) | exact Or.inr (Or.inr (Or.inl ⟨rfl, (by first | assumption)⟩)) | exact Or.inr (Or.inr (Or.inr (Or.inl ⟨rfl, (by first | assumption)⟩))) | exact Or.inr (Or.inr (Or.inr (Or.inr (Or.inl ⟨rfl, (by first | assumption)⟩)))) | exact Or.inr (Or.inr (Or.inr (Or.inr (Or.inr (Or.inl ⟨rfl, (by first | assumption)⟩))))) | exact Or.inr (Or.inr (Or.inr (Or.inr (Or.inr (Or.inr ⟨rfl, (by first | assumption), (by first | assumption), (by first | assumption), (by first | assumption), (by first | assumption), (by first | assumption)⟩)))))
      · show _
        by_cases e_4 : w0 = 3
        · show _
          refine lv_tableIn (off := 54) (tgt := 55) hx hb dX11_count_1 (by rw [e_4]; decide) (by rw [e_4]; decide) (by rw [e_4]; decide) (by decide) ?_
          refine lv_aload_n hx hb dX11_count_55 rfl (lv_at hl 0 rfl) ?_
          refine va_get (D := (dC, dI)) (ci := 13) (v := .int Z.2.2.2.2.2.2.1) (C := RX11) (T := TX11) (N := 12) hx hb hg inG11 hown hK hP 0 rfl rfl 10 (by decide) (hg _ wF_X11_78) (fun _ h9 => h9) rfl dX11_count_56 ?_
          refine cr_i (wo := fun u : Unit => cW g ty pl ac ft md Z P) (()) hx hb hr hlk hS hP hD ?_ dX11_count_59
          first | exact Or.inl ⟨rfl, (by first | assumption)⟩ | exact Or.inr (Or.inl ⟨rfl, (by first | assumption)⟩) | exact Or.inr (Or.inr (Or.inl ⟨rfl, (by first | assumption)⟩)) | exact Or.inr (Or.inr (Or.inr (Or.inl ⟨rfl, (by first | assumption)⟩))) | exact Or.inr (Or.inr (Or.inr (Or.inr (Or.inl ⟨rfl, (by first | assumption)⟩)))) | exact Or.inr (Or.inr (Or.inr (Or.inr (Or.inr (Or.inl ⟨rfl, (by first | assumption)⟩))))) | exact Or.inr (Or.inr (Or.inr (Or.inr (Or.inr (Or.inr ⟨rfl, (by first | assumption), (by first | assumption), (by first | assumption), (by first | assumption), (by first | assumption), (by first | assumption)⟩)))))
        · show _
          by_cases e_5 : w0 = 4
          · show _
            refine lv_tableIn (off := 59) (tgt := 60) hx hb dX11_count_1 (by rw [e_5]; decide) (by rw [e_5]; decide) (by rw [e_5]; decide) (by decide) ?_
            refine lv_aload_n hx hb dX11_count_60 rfl (lv_at hl 0 rfl) ?_
            refine va_get (D := (dC, dI)) (ci := 13) (v := .int Z.2.2.1) (C := RX11) (T := TX11) (N := 12) hx hb hg inG11 hown hK hP 0 rfl rfl 6 (by decide) (hg _ wF_X11_56) (fun _ h9 => h9) rfl dX11_count_61 ?_
            refine cr_i (wo := fun u : Unit => cW g ty pl ac ft md Z P) (()) hx hb hr hlk hS hP hD ?_ dX11_count_64
            first | exact Or.inl ⟨rfl, (by first | assumption)⟩ | exact Or.inr (Or.inl ⟨rfl, (by first | assumption)⟩) | exact Or.inr (Or.inr (Or.inl ⟨rfl, (by first | assumption)⟩)) | exact Or.inr (Or.inr (Or.inr (Or.inl ⟨rfl, (by first | assumption)⟩))) | exact Or.inr (Or.inr (Or.inr (Or.inr (Or.inl ⟨rfl, (by first | assumption)⟩)))) | exact Or.inr (Or.inr (Or.inr (Or.inr (Or.inr (Or.inl ⟨rfl, (by first | assumption)⟩))))) | exact Or.inr (Or.inr (Or.inr (Or.inr (Or.inr (Or.inr ⟨rfl, (by first | assumption), (by first | assumption), (by first | assumption), (by first | assumption), (by first | assumption), (by first | assumption)⟩)))))
          · show _
            by_cases e_6 : w0 = 5
            · show _
              refine lv_tableIn (off := 64) (tgt := 65) hx hb dX11_count_1 (by rw [e_6]; decide) (by rw [e_6]; decide) (by rw [e_6]; decide) (by decide) ?_
              refine lv_aload_n hx hb dX11_count_65 rfl (lv_at hl 0 rfl) ?_
              refine va_get (D := (dC, dI)) (ci := 13) (v := .int md) (C := RX11) (T := TX11) (N := 12) hx hb hg inG11 hown hK hP 0 rfl rfl 11 (by decide) (hg _ wF_X11_81) (fun _ h9 => h9) rfl dX11_count_66 ?_
              refine cr_i (wo := fun u : Unit => cW g ty pl ac ft md Z P) (()) hx hb hr hlk hS hP hD ?_ dX11_count_69
              first | exact Or.inl ⟨rfl, (by first | assumption)⟩ | exact Or.inr (Or.inl ⟨rfl, (by first | assumption)⟩) | exact Or.inr (Or.inr (Or.inl ⟨rfl, (by first | assumption)⟩)) | exact Or.inr (Or.inr (Or.inr (Or.inl ⟨rfl, (by first | assumption)⟩))) | exact Or.inr (Or.inr (Or.inr (Or.inr (Or.inl ⟨rfl, (by first | assumption)⟩)))) | exact Or.inr (Or.inr (Or.inr (Or.inr (Or.inr (Or.inl ⟨rfl, (by first | assumption)⟩))))) | exact Or.inr (Or.inr (Or.inr (Or.inr (Or.inr (Or.inr ⟨rfl, (by first | assumption), (by first | assumption), (by first | assumption), (by first | assumption), (by first | assumption), (by first | assumption)⟩)))))
            · show _
              refine lv_tableOut (tgt := 70) hx hb dX11_count_1 (by have q0 := lv_neT e_1 (a := 0) rfl; have q1 := lv_neT e_2 (a := 1) rfl; have q2 := lv_neT e_3 (a := 2) rfl; have q3 := lv_neT e_4 (a := 3) rfl; have q4 := lv_neT e_5 (a := 4) rfl; have q5 := lv_neT e_6 (a := 5) rfl; omega) (by decide) ?_
              refine lv_iconst (v := (-1)) hx hb dX11_count_70 (by decide) ?_
              refine cr_i (wo := fun u : Unit => cW g ty pl ac ft md Z P) (()) hx hb hr hlk hS hP hD ?_ dX11_count_71
              first | exact Or.inl ⟨rfl, (by first | assumption)⟩ | exact Or.inr (Or.inl ⟨rfl, (by first | assumption)⟩) | exact Or.inr (Or.inr (Or.inl ⟨rfl, (by first | assumption)⟩)) | exact Or.inr (Or.inr (Or.inr (Or.inl ⟨rfl, (by first | assumption)⟩))) | exact Or.inr (Or.inr (Or.inr (Or.inr (Or.inl ⟨rfl, (by first | assumption)⟩)))) | exact Or.inr (Or.inr (Or.inr (Or.inr (Or.inr (Or.inl ⟨rfl, (by first | assumption)⟩))))) | exact Or.inr (Or.inr (Or.inr (Or.inr (Or.inr (Or.inr ⟨rfl, (by first | assumption), (by first | assumption), (by first | assumption), (by first | assumption), (by first | assumption), (by first | assumption)⟩)))))
set_option maxHeartbeats 800000 in
set_option maxRecDepth 100000 in
theorem c_X11_closeBlock (l : Launch) (dC : Nat → ClassId) (dI : Nat → Nat → Nat) (g : Nat → Nat) (ty : Nat → ClassId) (sz : Nat) (pl : Nat → Option Nat) (ac : Int64) (ft : Int32) (md : Int32) (Z : cZ) (P : cQ) (pre0 : 0 ≤ Z.2.2.2.2.2.2.2.2.2.2.2) (pre1 : Z.2.2.2.2.2.2.2.2.2.2.2 ≤ 200) : Met l yX11_closeBlock (Cond.code yX11_closeBlock cX11_closeBlock 1 none :: gT) ({ frames := 1, cells := 0, slots := 0, locals := 20 }) (cP (dC, dI) (cTy ty) (cW g ty pl ac ft md Z P) sz [.ref (g 0)]) (va_Qv (fun (u : cZ) => ((Z.1, Z.2.1, Z.2.2.1, (Z.2.2.2.1 + 1), Z.2.2.2.2.1, (Z.2.2.2.2.2.1 + 1), Z.2.2.2.2.2.2.1, Z.2.2.2.2.2.2.2.1, Z.2.2.2.2.2.2.2.2.1, Z.2.2.2.2.2.2.2.2.2.1, Z.2.2.2.2.2.2.2.2.2.2.1, (Z.2.2.2.2.2.2.2.2.2.2.2 - 1)) = u ∧ ¬ Z.2.2.2.2.2.2.2.2.2.2.2 ≤ 0 ∧ Z.2.2.2.2.2.2.2.2.2.2.1 (Z.2.2.2.2.2.2.2.2.2.2.2 - 1).toNatClampNeg = 6) ∨ ((Z.1, Z.2.1, Z.2.2.1, (Z.2.2.2.1 + 1), Z.2.2.2.2.1, Z.2.2.2.2.2.1, Z.2.2.2.2.2.2.1, Z.2.2.2.2.2.2.2.1, Z.2.2.2.2.2.2.2.2.1, Z.2.2.2.2.2.2.2.2.2.1, Z.2.2.2.2.2.2.2.2.2.2.1, (Z.2.2.2.2.2.2.2.2.2.2.2 - 1)) = u ∧ ¬ Z.2.2.2.2.2.2.2.2.2.2.2 ≤ 0 ∧ ¬ Z.2.2.2.2.2.2.2.2.2.2.1 (Z.2.2.2.2.2.2.2.2.2.2.2 - 1).toNatClampNeg = 6) ∨ ((Z.1, Z.2.1, Z.2.2.1, (Z.2.2.2.1 + 1), Z.2.2.2.2.1, Z.2.2.2.2.2.1, Z.2.2.2.2.2.2.1, Z.2.2.2.2.2.2.2.1, Z.2.2.2.2.2.2.2.2.1, Z.2.2.2.2.2.2.2.2.2.1, Z.2.2.2.2.2.2.2.2.2.2.1, Z.2.2.2.2.2.2.2.2.2.2.2) = u ∧ Z.2.2.2.2.2.2.2.2.2.2.2 ≤ 0)) (cB (dC, dI) (fun u : cZ => cW g ty pl ac ft md u P) (va_A (cW g ty pl ac ft md Z P) sz)) (va_A (cW g ty pl ac ft md Z P) sz)) 0 0 (va_A (cW g ty pl ac ft md Z P) sz) := by
  refine cc_of (Qa := fun A => va_Qv (fun (u : cZ) => ((Z.1, Z.2.1, Z.2.2.1, (Z.2.2.2.1 + 1), Z.2.2.2.2.1, (Z.2.2.2.2.2.1 + 1), Z.2.2.2.2.2.2.1, Z.2.2.2.2.2.2.2.1, Z.2.2.2.2.2.2.2.2.1, Z.2.2.2.2.2.2.2.2.2.1, Z.2.2.2.2.2.2.2.2.2.2.1, (Z.2.2.2.2.2.2.2.2.2.2.2 - 1)) = u ∧ ¬ Z.2.2.2.2.2.2.2.2.2.2.2 ≤ 0 ∧ Z.2.2.2.2.2.2.2.2.2.2.1 (Z.2.2.2.2.2.2.2.2.2.2.2 - 1).toNatClampNeg = 6) ∨ ((Z.1, Z.2.1, Z.2.2.1, (Z.2.2.2.1 + 1), Z.2.2.2.2.1, Z.2.2.2.2.2.1, Z.2.2.2.2.2.2.1, Z.2.2.2.2.2.2.2.1, Z.2.2.2.2.2.2.2.2.1, Z.2.2.2.2.2.2.2.2.2.1, Z.2.2.2.2.2.2.2.2.2.2.1, (Z.2.2.2.2.2.2.2.2.2.2.2 - 1)) = u ∧ ¬ Z.2.2.2.2.2.2.2.2.2.2.2 ≤ 0 ∧ ¬ Z.2.2.2.2.2.2.2.2.2.2.1 (Z.2.2.2.2.2.2.2.2.2.2.2 - 1).toNatClampNeg = 6) ∨ ((Z.1, Z.2.1, Z.2.2.1, (Z.2.2.2.1 + 1), Z.2.2.2.2.1, Z.2.2.2.2.2.1, Z.2.2.2.2.2.2.1, Z.2.2.2.2.2.2.2.1, Z.2.2.2.2.2.2.2.2.1, Z.2.2.2.2.2.2.2.2.2.1, Z.2.2.2.2.2.2.2.2.2.2.1, Z.2.2.2.2.2.2.2.2.2.2.2) = u ∧ Z.2.2.2.2.2.2.2.2.2.2.2 ≤ 0)) (cB (dC, dI) (fun u : cZ => cW g ty pl ac ft md u P) A) A) (by decide) (Nat.le_of_ble_eq_true rfl) ?_
  intro p e s m below meth c A hx hb hr hml hown hg hlk hmn hP hK hD hT hS hA hsz ls hl
  have hown : s.vm.findClass RX11 = some m.cls := hown
  have hl : lv_has ls 1 [(0, .ref (g 0))] := hl
  refine lv_aload_n hx hb dX11_closeBlock_0 rfl (lv_at hl 0 rfl) ?_
  refine va_get (D := (dC, dI)) (ci := 13) (v := .ref (g 3)) (C := RX11) (T := TX11) (N := 12) hx hb hg inG11 hown hK hP 0 rfl rfl 2 (by decide) (hg _ wF_X11_22) (fun _ h9 => h9) rfl dX11_closeBlock_1 ?_
  refine cV_i (C := RX1) (n := 0) (rest := []) hx hb hml hown hg hT (c_X1_innerCatch l dC dI g ty s.heap.size pl ac ft md Z P  (by first | assumption) (by first | assumption)) (cv_of hg wM_X11_146 wN_X1_innerCatch wL_X1_X1_innerCatch wK_X1_innerCatch wI_X1 (by decide +kernel) ⟨Nat.le_of_ble_eq_true rfl, Nat.le_of_ble_eq_true rfl⟩) hK hP hD hS hA (va_recv hK hP (ci := 6) (q0 := 3) rfl rfl) rfl hl.1 rfl (Nat.le_of_ble_eq_true rfl) dX11_closeBlock_4 ⟨Nat.le_of_ble_eq_true rfl, Nat.le_of_ble_eq_true rfl⟩ (fun r_2 u_3 H locs q_1 hP hD hS => ?_)
  rcases q_1 with ⟨rfl, f_4⟩ | ⟨rfl, f_5⟩
  · show _
    have hP : va_P (dC, dI) vwCl (cW g ty pl ac ft md Z P) H := hP
    have hD : va_D A (cW g ty pl ac ft md Z P) := hD
    refine lv_bipush (v := 6) hx hb dX11_closeBlock_7 (by decide) ?_
    refine lv_icmp_ne (tgt := 22) hx hb dX11_closeBlock_9 (by decide) (fun c_6 => ?_) (fun c_6 => ?_)
    · show _
      refine lv_aload_n hx hb dX11_closeBlock_22 rfl (lv_at hl 0 rfl) ?_
      refine lv_dup hx hb dX11_closeBlock_23 rfl ?_
      refine va_get (D := (dC, dI)) (ci := 13) (v := .int Z.2.2.2.1) (C := RX11) (T := TX11) (N := 12) hx hb hg inG11 hown hK hP 0 rfl rfl 7 (by decide) (hg _ wF_X11_37) (fun _ h9 => h9) rfl dX11_closeBlock_24 ?_
      refine lv_iconst (v := 1) hx hb dX11_closeBlock_27 (by decide) ?_
      refine lv_iadd hx hb dX11_closeBlock_28 ?_
      refine va_put (D := (dC, dI)) (ci := 13) (v := .int (Z.2.2.2.1 + 1)) (ty := .int) (C := RX11) (T := TX11) (N := 12) hx hb hg inG11 tyX11 tyX11_ok nmX11 hown hK hP hD hS 0 rfl rfl 7 (by decide) (hg _ wF_X11_37) (fun _ h9 => h9) rfl (by decide +kernel) rfl rfl (Nat.le_of_ble_eq_true rfl) dX11_closeBlock_29 (fun H locs hP hD hS => ?_)
      have hP : va_P (dC, dI) vwCl (cW g ty pl ac ft md (Z.1, Z.2.1, Z.2.2.1, (Z.2.2.2.1 + 1), Z.2.2.2.2.1, Z.2.2.2.2.2.1, Z.2.2.2.2.2.2.1, Z.2.2.2.2.2.2.2.1, Z.2.2.2.2.2.2.2.2.1, Z.2.2.2.2.2.2.2.2.2.1, Z.2.2.2.2.2.2.2.2.2.2.1, Z.2.2.2.2.2.2.2.2.2.2.2) P) H := hP
      have hD : va_D A (cW g ty pl ac ft md (Z.1, Z.2.1, Z.2.2.1, (Z.2.2.2.1 + 1), Z.2.2.2.2.1, Z.2.2.2.2.2.1, Z.2.2.2.2.2.2.1, Z.2.2.2.2.2.2.2.1, Z.2.2.2.2.2.2.2.2.1, Z.2.2.2.2.2.2.2.2.2.1, Z.2.2.2.2.2.2.2.2.2.2.1, Z.2.2.2.2.2.2.2.2.2.2.2) P) := hD
      refine lv_aload_n hx hb dX11_closeBlock_32 rfl (lv_at hl 0 rfl) ?_
      refine va_get (D := (dC, dI)) (ci := 13) (v := .ref (g 3)) (C := RX11) (T := TX11) (N := 12) hx hb hg inG11 hown hK hP 0 rfl rfl 2 (by decide) (hg _ wF_X11_22) (fun _ h9 => h9) rfl dX11_closeBlock_33 ?_
      refine cV_v (C := RX1) (n := 0) (rest := []) hx hb hml hown hg hT (c_X1_drop l dC dI g ty H.size pl ac ft md (Z.1, Z.2.1, Z.2.2.1, (Z.2.2.2.1 + 1), Z.2.2.2.2.1, Z.2.2.2.2.2.1, Z.2.2.2.2.2.2.1, Z.2.2.2.2.2.2.2.1, Z.2.2.2.2.2.2.2.2.1, Z.2.2.2.2.2.2.2.2.2.1, Z.2.2.2.2.2.2.2.2.2.2.1, Z.2.2.2.2.2.2.2.2.2.2.2) P  ) (cv_of hg wM_X11_149 wN_X1_drop wL_X1_X1_drop wK_X1_drop wI_X1 (by decide +kernel) ⟨Nat.le_of_ble_eq_true rfl, Nat.le_of_ble_eq_true rfl⟩) hK hP hD hS hA (va_recv hK hP (ci := 6) (q0 := 3) rfl rfl) rfl hl.1 rfl (Nat.le_of_ble_eq_true rfl) dX11_closeBlock_36 ⟨Nat.le_of_ble_eq_true rfl, Nat.le_of_ble_eq_true rfl⟩ (fun u_9 H locs q_7 hP hD hS => ?_)
      rcases q_7 with ⟨rfl, f_10⟩ | ⟨rfl, f_11⟩
      · show _
        have hP : va_P (dC, dI) vwCl (cW g ty pl ac ft md (Z.1, Z.2.1, Z.2.2.1, (Z.2.2.2.1 + 1), Z.2.2.2.2.1, Z.2.2.2.2.2.1, Z.2.2.2.2.2.2.1, Z.2.2.2.2.2.2.2.1, Z.2.2.2.2.2.2.2.2.1, Z.2.2.2.2.2.2.2.2.2.1, Z.2.2.2.2.2.2.2.2.2.2.1, (Z.2.2.2.2.2.2.2.2.2.2.2 - 1)) P) H := hP
        have hD : va_D A (cW g ty pl ac ft md (Z.1, Z.2.1, Z.2.2.1, (Z.2.2.2.1 + 1), Z.2.2.2.2.1, Z.2.2.2.2.2.1, Z.2.2.2.2.2.2.1, Z.2.2.2.2.2.2.2.1, Z.2.2.2.2.2.2.2.2.1, Z.2.2.2.2.2.2.2.2.2.1, Z.2.2.2.2.2.2.2.2.2.2.1, (Z.2.2.2.2.2.2.2.2.2.2.2 - 1)) P) := hD
        refine cr_v (wo := fun u : cZ => cW g ty pl ac ft md u P) ((Z.1, Z.2.1, Z.2.2.1, (Z.2.2.2.1 + 1), Z.2.2.2.2.1, Z.2.2.2.2.2.1, Z.2.2.2.2.2.2.1, Z.2.2.2.2.2.2.2.1, Z.2.2.2.2.2.2.2.2.1, Z.2.2.2.2.2.2.2.2.2.1, Z.2.2.2.2.2.2.2.2.2.2.1, (Z.2.2.2.2.2.2.2.2.2.2.2 - 1))) hx hb hr hlk hS hP hD ?_ dX11_closeBlock_39
        first | exact Or.inl ⟨rfl, (by first | assumption), (by first | assumption)⟩ | exact Or.inr (Or.inl ⟨rfl, (by first | assumption), (by first | assumption)⟩) | exact Or.inr (Or.inr ⟨rfl, (by first | assumption)⟩)
      · show _
        exact absurd f_11 (by assumption)
    · show _
      refine lv_aload_n hx hb dX11_closeBlock_12 rfl (lv_at hl 0 rfl) ?_
      refine lv_dup hx hb dX11_closeBlock_13 rfl ?_
      refine va_get (D := (dC, dI)) (ci := 13) (v := .int Z.2.2.2.2.2.1) (C := RX11) (T := TX11) (N := 12) hx hb hg inG11 hown hK hP 0 rfl rfl 9 (by decide) (hg _ wF_X11_75) (fun _ h9 => h9) rfl dX11_closeBlock_14 ?_
      refine lv_iconst (v := 1) hx hb dX11_closeBlock_17 (by decide) ?_
      refine lv_iadd hx hb dX11_closeBlock_18 ?_
      refine va_put (D := (dC, dI)) (ci := 13) (v := .int (Z.2.2.2.2.2.1 + 1)) (ty := .int) (C := RX11) (T := TX11) (N := 12) hx hb hg inG11 tyX11 tyX11_ok nmX11 hown hK hP hD hS 0 rfl rfl 9 (by decide) (hg _ wF_X11_75) (fun _ h9 => h9) rfl (by decide +kernel) rfl rfl (Nat.le_of_ble_eq_true rfl) dX11_closeBlock_19 (fun H locs hP hD hS => ?_)
      have hP : va_P (dC, dI) vwCl (cW g ty pl ac ft md (Z.1, Z.2.1, Z.2.2.1, Z.2.2.2.1, Z.2.2.2.2.1, (Z.2.2.2.2.2.1 + 1), Z.2.2.2.2.2.2.1, Z.2.2.2.2.2.2.2.1, Z.2.2.2.2.2.2.2.2.1, Z.2.2.2.2.2.2.2.2.2.1, Z.2.2.2.2.2.2.2.2.2.2.1, Z.2.2.2.2.2.2.2.2.2.2.2) P) H := hP
      have hD : va_D A (cW g ty pl ac ft md (Z.1, Z.2.1, Z.2.2.1, Z.2.2.2.1, Z.2.2.2.2.1, (Z.2.2.2.2.2.1 + 1), Z.2.2.2.2.2.2.1, Z.2.2.2.2.2.2.2.1, Z.2.2.2.2.2.2.2.2.1, Z.2.2.2.2.2.2.2.2.2.1, Z.2.2.2.2.2.2.2.2.2.2.1, Z.2.2.2.2.2.2.2.2.2.2.2) P) := hD
      refine lv_aload_n hx hb dX11_closeBlock_22 rfl (lv_at hl 0 rfl) ?_
      refine lv_dup hx hb dX11_closeBlock_23 rfl ?_
      refine va_get (D := (dC, dI)) (ci := 13) (v := .int Z.2.2.2.1) (C := RX11) (T := TX11) (N := 12) hx hb hg inG11 hown hK hP 0 rfl rfl 7 (by decide) (hg _ wF_X11_37) (fun _ h9 => h9) rfl dX11_closeBlock_24 ?_
      refine lv_iconst (v := 1) hx hb dX11_closeBlock_27 (by decide) ?_
      refine lv_iadd hx hb dX11_closeBlock_28 ?_
      refine va_put (D := (dC, dI)) (ci := 13) (v := .int (Z.2.2.2.1 + 1)) (ty := .int) (C := RX11) (T := TX11) (N := 12) hx hb hg inG11 tyX11 tyX11_ok nmX11 hown hK hP hD hS 0 rfl rfl 7 (by decide) (hg _ wF_X11_37) (fun _ h9 => h9) rfl (by decide +kernel) rfl rfl (Nat.le_of_ble_eq_true rfl) dX11_closeBlock_29 (fun H locs hP hD hS => ?_)
      have hP : va_P (dC, dI) vwCl (cW g ty pl ac ft md (Z.1, Z.2.1, Z.2.2.1, (Z.2.2.2.1 + 1), Z.2.2.2.2.1, (Z.2.2.2.2.2.1 + 1), Z.2.2.2.2.2.2.1, Z.2.2.2.2.2.2.2.1, Z.2.2.2.2.2.2.2.2.1, Z.2.2.2.2.2.2.2.2.2.1, Z.2.2.2.2.2.2.2.2.2.2.1, Z.2.2.2.2.2.2.2.2.2.2.2) P) H := hP
      have hD : va_D A (cW g ty pl ac ft md (Z.1, Z.2.1, Z.2.2.1, (Z.2.2.2.1 + 1), Z.2.2.2.2.1, (Z.2.2.2.2.2.1 + 1), Z.2.2.2.2.2.2.1, Z.2.2.2.2.2.2.2.1, Z.2.2.2.2.2.2.2.2.1, Z.2.2.2.2.2.2.2.2.2.1, Z.2.2.2.2.2.2.2.2.2.2.1, Z.2.2.2.2.2.2.2.2.2.2.2) P) := hD
      refine lv_aload_n hx hb dX11_closeBlock_32 rfl (lv_at hl 0 rfl) ?_
      refine va_get (D := (dC, dI)) (ci := 13) (v := .ref (g 3)) (C := RX11) (T := TX11) (N := 12) hx hb hg inG11 hown hK hP 0 rfl rfl 2 (by decide) (hg _ wF_X11_22) (fun _ h9 => h9) rfl dX11_closeBlock_33 ?_
      refine cV_v (C := RX1) (n := 0) (rest := []) hx hb hml hown hg hT (c_X1_drop l dC dI g ty H.size pl ac ft md (Z.1, Z.2.1, Z.2.2.1, (Z.2.2.2.1 + 1), Z.2.2.2.2.1, (Z.2.2.2.2.2.1 + 1), Z.2.2.2.2.2.2.1, Z.2.2.2.2.2.2.2.1, Z.2.2.2.2.2.2.2.2.1, Z.2.2.2.2.2.2.2.2.2.1, Z.2.2.2.2.2.2.2.2.2.2.1, Z.2.2.2.2.2.2.2.2.2.2.2) P  ) (cv_of hg wM_X11_149 wN_X1_drop wL_X1_X1_drop wK_X1_drop wI_X1 (by decide +kernel) ⟨Nat.le_of_ble_eq_true rfl, Nat.le_of_ble_eq_true rfl⟩) hK hP hD hS hA (va_recv hK hP (ci := 6) (q0 := 3) rfl rfl) rfl hl.1 rfl (Nat.le_of_ble_eq_true rfl) dX11_closeBlock_36 ⟨Nat.le_of_ble_eq_true rfl, Nat.le_of_ble_eq_true rfl⟩ (fun u_14 H locs q_12 hP hD hS => ?_)
      rcases q_12 with ⟨rfl, f_15⟩ | ⟨rfl, f_16⟩
      · show _
        have hP : va_P (dC, dI) vwCl (cW g ty pl ac ft md (Z.1, Z.2.1, Z.2.2.1, (Z.2.2.2.1 + 1), Z.2.2.2.2.1, (Z.2.2.2.2.2.1 + 1), Z.2.2.2.2.2.2.1, Z.2.2.2.2.2.2.2.1, Z.2.2.2.2.2.2.2.2.1, Z.2.2.2.2.2.2.2.2.2.1, Z.2.2.2.2.2.2.2.2.2.2.1, (Z.2.2.2.2.2.2.2.2.2.2.2 - 1)) P) H := hP
        have hD : va_D A (cW g ty pl ac ft md (Z.1, Z.2.1, Z.2.2.1, (Z.2.2.2.1 + 1), Z.2.2.2.2.1, (Z.2.2.2.2.2.1 + 1), Z.2.2.2.2.2.2.1, Z.2.2.2.2.2.2.2.1, Z.2.2.2.2.2.2.2.2.1, Z.2.2.2.2.2.2.2.2.2.1, Z.2.2.2.2.2.2.2.2.2.2.1, (Z.2.2.2.2.2.2.2.2.2.2.2 - 1)) P) := hD
        refine cr_v (wo := fun u : cZ => cW g ty pl ac ft md u P) ((Z.1, Z.2.1, Z.2.2.1, (Z.2.2.2.1 + 1), Z.2.2.2.2.1, (Z.2.2.2.2.2.1 + 1), Z.2.2.2.2.2.2.1, Z.2.2.2.2.2.2.2.1, Z.2.2.2.2.2.2.2.2.1, Z.2.2.2.2.2.2.2.2.2.1, Z.2.2.2.2.2.2.2.2.2.2.1, (Z.2.2.2.2.2.2.2.2.2.2.2 - 1))) hx hb hr hlk hS hP hD ?_ dX11_closeBlock_39
        first | exact Or.inl ⟨rfl, (by first | assumption), (by first | assumption)⟩ | exact Or.inr (Or.inl ⟨rfl, (by first | assumption), (by first | assumption)⟩) | exact Or.inr (Or.inr ⟨rfl, (by first | assumption)⟩)
      · show _
        exact absurd f_16 (by assumption)
  · show _
    have hP : va_P (dC, dI) vwCl (cW g ty pl ac ft md Z P) H := hP
    have hD : va_D A (cW g ty pl ac ft md Z P) := hD
    refine lv_bipush (v := 6) hx hb dX11_closeBlock_7 (by decide) ?_
    refine lv_icmp_ne (tgt := 22) hx hb dX11_closeBlock_9 (by decide) (fun _ => ?_) (fun c9 => absurd c9 (by decide)) 
    refine lv_aload_n hx hb dX11_closeBlock_22 rfl (lv_at hl 0 rfl) ?_
    refine lv_dup hx hb dX11_closeBlock_23 rfl ?_
    refine va_get (D := (dC, dI)) (ci := 13) (v := .int Z.2.2.2.1) (C := RX11) (T := TX11) (N := 12) hx hb hg inG11 hown hK hP 0 rfl rfl 7 (by decide) (hg _ wF_X11_37) (fun _ h9 => h9) rfl dX11_closeBlock_24 ?_
    refine lv_iconst (v := 1) hx hb dX11_closeBlock_27 (by decide) ?_
    refine lv_iadd hx hb dX11_closeBlock_28 ?_
    refine va_put (D := (dC, dI)) (ci := 13) (v := .int (Z.2.2.2.1 + 1)) (ty := .int) (C := RX11) (T := TX11) (N := 12) hx hb hg inG11 tyX11 tyX11_ok nmX11 hown hK hP hD hS 0 rfl rfl 7 (by decide) (hg _ wF_X11_37) (fun _ h9 => h9) rfl (by decide +kernel) rfl rfl (Nat.le_of_ble_eq_true rfl) dX11_closeBlock_29 (fun H locs hP hD hS => ?_)
    have hP : va_P (dC, dI) vwCl (cW g ty pl ac ft md (Z.1, Z.2.1, Z.2.2.1, (Z.2.2.2.1 + 1), Z.2.2.2.2.1, Z.2.2.2.2.2.1, Z.2.2.2.2.2.2.1, Z.2.2.2.2.2.2.2.1, Z.2.2.2.2.2.2.2.2.1, Z.2.2.2.2.2.2.2.2.2.1, Z.2.2.2.2.2.2.2.2.2.2.1, Z.2.2.2.2.2.2.2.2.2.2.2) P) H := hP
    have hD : va_D A (cW g ty pl ac ft md (Z.1, Z.2.1, Z.2.2.1, (Z.2.2.2.1 + 1), Z.2.2.2.2.1, Z.2.2.2.2.2.1, Z.2.2.2.2.2.2.1, Z.2.2.2.2.2.2.2.1, Z.2.2.2.2.2.2.2.2.1, Z.2.2.2.2.2.2.2.2.2.1, Z.2.2.2.2.2.2.2.2.2.2.1, Z.2.2.2.2.2.2.2.2.2.2.2) P) := hD
    refine lv_aload_n hx hb dX11_closeBlock_32 rfl (lv_at hl 0 rfl) ?_
    refine va_get (D := (dC, dI)) (ci := 13) (v := .ref (g 3)) (C := RX11) (T := TX11) (N := 12) hx hb hg inG11 hown hK hP 0 rfl rfl 2 (by decide) (hg _ wF_X11_22) (fun _ h9 => h9) rfl dX11_closeBlock_33 ?_
    refine cV_v (C := RX1) (n := 0) (rest := []) hx hb hml hown hg hT (c_X1_drop l dC dI g ty H.size pl ac ft md (Z.1, Z.2.1, Z.2.2.1, (Z.2.2.2.1 + 1), Z.2.2.2.2.1, Z.2.2.2.2.2.1, Z.2.2.2.2.2.2.1, Z.2.2.2.2.2.2.2.1, Z.2.2.2.2.2.2.2.2.1, Z.2.2.2.2.2.2.2.2.2.1, Z.2.2.2.2.2.2.2.2.2.2.1, Z.2.2.2.2.2.2.2.2.2.2.2) P  ) (cv_of hg wM_X11_149 wN_X1_drop wL_X1_X1_drop wK_X1_drop wI_X1 (by decide +kernel) ⟨Nat.le_of_ble_eq_true rfl, Nat.le_of_ble_eq_true rfl⟩) hK hP hD hS hA (va_recv hK hP (ci := 6) (q0 := 3) rfl rfl) rfl hl.1 rfl (Nat.le_of_ble_eq_true rfl) dX11_closeBlock_36 ⟨Nat.le_of_ble_eq_true rfl, Nat.le_of_ble_eq_true rfl⟩ (fun u_19 H locs q_17 hP hD hS => ?_)
    rcases q_17 with ⟨rfl, f_20⟩ | ⟨rfl, f_21⟩
    · show _
      exact absurd (by assumption) f_20
    · show _
      have hP : va_P (dC, dI) vwCl (cW g ty pl ac ft md (Z.1, Z.2.1, Z.2.2.1, (Z.2.2.2.1 + 1), Z.2.2.2.2.1, Z.2.2.2.2.2.1, Z.2.2.2.2.2.2.1, Z.2.2.2.2.2.2.2.1, Z.2.2.2.2.2.2.2.2.1, Z.2.2.2.2.2.2.2.2.2.1, Z.2.2.2.2.2.2.2.2.2.2.1, Z.2.2.2.2.2.2.2.2.2.2.2) P) H := hP
      have hD : va_D A (cW g ty pl ac ft md (Z.1, Z.2.1, Z.2.2.1, (Z.2.2.2.1 + 1), Z.2.2.2.2.1, Z.2.2.2.2.2.1, Z.2.2.2.2.2.2.1, Z.2.2.2.2.2.2.2.1, Z.2.2.2.2.2.2.2.2.1, Z.2.2.2.2.2.2.2.2.2.1, Z.2.2.2.2.2.2.2.2.2.2.1, Z.2.2.2.2.2.2.2.2.2.2.2) P) := hD
      refine cr_v (wo := fun u : cZ => cW g ty pl ac ft md u P) ((Z.1, Z.2.1, Z.2.2.1, (Z.2.2.2.1 + 1), Z.2.2.2.2.1, Z.2.2.2.2.2.1, Z.2.2.2.2.2.2.1, Z.2.2.2.2.2.2.2.1, Z.2.2.2.2.2.2.2.2.1, Z.2.2.2.2.2.2.2.2.2.1, Z.2.2.2.2.2.2.2.2.2.2.1, Z.2.2.2.2.2.2.2.2.2.2.2)) hx hb hr hlk hS hP hD ?_ dX11_closeBlock_39
      first | exact Or.inl ⟨rfl, (by first | assumption), (by first | assumption)⟩ | exact Or.inr (Or.inl ⟨rfl, (by first | assumption), (by first | assumption)⟩) | exact Or.inr (Or.inr ⟨rfl, (by first | assumption)⟩)
set_option maxHeartbeats 800000 in
set_option maxRecDepth 100000 in
theorem c_X11_isCaught (l : Launch) (dC : Nat → ClassId) (dI : Nat → Nat → Nat) (g : Nat → Nat) (ty : Nat → ClassId) (sz : Nat) (pl : Nat → Option Nat) (ac : Int64) (ft : Int32) (md : Int32) (Z : cZ) (P : cQ) (c0 : Int32) : Met l yX11_isCaught (Cond.code yX11_isCaught cX11_isCaught 2 (some .boolean) :: gT) ({ frames := 0, cells := 0, slots := 0, locals := 0 }) (cP (dC, dI) (cTy ty) (cW g ty pl ac ft md Z P) sz [.ref (g 0), .int c0]) (va_Qi (fun (rz : Int32) (u : Unit) => (1 = rz ∧ kCa c0 ft = true) ∨ (0 = rz ∧ kCa c0 ft = false)) (cB (dC, dI) (fun u : Unit => cW g ty pl ac ft md Z P) (va_A (cW g ty pl ac ft md Z P) sz)) (va_A (cW g ty pl ac ft md Z P) sz)) 0 0 (va_A (cW g ty pl ac ft md Z P) sz) := by
  refine cc_of (Qa := fun A => va_Qi (fun (rz : Int32) (u : Unit) => (1 = rz ∧ kCa c0 ft = true) ∨ (0 = rz ∧ kCa c0 ft = false)) (cB (dC, dI) (fun u : Unit => cW g ty pl ac ft md Z P) A) A) (by decide) (Nat.le_of_ble_eq_true rfl) ?_
  intro p e s m below meth c A hx hb hr hml hown hg hlk hmn hP hK hD hT hS hA hsz ls hl
  have hown : s.vm.findClass RX11 = some m.cls := hown
  have hl : lv_has ls 2 [(0, .ref (g 0)), (1, .int c0)] := hl
  refine lv_iload_n hx hb dX11_isCaught_0 rfl (lv_at hl 1 rfl) ?_
  by_cases e_1 : c0 = 0
  · show _
    refine lv_tableIn (off := 47) (tgt := 48) hx hb dX11_isCaught_1 (by rw [e_1]; decide) (by rw [e_1]; decide) (by rw [e_1]; decide) (by decide) ?_
    refine lv_aload_n hx hb dX11_isCaught_48 rfl (lv_at hl 0 rfl) ?_
    refine va_get (D := (dC, dI)) (ci := 13) (v := .int ft) (C := RX11) (T := TX11) (N := 12) hx hb hg inG11 hown hK hP 0 rfl rfl 4 (by decide) (hg _ wF_X11_26) (fun _ h9 => h9) rfl dX11_isCaught_49 ?_
    refine lv_iload_n hx hb dX11_isCaught_52 rfl (lv_at hl 1 rfl) ?_
    refine lv_icmp_ne (tgt := 60) hx hb dX11_isCaught_53 (by decide) (fun c_2 => ?_) (fun c_2 => ?_)
    · show _
      refine lv_iconst (v := 0) hx hb dX11_isCaught_60 (by decide) ?_
      refine cr_z (wo := fun u : Unit => cW g ty pl ac ft md Z P) (()) hx hb hr hlk hS hP hD rfl ?_ dX11_isCaught_61
      exact Or.inr ⟨rfl, (by first | assumption | (simp [kCa, *]; done) | (simp_all [kCa]; done))⟩
    · show _
      refine lv_iconst (v := 1) hx hb dX11_isCaught_56 (by decide) ?_
      refine lv_goto (tgt := 61) hx hb dX11_isCaught_57 (by decide) ?_
      refine cr_z (wo := fun u : Unit => cW g ty pl ac ft md Z P) (()) hx hb hr hlk hS hP hD rfl ?_ dX11_isCaught_61
      exact Or.inl ⟨rfl, (by first | assumption | (simp [kCa, *]; done) | (simp_all [kCa]; done))⟩
  · show _
    by_cases e_3 : c0 = 1
    · show _
      refine lv_tableIn (off := 47) (tgt := 48) hx hb dX11_isCaught_1 (by rw [e_3]; decide) (by rw [e_3]; decide) (by rw [e_3]; decide) (by decide) ?_
      refine lv_aload_n hx hb dX11_isCaught_48 rfl (lv_at hl 0 rfl) ?_
      refine va_get (D := (dC, dI)) (ci := 13) (v := .int ft) (C := RX11) (T := TX11) (N := 12) hx hb hg inG11 hown hK hP 0 rfl rfl 4 (by decide) (hg _ wF_X11_26) (fun _ h9 => h9) rfl dX11_isCaught_49 ?_
      refine lv_iload_n hx hb dX11_isCaught_52 rfl (lv_at hl 1 rfl) ?_
      refine lv_icmp_ne (tgt := 60) hx hb dX11_isCaught_53 (by decide) (fun c_4 => ?_) (fun c_4 => ?_)
      · show _
        refine lv_iconst (v := 0) hx hb dX11_isCaught_60 (by decide) ?_
        refine cr_z (wo := fun u : Unit => cW g ty pl ac ft md Z P) (()) hx hb hr hlk hS hP hD rfl ?_ dX11_isCaught_61
        exact Or.inr ⟨rfl, (by first | assumption | (simp [kCa, *]; done) | (simp_all [kCa]; done))⟩
      · show _
        refine lv_iconst (v := 1) hx hb dX11_isCaught_56 (by decide) ?_
        refine lv_goto (tgt := 61) hx hb dX11_isCaught_57 (by decide) ?_
        refine cr_z (wo := fun u : Unit => cW g ty pl ac ft md Z P) (()) hx hb hr hlk hS hP hD rfl ?_ dX11_isCaught_61
        exact Or.inl ⟨rfl, (by first | assumption | (simp [kCa, *]; done) | (simp_all [kCa]; done))⟩
    · show _
      by_cases e_5 : c0 = 2
      · show _
        refine lv_tableIn (off := 47) (tgt := 48) hx hb dX11_isCaught_1 (by rw [e_5]; decide) (by rw [e_5]; decide) (by rw [e_5]; decide) (by decide) ?_
        refine lv_aload_n hx hb dX11_isCaught_48 rfl (lv_at hl 0 rfl) ?_
        refine va_get (D := (dC, dI)) (ci := 13) (v := .int ft) (C := RX11) (T := TX11) (N := 12) hx hb hg inG11 hown hK hP 0 rfl rfl 4 (by decide) (hg _ wF_X11_26) (fun _ h9 => h9) rfl dX11_isCaught_49 ?_
        refine lv_iload_n hx hb dX11_isCaught_52 rfl (lv_at hl 1 rfl) ?_
        refine lv_icmp_ne (tgt := 60) hx hb dX11_isCaught_53 (by decide) (fun c_6 => ?_) (fun c_6 => ?_)
        · show _
          refine lv_iconst (v := 0) hx hb dX11_isCaught_60 (by decide) ?_
          refine cr_z (wo := fun u : Unit => cW g ty pl ac ft md Z P) (()) hx hb hr hlk hS hP hD rfl ?_ dX11_isCaught_61
          exact Or.inr ⟨rfl, (by first | assumption | (simp [kCa, *]; done) | (simp_all [kCa]; done))⟩
        · show _
          refine lv_iconst (v := 1) hx hb dX11_isCaught_56 (by decide) ?_
          refine lv_goto (tgt := 61) hx hb dX11_isCaught_57 (by decide) ?_
          refine cr_z (wo := fun u : Unit => cW g ty pl ac ft md Z P) (()) hx hb hr hlk hS hP hD rfl ?_ dX11_isCaught_61
          exact Or.inl ⟨rfl, (by first | assumption | (simp [kCa, *]; done) | (simp_all [kCa]; done))⟩
      · show _
        by_cases e_7 : c0 = 3
        · show _
          refine lv_tableIn (off := 61) (tgt := 62) hx hb dX11_isCaught_1 (by rw [e_7]; decide) (by rw [e_7]; decide) (by rw [e_7]; decide) (by decide) ?_
          refine lv_aload_n hx hb dX11_isCaught_62 rfl (lv_at hl 0 rfl) ?_
          refine va_get (D := (dC, dI)) (ci := 13) (v := .int ft) (C := RX11) (T := TX11) (N := 12) hx hb hg inG11 hown hK hP 0 rfl rfl 4 (by decide) (hg _ wF_X11_26) (fun _ h9 => h9) rfl dX11_isCaught_63 ?_
          refine lv_iconst (v := 3) hx hb dX11_isCaught_66 (by decide) ?_
          refine lv_icmp_eq (tgt := 78) hx hb dX11_isCaught_67 (by decide) (fun c_8 => ?_) (fun c_8 => ?_)
          · show _
            refine lv_iconst (v := 1) hx hb dX11_isCaught_78 (by decide) ?_
            refine lv_goto (tgt := 83) hx hb dX11_isCaught_79 (by decide) ?_
            refine cr_z (wo := fun u : Unit => cW g ty pl ac ft md Z P) (()) hx hb hr hlk hS hP hD rfl ?_ dX11_isCaught_83
            exact Or.inl ⟨rfl, (by first | assumption | (simp [kCa, *]; done) | (simp_all [kCa]; done))⟩
          · show _
            refine lv_aload_n hx hb dX11_isCaught_70 rfl (lv_at hl 0 rfl) ?_
            refine va_get (D := (dC, dI)) (ci := 13) (v := .int ft) (C := RX11) (T := TX11) (N := 12) hx hb hg inG11 hown hK hP 0 rfl rfl 4 (by decide) (hg _ wF_X11_26) (fun _ h9 => h9) rfl dX11_isCaught_71 ?_
            refine lv_iconst (v := 5) hx hb dX11_isCaught_74 (by decide) ?_
            refine lv_icmp_ne (tgt := 82) hx hb dX11_isCaught_75 (by decide) (fun c_9 => ?_) (fun c_9 => ?_)
            · show _
              refine lv_iconst (v := 0) hx hb dX11_isCaught_82 (by decide) ?_
              refine cr_z (wo := fun u : Unit => cW g ty pl ac ft md Z P) (()) hx hb hr hlk hS hP hD rfl ?_ dX11_isCaught_83
              exact Or.inr ⟨rfl, (by first | assumption | (simp [kCa, *]; done) | (simp_all [kCa]; done))⟩
            · show _
              refine lv_iconst (v := 1) hx hb dX11_isCaught_78 (by decide) ?_
              refine lv_goto (tgt := 83) hx hb dX11_isCaught_79 (by decide) ?_
              refine cr_z (wo := fun u : Unit => cW g ty pl ac ft md Z P) (()) hx hb hr hlk hS hP hD rfl ?_ dX11_isCaught_83
              exact Or.inl ⟨rfl, (by first | assumption | (simp [kCa, *]; done) | (simp_all [kCa]; done))⟩
        · show _
          by_cases e_10 : c0 = 4
          · show _
            refine lv_tableIn (off := 83) (tgt := 84) hx hb dX11_isCaught_1 (by rw [e_10]; decide) (by rw [e_10]; decide) (by rw [e_10]; decide) (by decide) ?_
            refine lv_iconst (v := 1) hx hb dX11_isCaught_84 (by decide) ?_
            refine cr_z (wo := fun u : Unit => cW g ty pl ac ft md Z P) (()) hx hb hr hlk hS hP hD rfl ?_ dX11_isCaught_85
            exact Or.inl ⟨rfl, (by first | assumption | (simp [kCa, *]; done) | (simp_all [kCa]; done))⟩
          · show _
            by_cases e_11 : c0 = 5
            · show _
              refine lv_tableIn (off := 100) (tgt := 101) hx hb dX11_isCaught_1 (by rw [e_11]; decide) (by rw [e_11]; decide) (by rw [e_11]; decide) (by decide) ?_
              refine lv_iconst (v := 0) hx hb dX11_isCaught_101 (by decide) ?_
              refine cr_z (wo := fun u : Unit => cW g ty pl ac ft md Z P) (()) hx hb hr hlk hS hP hD rfl ?_ dX11_isCaught_102
              exact Or.inr ⟨rfl, (by first | assumption | (simp [kCa, *]; done) | (simp_all [kCa]; done))⟩
            · show _
              by_cases e_12 : c0 = 6
              · show _
                refine lv_tableIn (off := 100) (tgt := 101) hx hb dX11_isCaught_1 (by rw [e_12]; decide) (by rw [e_12]; decide) (by rw [e_12]; decide) (by decide) ?_
                refine lv_iconst (v := 0) hx hb dX11_isCaught_101 (by decide) ?_
                refine cr_z (wo := fun u : Unit => cW g ty pl ac ft md Z P) (()) hx hb hr hlk hS hP hD rfl ?_ dX11_isCaught_102
                exact Or.inr ⟨rfl, (by first | assumption | (simp [kCa, *]; done) | (simp_all [kCa]; done))⟩
              · show _
                by_cases e_13 : c0 = 7
                · show _
                  refine lv_tableIn (off := 85) (tgt := 86) hx hb dX11_isCaught_1 (by rw [e_13]; decide) (by rw [e_13]; decide) (by rw [e_13]; decide) (by decide) ?_
                  refine lv_aload_n hx hb dX11_isCaught_86 rfl (lv_at hl 0 rfl) ?_
                  refine va_get (D := (dC, dI)) (ci := 13) (v := .int ft) (C := RX11) (T := TX11) (N := 12) hx hb hg inG11 hown hK hP 0 rfl rfl 4 (by decide) (hg _ wF_X11_26) (fun _ h9 => h9) rfl dX11_isCaught_87 ?_
                  refine lv_bipush (v := 6) hx hb dX11_isCaught_90 (by decide) ?_
                  refine lv_icmp_ne (tgt := 99) hx hb dX11_isCaught_92 (by decide) (fun c_14 => ?_) (fun c_14 => ?_)
                  · show _
                    refine lv_iconst (v := 0) hx hb dX11_isCaught_99 (by decide) ?_
                    refine cr_z (wo := fun u : Unit => cW g ty pl ac ft md Z P) (()) hx hb hr hlk hS hP hD rfl ?_ dX11_isCaught_100
                    exact Or.inr ⟨rfl, (by first | assumption | (simp [kCa, *]; done) | (simp_all [kCa]; done))⟩
                  · show _
                    refine lv_iconst (v := 1) hx hb dX11_isCaught_95 (by decide) ?_
                    refine lv_goto (tgt := 100) hx hb dX11_isCaught_96 (by decide) ?_
                    refine cr_z (wo := fun u : Unit => cW g ty pl ac ft md Z P) (()) hx hb hr hlk hS hP hD rfl ?_ dX11_isCaught_100
                    exact Or.inl ⟨rfl, (by first | assumption | (simp [kCa, *]; done) | (simp_all [kCa]; done))⟩
                · show _
                  refine lv_tableOut (tgt := 101) hx hb dX11_isCaught_1 (by have q0 := lv_neT e_1 (a := 0) rfl; have q1 := lv_neT e_3 (a := 1) rfl; have q2 := lv_neT e_5 (a := 2) rfl; have q3 := lv_neT e_7 (a := 3) rfl; have q4 := lv_neT e_10 (a := 4) rfl; have q5 := lv_neT e_11 (a := 5) rfl; have q6 := lv_neT e_12 (a := 6) rfl; have q7 := lv_neT e_13 (a := 7) rfl; omega) (by decide) ?_
                  refine lv_iconst (v := 0) hx hb dX11_isCaught_101 (by decide) ?_
                  refine cr_z (wo := fun u : Unit => cW g ty pl ac ft md Z P) (()) hx hb hr hlk hS hP hD rfl ?_ dX11_isCaught_102
                  exact Or.inr ⟨rfl, (by first | assumption | (simp [kCa, *]; done) | (simp_all [kCa]; done))⟩

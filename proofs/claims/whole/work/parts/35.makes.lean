theorem nlt_of {x : Int32} (h : 0 ≤ x) : ¬ x < 0 := by
  rw [Int32.le_iff_toInt_le] at h
  rw [Int32.lt_iff_toInt_lt]
  omega
theorem rem_lt {x m : Int32} {n : Nat} (hm : m.toInt = n) (h0 : 0 < n) (h : 0 ≤ x - x / m * m) : (x - x / m * m).toNatClampNeg < n := by
  rw [Int32.le_iff_toInt_le, ci_0, rem_toInt, hm] at h
  have t := tmod_bounds (a := x.toInt) (M := (n : Int)) (by omega)
  have e : (x - x / m * m).toNatClampNeg = (x.toInt.tmod n).toNat := by
    show (x - x / m * m).toInt.toNat = _
    rw [rem_toInt, hm]
  rw [e]
  omega
theorem rem_lt100 {x : Int32} (h : 0 ≤ x - x / 100 * 100) : (x - x / 100 * 100).toNatClampNeg < 100 := rem_lt (by decide) (by decide) h
theorem rem_lt40 {x : Int32} (h : 0 ≤ x - x / 40 * 40) : (x - x / 40 * 40).toNatClampNeg < 40 := rem_lt (by decide) (by decide) h
set_option maxHeartbeats 800000 in
set_option maxRecDepth 100000 in
theorem c_X11_putNew (l : Launch) (dC : Nat → ClassId) (dI : Nat → Nat → Nat) (g : Nat → Nat) (ty : Nat → ClassId) (sz : Nat) (pl : Nat → Option Nat) (ac : Int64) (ft : Int32) (md : Int32) (Z : cZ) (P : cQ) (a0 : Int32) (t0 : Nat) (pre0 : vp_in a0 32) (pre1 : t0 ∈ P.1) (pre2 : P.2.1 t0 < 7) : Met l yX11_putNew (Cond.code yX11_putNew cX11_putNew 3 none :: gT) ({ frames := 0, cells := 0, slots := 0, locals := 0 }) (cP (dC, dI) (cTy ty) (cW g ty pl ac ft md Z P) sz [.ref (g 0), .int a0, .ref t0]) (va_Qv (fun (u : (Nat → Option Nat) × Int32) => (va_up pl a0.toNatClampNeg (some t0), (md + 1)) = u) (cB (dC, dI) (fun u : (Nat → Option Nat) × Int32 => cW g ty u.1 ac ft u.2 Z P) (va_A (cW g ty pl ac ft md Z P) sz)) (va_A (cW g ty pl ac ft md Z P) sz)) 0 0 (va_A (cW g ty pl ac ft md Z P) sz) := by
  refine cc_of (Qa := fun A => va_Qv (fun (u : (Nat → Option Nat) × Int32) => (va_up pl a0.toNatClampNeg (some t0), (md + 1)) = u) (cB (dC, dI) (fun u : (Nat → Option Nat) × Int32 => cW g ty u.1 ac ft u.2 Z P) A) A) (by decide) (Nat.le_of_ble_eq_true rfl) ?_
  intro p e s m below meth c A hx hb hr hml hown hg hlk hmn hP hK hD hT hS hA hsz ls hl
  have hown : s.vm.findClass RX11 = some m.cls := hown
  have hl : lv_has ls 3 [(0, .ref (g 0)), (1, .int a0), (2, .ref t0)] := hl
  refine lv_aload_n hx hb dX11_putNew_0 rfl (lv_at hl 0 rfl) ?_
  refine va_get (D := (dC, dI)) (ci := 13) (v := .ref (g 1)) (C := RX11) (T := TX11) (N := 12) hx hb hg inG11 hown hK hP 0 rfl rfl 0 (by decide) (hg _ wF_X11_11) (fun _ h9 => h9) rfl dX11_putNew_1 ?_
  refine lv_iload_n hx hb dX11_putNew_4 rfl (lv_at hl 1 rfl) ?_
  refine lv_aload_n hx hb dX11_putNew_5 rfl (lv_at hl 2 rfl) ?_
  refine va_astqM hx hb hK hP hD hS 1 1 rfl rfl (cI_any hT hK hP pre1 pre2) (by first | assumption | exact cln_lt (by assumption) (by assumption) (by assumption) | exact cln_no (by assumption) (by assumption) | exact cin_lt (by assumption) (by assumption) (by decide) | rfl) dX11_putNew_6 (fun H locs hP hD hS => ?_)
  have hP : va_P (dC, dI) vwCl (cW g ty (va_up pl a0.toNatClampNeg (some t0)) ac ft md Z P) H := hP
  have hD : va_D A (cW g ty (va_up pl a0.toNatClampNeg (some t0)) ac ft md Z P) := hD
  refine lv_aload_n hx hb dX11_putNew_7 rfl (lv_at hl 0 rfl) ?_
  refine lv_dup hx hb dX11_putNew_8 rfl ?_
  refine va_get (D := (dC, dI)) (ci := 13) (v := .int md) (C := RX11) (T := TX11) (N := 12) hx hb hg inG11 hown hK hP 0 rfl rfl 11 (by decide) (hg _ wF_X11_81) (fun _ h9 => h9) rfl dX11_putNew_9 ?_
  refine lv_iconst (v := 1) hx hb dX11_putNew_12 (by decide) ?_
  refine lv_iadd hx hb dX11_putNew_13 ?_
  refine va_put (D := (dC, dI)) (ci := 13) (v := .int (md + 1)) (ty := .int) (C := RX11) (T := TX11) (N := 12) hx hb hg inG11 tyX11 tyX11_ok nmX11 hown hK hP hD hS 0 rfl rfl 11 (by decide) (hg _ wF_X11_81) (fun _ h9 => h9) rfl (by decide +kernel) rfl rfl (Nat.le_of_ble_eq_true rfl) dX11_putNew_14 (fun H locs hP hD hS => ?_)
  have hP : va_P (dC, dI) vwCl (cW g ty (va_up pl a0.toNatClampNeg (some t0)) ac ft (md + 1) Z P) H := hP
  have hD : va_D A (cW g ty (va_up pl a0.toNatClampNeg (some t0)) ac ft (md + 1) Z P) := hD
  refine cr_v (wo := fun u : (Nat → Option Nat) × Int32 => cW g ty u.1 ac ft u.2 Z P) (((va_up pl a0.toNatClampNeg (some t0)), (md + 1))) hx hb hr hlk hS hP hD ?_ dX11_putNew_17
  exact rfl
set_option maxHeartbeats 800000 in
set_option maxRecDepth 100000 in
theorem c_X11_makeRow (l : Launch) (dC : Nat → ClassId) (dI : Nat → Nat → Nat) (g : Nat → Nat) (ty : Nat → ClassId) (sz : Nat) (pl : Nat → Option Nat) (ac : Int64) (ft : Int32) (md : Int32) (Z : cZ) (P : cQ) (k0 : Nat) (a0 : Int32) (b0 : Int32) (c0 : Int32) (pre0 : md < 6000 → vp_in a0 32 → 0 ≤ (c0 - c0 / 100 * 100) → 1 ≤ k0) : Met l yX11_makeRow (Cond.code yX11_makeRow cX11_makeRow 5 (some .long) :: gT) ({ frames := 6, cells := 18 * k0, slots := 101 * k0, locals := 143 }) (cP (dC, dI) (cTy ty) (cW g ty pl ac ft md Z P) sz [.ref (g 0), .int a0, .int b0, .int c0]) (va_Ql (fun (rz : Int64) (u : (Nat → Option Nat) × Int32 × Int32 × cQ) => (0 = rz ∧ (pl, 6, md, P) = u ∧ ¬ md < 6000) ∨ (0 = rz ∧ (pl, 2, md, P) = u ∧ md < 6000 ∧ ¬ vp_in a0 32) ∨ (0 = rz ∧ (pl, 4, md, P) = u ∧ md < 6000 ∧ vp_in a0 32 ∧ ¬ 0 ≤ (c0 - c0 / 100 * 100)) ∨ (∃ q y : Nat, ((c0 - c0 / 100 * 100).toInt64) = rz ∧ (va_up pl a0.toNatClampNeg (some q), ft, (md + 1), pRow P q y (b0 &&& 7) (c0 - c0 / 100 * 100).toNatClampNeg) = u ∧ md < 6000 ∧ vp_in a0 32 ∧ 0 ≤ (c0 - c0 / 100 * 100) ∧ q ∉ P.1 ∧ y ∉ P.1 ∧ y ≠ q)) (cB (dC, dI) (fun u : (Nat → Option Nat) × Int32 × Int32 × cQ => cW g ty u.1 ac u.2.1 u.2.2.1 Z u.2.2.2) (va_A (cW g ty pl ac ft md Z P) sz)) (va_A (cW g ty pl ac ft md Z P) sz)) (18 * k0) (101 * k0) (va_A (cW g ty pl ac ft md Z P) sz) := by
  refine cc_of (Qa := fun A => va_Ql (fun (rz : Int64) (u : (Nat → Option Nat) × Int32 × Int32 × cQ) => (0 = rz ∧ (pl, 6, md, P) = u ∧ ¬ md < 6000) ∨ (0 = rz ∧ (pl, 2, md, P) = u ∧ md < 6000 ∧ ¬ vp_in a0 32) ∨ (0 = rz ∧ (pl, 4, md, P) = u ∧ md < 6000 ∧ vp_in a0 32 ∧ ¬ 0 ≤ (c0 - c0 / 100 * 100)) ∨ (∃ q y : Nat, ((c0 - c0 / 100 * 100).toInt64) = rz ∧ (va_up pl a0.toNatClampNeg (some q), ft, (md + 1), pRow P q y (b0 &&& 7) (c0 - c0 / 100 * 100).toNatClampNeg) = u ∧ md < 6000 ∧ vp_in a0 32 ∧ 0 ≤ (c0 - c0 / 100 * 100) ∧ q ∉ P.1 ∧ y ∉ P.1 ∧ y ≠ q)) (cB (dC, dI) (fun u : (Nat → Option Nat) × Int32 × Int32 × cQ => cW g ty u.1 ac u.2.1 u.2.2.1 Z u.2.2.2) A) A) (by decide) (Nat.le_of_ble_eq_true rfl) ?_
  intro p e s m below meth c A hx hb hr hml hown hg hlk hmn hP hK hD hT hS hA hsz ls hl
  have hown : s.vm.findClass RX11 = some m.cls := hown
  have hl : lv_has ls 5 [(0, .ref (g 0)), (1, .int a0), (2, .int b0), (3, .int c0)] := hl
  refine lv_iload_n hx hb dX11_makeRow_0 rfl (lv_at hl 3 rfl) ?_
  refine lv_bipush (v := 100) hx hb dX11_makeRow_1 (by decide) ?_
  refine lv_irem hx hb dX11_makeRow_3 (by decide) ?_
  refine lv_topi (fun m_1 em_1 => ?_)
  refine lv_istore (lv' := [(4, .int m_1), (0, .ref (g 0)), (1, .int a0), (2, .int b0), (3, .int c0)]) hx hb dX11_makeRow_4 hl (by decide) rfl (fun ls hl => ?_)
  refine lv_aload_n hx hb dX11_makeRow_6 rfl (lv_at hl 1 rfl) ?_
  refine cV_i (C := RX11) (n := 0) (rest := []) hx hb hml hown hg hT (c_X11_mayMake l dC dI g ty s.heap.size pl ac ft md Z P  ) (cv_of hg wM_X11_262 wN_X11_mayMake wL_X11_X11_mayMake wK_X11_mayMake wI_X11 (by decide +kernel) ⟨Nat.le_of_ble_eq_true rfl, Nat.le_of_ble_eq_true rfl⟩) hK hP hD hS hA (va_recv hK hP (ci := 13) (q0 := 0) rfl rfl) rfl hl.1 rfl (Nat.le_of_ble_eq_true rfl) dX11_makeRow_7 ⟨by show 0 + 0 ≤ 18 * k0; omega, by show 0 + 0 ≤ 101 * k0; omega⟩ (fun r_3 u_4 H locs q_2 hP hD hS => ?_)
  rcases q_2 with ⟨rfl, rfl, f_5⟩ | ⟨rfl, rfl, f_6⟩
  · show _
    have hP : va_P (dC, dI) vwCl (cW g ty pl ac ft md Z P) H := hP
    have hD : va_D A (cW g ty pl ac ft md Z P) := hD
    refine lv_if_eq (tgt := 30) hx hb dX11_makeRow_10 (by decide) (fun c9 => absurd c9 (by decide)) (fun _ => ?_)
    refine lv_aload_n hx hb dX11_makeRow_13 rfl (lv_at hl 1 rfl) ?_
    refine lv_iload_n hx hb dX11_makeRow_14 rfl (lv_at hl 2 rfl) ?_
    refine cV_i (C := RX11) (n := 1) (rest := []) hx hb hml hown hg hT (c_X11_isPlace l dC dI g ty H.size pl ac ft md Z P a0 ) (cv_of hg wM_X11_248 wN_X11_isPlace wL_X11_X11_isPlace wK_X11_isPlace wI_X11 (by decide +kernel) ⟨Nat.le_of_ble_eq_true rfl, Nat.le_of_ble_eq_true rfl⟩) hK hP hD hS hA (va_recv hK hP (ci := 13) (q0 := 0) rfl rfl) rfl hl.1 rfl (Nat.le_of_ble_eq_true rfl) dX11_makeRow_15 ⟨by show 0 + 0 + 0 ≤ 18 * k0; omega, by show 0 + 0 + 0 ≤ 101 * k0; omega⟩ (fun r_8 u_9 H locs q_7 hP hD hS => ?_)
    rcases q_7 with ⟨rfl, rfl, f_10⟩ | ⟨rfl, rfl, f_11⟩
    · show _
      have hP : va_P (dC, dI) vwCl (cW g ty pl ac ft md Z P) H := hP
      have hD : va_D A (cW g ty pl ac ft md Z P) := hD
      refine lv_if_eq (tgt := 30) hx hb dX11_makeRow_18 (by decide) (fun c9 => absurd c9 (by decide)) (fun _ => ?_)
      refine lv_aload_n hx hb dX11_makeRow_21 rfl (lv_at hl 1 rfl) ?_
      refine lv_iload hx hb dX11_makeRow_22 (lv_at hl 0 rfl) ?_
      refine cV_i (C := RX11) (n := 1) (rest := []) hx hb hml hown hg hT (c_X11_isSize l dC dI g ty H.size pl ac ft md Z P m_1 ) (cv_of hg wM_X11_265 wN_X11_isSize wL_X11_X11_isSize wK_X11_isSize wI_X11 (by decide +kernel) ⟨Nat.le_of_ble_eq_true rfl, Nat.le_of_ble_eq_true rfl⟩) hK hP hD hS hA (va_recv hK hP (ci := 13) (q0 := 0) rfl rfl) rfl hl.1 rfl (Nat.le_of_ble_eq_true rfl) dX11_makeRow_24 ⟨by show 0 + 0 + 0 + 0 ≤ 18 * k0; omega, by show 0 + 0 + 0 + 0 ≤ 101 * k0; omega⟩ (fun r_13 u_14 H locs q_12 hP hD hS => ?_)
      rcases q_12 with ⟨rfl, rfl, f_15⟩ | ⟨rfl, rfl, f_16⟩
      · show _
        have hP : va_P (dC, dI) vwCl (cW g ty pl ac ft md Z P) H := hP
        have hD : va_D A (cW g ty pl ac ft md Z P) := hD
        refine lv_if_ne (tgt := 32) hx hb dX11_makeRow_27 (by decide) (fun _ => ?_) (fun c9 => absurd c9 (by decide)) 
        refine lv_aload_n hx hb dX11_makeRow_32 rfl (lv_at hl 1 rfl) ?_
        refine lv_iload_n hx hb dX11_makeRow_33 rfl (lv_at hl 2 rfl) ?_
        have hk1 : 1 ≤ k0 := pre0 (by assumption) (by assumption) (by rw [← em_1]; assumption)
        have hn9 : m_1.toNatClampNeg < 100 := by rw [em_1]; exact rem_lt100 (by rw [← em_1]; assumption)
        refine va_new (ci := 10) (fs := [.int 0, .null]) (C := RX7) (T := TX7) (N := 2) hx hb hg inG7 tyX7 tyX7_ok hown (hg _ wC_X11_268) (hg _ wT_X7) (hg _ wI_X7) hK hP hD hS hA rfl (fun j hj => by rcases (show j = 0 ∨ j = 1 by omega) with rfl | rfl <;> rfl) (by show 0 + 0 + 0 + 0 + 1 ≤ 18 * k0; omega) (by show 0 + 0 + 0 + 0 + 2 ≤ 101 * k0; omega) dX11_makeRow_34 (fun n_17 H hP hD hS => ?_)
        refine lv_dup hx hb dX11_makeRow_37 rfl ?_
        refine lv_iload_n hx hb dX11_makeRow_38 rfl (lv_at hl 3 rfl) ?_
        refine lv_bipush (v := 7) hx hb dX11_makeRow_39 (by decide) ?_
        refine lv_iand hx hb dX11_makeRow_41 ?_
        refine lv_iload hx hb dX11_makeRow_42 (lv_at hl 0 rfl) ?_
        have hdD : va_D A ((cW g ty pl ac ft md Z P) ++ [(n_17, .inr (10, [.int 0, .null]))] : va_W) := hD
        refine cN_v (n := 2) (rest := [.ref n_17, .int a0, .ref (g 0)]) hx hb hml hown hg hT (c_X7_init l dC dI (cTy ty) ((cW g ty pl ac ft md Z P) ++ [(n_17, .inr (10, [.int 0, .null]))] : va_W) H.size n_17 (b0 &&& 7) m_1  (m_1.toNatClampNeg) (ty 2) 2 rfl (by first | assumption | exact nlt_of (by assumption)) rfl (by first | assumption | exact nlt_of (by assumption)) (cW g ty pl ac ft md Z P).length (lget_last _ _)) (cb_of hg wM_X11_270 wK_X7_init wI_X7 (by decide +kernel) ⟨Nat.le_of_ble_eq_true rfl, Nat.le_of_ble_eq_true rfl⟩) rfl wN_X7_init hK hP hD hS hA rfl hl.1 rfl (Nat.le_of_ble_eq_true rfl) dX11_makeRow_44 ⟨by show 0 + 0 + 0 + 0 + 1 + 1 ≤ 18 * k0; omega, by show 0 + 0 + 0 + 0 + 2 + m_1.toNatClampNeg ≤ 101 * k0; omega⟩ (fun y_18 H locs _ hP hD hS => ?_)
        obtain ⟨nq_n_17, ny_n_17, ne_n_17, hP, hD⟩ := cn_row (X := cX g ty pl ac ft md Z) hP hD
        have hP : va_P (dC, dI) vwCl (cW g ty pl ac ft md Z (pRow P n_17 y_18 (b0 &&& 7) (m_1.toNatClampNeg))) H := hP
        have hD : va_D A (cW g ty pl ac ft md Z (pRow P n_17 y_18 (b0 &&& 7) (m_1.toNatClampNeg))) := hD
        refine cV_v (C := RX11) (n := 2) (rest := []) hx hb hml hown hg hT (c_X11_putNew l dC dI g ty H.size pl ac ft md Z (pRow P n_17 y_18 (b0 &&& 7) (m_1.toNatClampNeg)) a0 n_17 (by assumption) (cn_in (y := y_18) (v := (b0 &&& 7)) (N := m_1.toNatClampNeg) nq_n_17).1 (by rw [(cn_in nq_n_17).2 ne_n_17]; decide)) (cv_of hg wM_X11_272 wN_X11_putNew wL_X11_X11_putNew wK_X11_putNew wI_X11 (by decide +kernel) ⟨Nat.le_of_ble_eq_true rfl, Nat.le_of_ble_eq_true rfl⟩) hK hP hD hS hA (va_recv hK hP (ci := 13) (q0 := 0) rfl rfl) rfl hl.1 rfl (Nat.le_of_ble_eq_true rfl) dX11_makeRow_47 ⟨by show 0 + 0 + 0 + 0 + 1 + 1 + 0 ≤ 18 * k0; omega, by show 0 + 0 + 0 + 0 + 2 + m_1.toNatClampNeg + 0 ≤ 101 * k0; omega⟩ (fun u_21 H locs q_19 hP hD hS => ?_)
        obtain rfl := q_19
        have hP : va_P (dC, dI) vwCl (cW g ty (va_up pl a0.toNatClampNeg (some n_17)) ac ft (md + 1) Z (pRow P n_17 y_18 (b0 &&& 7) (m_1.toNatClampNeg))) H := hP
        have hD : va_D A (cW g ty (va_up pl a0.toNatClampNeg (some n_17)) ac ft (md + 1) Z (pRow P n_17 y_18 (b0 &&& 7) (m_1.toNatClampNeg))) := hD
        refine lv_iload hx hb dX11_makeRow_50 (lv_at hl 0 rfl) ?_
        refine lv_i2l (v := (m_1.toInt64)) hx hb dX11_makeRow_52 rfl ?_
        refine W.widen (k := 18 * k0) (n := 101 * k0) (by show 0 + 0 + 0 + 0 + 1 + 1 + 0 ≤ 18 * k0; omega) (by show 0 + 0 + 0 + 0 + 2 + m_1.toNatClampNeg + 0 ≤ 101 * k0; omega) ?_
        subst em_1
        refine cr_l (wo := fun u : (Nat → Option Nat) × Int32 × Int32 × cQ => cW g ty u.1 ac u.2.1 u.2.2.1 Z u.2.2.2) ((va_up pl a0.toNatClampNeg (some n_17), ft, (md + 1), (pRow P n_17 y_18 (b0 &&& 7) ((c0 - c0 / 100 * 100).toNatClampNeg)))) hx hb hr hlk hS hP hD ?_ dX11_makeRow_53
        exact Or.inr (Or.inr (Or.inr ⟨_, _, rfl, rfl, (by first | assumption | exact nlt_of (by assumption)), (by first | assumption | exact nlt_of (by assumption)), (by first | assumption | exact nlt_of (by assumption)), (by first | assumption | exact nlt_of (by assumption)), (by first | assumption | exact nlt_of (by assumption)), (by first | assumption | exact nlt_of (by assumption))⟩))
      · show _
        have hP : va_P (dC, dI) vwCl (cW g ty pl ac 4 md Z P) H := hP
        have hD : va_D A (cW g ty pl ac 4 md Z P) := hD
        refine lv_if_ne (tgt := 32) hx hb dX11_makeRow_27 (by decide) (fun c9 => absurd (by decide) c9) (fun _ => ?_)
        refine lv_lconst (v := 0) hx hb dX11_makeRow_30 (by decide) ?_
        refine W.widen (k := 18 * k0) (n := 101 * k0) (by show 0 + 0 + 0 + 0 ≤ 18 * k0; omega) (by show 0 + 0 + 0 + 0 ≤ 101 * k0; omega) ?_
        subst em_1
        refine cr_l (wo := fun u : (Nat → Option Nat) × Int32 × Int32 × cQ => cW g ty u.1 ac u.2.1 u.2.2.1 Z u.2.2.2) ((pl, 4, md, P)) hx hb hr hlk hS hP hD ?_ dX11_makeRow_31
        exact Or.inr (Or.inr (Or.inl ⟨rfl, rfl, (by first | assumption | exact nlt_of (by assumption)), (by first | assumption | exact nlt_of (by assumption)), (by first | assumption | exact nlt_of (by assumption))⟩))
    · show _
      have hP : va_P (dC, dI) vwCl (cW g ty pl ac 2 md Z P) H := hP
      have hD : va_D A (cW g ty pl ac 2 md Z P) := hD
      refine lv_if_eq (tgt := 30) hx hb dX11_makeRow_18 (by decide) (fun _ => ?_) (fun c9 => absurd (by decide) c9) 
      refine lv_lconst (v := 0) hx hb dX11_makeRow_30 (by decide) ?_
      refine W.widen (k := 18 * k0) (n := 101 * k0) (by show 0 + 0 + 0 ≤ 18 * k0; omega) (by show 0 + 0 + 0 ≤ 101 * k0; omega) ?_
      subst em_1
      refine cr_l (wo := fun u : (Nat → Option Nat) × Int32 × Int32 × cQ => cW g ty u.1 ac u.2.1 u.2.2.1 Z u.2.2.2) ((pl, 2, md, P)) hx hb hr hlk hS hP hD ?_ dX11_makeRow_31
      exact Or.inr (Or.inl ⟨rfl, rfl, (by first | assumption | exact nlt_of (by assumption)), (by first | assumption | exact nlt_of (by assumption))⟩)
  · show _
    have hP : va_P (dC, dI) vwCl (cW g ty pl ac 6 md Z P) H := hP
    have hD : va_D A (cW g ty pl ac 6 md Z P) := hD
    refine lv_if_eq (tgt := 30) hx hb dX11_makeRow_10 (by decide) (fun _ => ?_) (fun c9 => absurd (by decide) c9) 
    refine lv_lconst (v := 0) hx hb dX11_makeRow_30 (by decide) ?_
    refine W.widen (k := 18 * k0) (n := 101 * k0) (by show 0 + 0 ≤ 18 * k0; omega) (by show 0 + 0 ≤ 101 * k0; omega) ?_
    subst em_1
    refine cr_l (wo := fun u : (Nat → Option Nat) × Int32 × Int32 × cQ => cW g ty u.1 ac u.2.1 u.2.2.1 Z u.2.2.2) ((pl, 6, md, P)) hx hb hr hlk hS hP hD ?_ dX11_makeRow_31
    exact Or.inl ⟨rfl, rfl, (by first | assumption | exact nlt_of (by assumption))⟩
set_option maxHeartbeats 800000 in
set_option maxRecDepth 100000 in
theorem c_X11_makeLetter (l : Launch) (dC : Nat → ClassId) (dI : Nat → Nat → Nat) (g : Nat → Nat) (ty : Nat → ClassId) (sz : Nat) (pl : Nat → Option Nat) (ac : Int64) (ft : Int32) (md : Int32) (Z : cZ) (P : cQ) (k0 : Nat) (a0 : Int32) (b0 : Int32) (pre0 : md < 6000 → vp_in a0 32 → 1 ≤ k0) : Met l yX11_makeLetter (Cond.code yX11_makeLetter cX11_makeLetter 4 (some .long) :: gT) ({ frames := 6, cells := 18 * k0, slots := 101 * k0, locals := 143 }) (cP (dC, dI) (cTy ty) (cW g ty pl ac ft md Z P) sz [.ref (g 0), .int a0, .int b0]) (va_Ql (fun (rz : Int64) (u : (Nat → Option Nat) × Int32 × Int32 × cQ) => (0 = rz ∧ (pl, 6, md, P) = u ∧ ¬ md < 6000) ∨ (0 = rz ∧ (pl, 2, md, P) = u ∧ md < 6000 ∧ ¬ vp_in a0 32) ∨ (∃ (q : Nat) (z : Int32), 0 = rz ∧ (va_up pl a0.toNatClampNeg (some q), ft, (md + 1), pBox P q 4 z 0) = u ∧ md < 6000 ∧ vp_in a0 32 ∧ q ∉ P.1 ∧ z = if b0 = -2147483648 then 0 else (if 0 ≤ b0 then b0 else 0 - b0) - (if 0 ≤ b0 then b0 else 0 - b0) / 7 * 7)) (cB (dC, dI) (fun u : (Nat → Option Nat) × Int32 × Int32 × cQ => cW g ty u.1 ac u.2.1 u.2.2.1 Z u.2.2.2) (va_A (cW g ty pl ac ft md Z P) sz)) (va_A (cW g ty pl ac ft md Z P) sz)) (18 * k0) (101 * k0) (va_A (cW g ty pl ac ft md Z P) sz) := by
  refine cc_of (Qa := fun A => va_Ql (fun (rz : Int64) (u : (Nat → Option Nat) × Int32 × Int32 × cQ) => (0 = rz ∧ (pl, 6, md, P) = u ∧ ¬ md < 6000) ∨ (0 = rz ∧ (pl, 2, md, P) = u ∧ md < 6000 ∧ ¬ vp_in a0 32) ∨ (∃ (q : Nat) (z : Int32), 0 = rz ∧ (va_up pl a0.toNatClampNeg (some q), ft, (md + 1), pBox P q 4 z 0) = u ∧ md < 6000 ∧ vp_in a0 32 ∧ q ∉ P.1 ∧ z = if b0 = -2147483648 then 0 else (if 0 ≤ b0 then b0 else 0 - b0) - (if 0 ≤ b0 then b0 else 0 - b0) / 7 * 7)) (cB (dC, dI) (fun u : (Nat → Option Nat) × Int32 × Int32 × cQ => cW g ty u.1 ac u.2.1 u.2.2.1 Z u.2.2.2) A) A) (by decide) (Nat.le_of_ble_eq_true rfl) ?_
  intro p e s m below meth c A hx hb hr hml hown hg hlk hmn hP hK hD hT hS hA hsz ls hl
  have hown : s.vm.findClass RX11 = some m.cls := hown
  have hl : lv_has ls 4 [(0, .ref (g 0)), (1, .int a0), (2, .int b0)] := hl
  refine lv_aload_n hx hb dX11_makeLetter_0 rfl (lv_at hl 0 rfl) ?_
  refine cV_i (C := RX11) (n := 0) (rest := []) hx hb hml hown hg hT (c_X11_mayMake l dC dI g ty s.heap.size pl ac ft md Z P  ) (cv_of hg wM_X11_262 wN_X11_mayMake wL_X11_X11_mayMake wK_X11_mayMake wI_X11 (by decide +kernel) ⟨Nat.le_of_ble_eq_true rfl, Nat.le_of_ble_eq_true rfl⟩) hK hP hD hS hA (va_recv hK hP (ci := 13) (q0 := 0) rfl rfl) rfl hl.1 rfl (Nat.le_of_ble_eq_true rfl) dX11_makeLetter_1 ⟨by show 0 + 0 ≤ 18 * k0; omega, by show 0 + 0 ≤ 101 * k0; omega⟩ (fun r_2 u_3 H locs q_1 hP hD hS => ?_)
  rcases q_1 with ⟨rfl, rfl, f_4⟩ | ⟨rfl, rfl, f_5⟩
  · show _
    have hP : va_P (dC, dI) vwCl (cW g ty pl ac ft md Z P) H := hP
    have hD : va_D A (cW g ty pl ac ft md Z P) := hD
    refine lv_if_eq (tgt := 47) hx hb dX11_makeLetter_4 (by decide) (fun c9 => absurd c9 (by decide)) (fun _ => ?_)
    refine lv_aload_n hx hb dX11_makeLetter_7 rfl (lv_at hl 0 rfl) ?_
    refine lv_iload_n hx hb dX11_makeLetter_8 rfl (lv_at hl 1 rfl) ?_
    refine cV_i (C := RX11) (n := 1) (rest := []) hx hb hml hown hg hT (c_X11_isPlace l dC dI g ty H.size pl ac ft md Z P a0 ) (cv_of hg wM_X11_248 wN_X11_isPlace wL_X11_X11_isPlace wK_X11_isPlace wI_X11 (by decide +kernel) ⟨Nat.le_of_ble_eq_true rfl, Nat.le_of_ble_eq_true rfl⟩) hK hP hD hS hA (va_recv hK hP (ci := 13) (q0 := 0) rfl rfl) rfl hl.1 rfl (Nat.le_of_ble_eq_true rfl) dX11_makeLetter_9 ⟨by show 0 + 0 + 0 ≤ 18 * k0; omega, by show 0 + 0 + 0 ≤ 101 * k0; omega⟩ (fun r_7 u_8 H locs q_6 hP hD hS => ?_)
    rcases q_6 with ⟨rfl, rfl, f_9⟩ | ⟨rfl, rfl, f_10⟩
    · show _
      have hP : va_P (dC, dI) vwCl (cW g ty pl ac ft md Z P) H := hP
      have hD : va_D A (cW g ty pl ac ft md Z P) := hD
      refine lv_if_eq (tgt := 47) hx hb dX11_makeLetter_12 (by decide) (fun c9 => absurd c9 (by decide)) (fun _ => ?_)
      refine lv_iload_n hx hb dX11_makeLetter_15 rfl (lv_at hl 2 rfl) ?_
      refine lv_ldcw (v := (-2147483648)) hx hb hown (hg _ wQ_X11_319) dX11_makeLetter_16 ?_
      refine lv_icmp_ne (tgt := 26) hx hb dX11_makeLetter_19 (by decide) (fun c_11 => ?_) (fun c_11 => ?_)
      · show _
        refine lv_iload_n hx hb dX11_makeLetter_26 rfl (lv_at hl 2 rfl) ?_
        refine va_mabs hx hb (by rw [hml]; exact hl.1.symm) hown (hg _ wM_X11_320) (hg _ wS_J9_abs) (hg _ wI_J9) (hg _ wK_J9_abs) (Nat.le_of_ble_eq_true rfl) (Nat.le_of_ble_eq_true rfl) (by show 0 + 0 + 0 ≤ 18 * k0; omega) (by show 0 + 0 + 0 ≤ 101 * k0; omega) dX11_makeLetter_27 ?_
        refine lv_bipush (v := 7) hx hb dX11_makeLetter_30 (by decide) ?_
        refine lv_irem hx hb dX11_makeLetter_32 (by decide) ?_
        refine lv_topi (fun m_12 em_12 => ?_)
        refine lv_istore_n (lv' := [(3, .int m_12), (0, .ref (g 0)), (1, .int a0), (2, .int b0)]) hx hb dX11_makeLetter_33 rfl hl (by decide) rfl (fun ls hl => ?_)
        refine lv_aload_n hx hb dX11_makeLetter_34 rfl (lv_at hl 1 rfl) ?_
        refine lv_iload_n hx hb dX11_makeLetter_35 rfl (lv_at hl 2 rfl) ?_
        have hk1 : 1 ≤ k0 := pre0 (by assumption) (by assumption)
        refine va_new (ci := 9) (fs := [.int 0]) (C := RX5) (T := TX5) (N := 1) hx hb hg inG5 tyX5 tyX5_ok hown (hg _ wC_X11_323) (hg _ wT_X5) (hg _ wI_X5) hK hP hD hS hA rfl (fun j hj => by rcases (show j = 0 by omega) with rfl <;> rfl) (by show 0 + 0 + 0 + 1 ≤ 18 * k0; omega) (by show 0 + 0 + 0 + 1 ≤ 101 * k0; omega) dX11_makeLetter_36 (fun n_13 H hP hD hS => ?_)
        refine lv_dup hx hb dX11_makeLetter_39 rfl ?_
        refine lv_iload_n hx hb dX11_makeLetter_40 rfl (lv_at hl 0 rfl) ?_
        have hdD : va_D A ((cW g ty pl ac ft md Z P) ++ [(n_13, .inr (9, [.int 0]))] : va_W) := hD
        refine cN_v (n := 1) (rest := [.ref n_13, .int a0, .ref (g 0)]) hx hb hml hown hg hT (c_X5_init l dC dI (cTy ty) ((cW g ty pl ac ft md Z P) ++ [(n_13, .inr (9, [.int 0]))] : va_W) H.size n_13 m_12 (cW g ty pl ac ft md Z P).length (lget_last _ _)) (cb_of hg wM_X11_325 wK_X5_init wI_X5 (by decide +kernel) ⟨Nat.le_of_ble_eq_true rfl, Nat.le_of_ble_eq_true rfl⟩) rfl wN_X5_init hK hP hD hS hA rfl hl.1 rfl (Nat.le_of_ble_eq_true rfl) dX11_makeLetter_41 ⟨by show 0 + 0 + 0 + 1 + 0 ≤ 18 * k0; omega, by show 0 + 0 + 0 + 1 + 0 ≤ 101 * k0; omega⟩ (fun y_14 H locs _ hP hD hS => ?_)
        obtain ⟨nq_n_13, hP, hD⟩ := cn_box (X := cX g ty pl ac ft md Z) (k := 4) (v := m_12) (w := 0) (by simp [cpf, va_up_self, va_rf]) hP hD
        have hP : va_P (dC, dI) vwCl (cW g ty pl ac ft md Z (pBox P n_13 4 m_12 0)) H := hP
        have hD : va_D A (cW g ty pl ac ft md Z (pBox P n_13 4 m_12 0)) := hD
        refine cV_v (C := RX11) (n := 2) (rest := []) hx hb hml hown hg hT (c_X11_putNew l dC dI g ty H.size pl ac ft md Z (pBox P n_13 4 m_12 0) a0 n_13 (by assumption) (cn_inB (P := P) (q := n_13) (k := 4) (v := m_12) (w := 0)).1 (by rw [cn_inB.2]; decide)) (cv_of hg wM_X11_272 wN_X11_putNew wL_X11_X11_putNew wK_X11_putNew wI_X11 (by decide +kernel) ⟨Nat.le_of_ble_eq_true rfl, Nat.le_of_ble_eq_true rfl⟩) hK hP hD hS hA (va_recv hK hP (ci := 13) (q0 := 0) rfl rfl) rfl hl.1 rfl (Nat.le_of_ble_eq_true rfl) dX11_makeLetter_44 ⟨by show 0 + 0 + 0 + 1 + 0 + 0 ≤ 18 * k0; omega, by show 0 + 0 + 0 + 1 + 0 + 0 ≤ 101 * k0; omega⟩ (fun u_17 H locs q_15 hP hD hS => ?_)
        obtain rfl := q_15
        have hP : va_P (dC, dI) vwCl (cW g ty (va_up pl a0.toNatClampNeg (some n_13)) ac ft (md + 1) Z (pBox P n_13 4 m_12 0)) H := hP
        have hD : va_D A (cW g ty (va_up pl a0.toNatClampNeg (some n_13)) ac ft (md + 1) Z (pBox P n_13 4 m_12 0)) := hD
        refine lv_lconst (v := 0) hx hb dX11_makeLetter_47 (by decide) ?_
        refine W.widen (k := 18 * k0) (n := 101 * k0) (by show 0 + 0 + 0 + 1 + 0 + 0 ≤ 18 * k0; omega) (by show 0 + 0 + 0 + 1 + 0 + 0 ≤ 101 * k0; omega) ?_
        subst em_12
        refine cr_l (wo := fun u : (Nat → Option Nat) × Int32 × Int32 × cQ => cW g ty u.1 ac u.2.1 u.2.2.1 Z u.2.2.2) ((va_up pl a0.toNatClampNeg (some n_13), ft, (md + 1), (pBox P n_13 4 ((if 0 ≤ b0 then b0 else 0 - b0) - (if 0 ≤ b0 then b0 else 0 - b0) / 7 * 7) 0))) hx hb hr hlk hS hP hD ?_ dX11_makeLetter_48
        exact Or.inr (Or.inr ⟨_, _, rfl, rfl, (by first | assumption | (simp [*]; done)), (by first | assumption | (simp [*]; done)), (by first | assumption | (simp [*]; done)), (by first | assumption | (simp [*]; done))⟩)
      · show _
        refine lv_iconst (v := 0) hx hb dX11_makeLetter_22 (by decide) ?_
        refine lv_goto (tgt := 33) hx hb dX11_makeLetter_23 (by decide) ?_
        refine lv_istore_n (lv' := [(3, .int 0), (0, .ref (g 0)), (1, .int a0), (2, .int b0)]) hx hb dX11_makeLetter_33 rfl hl (by decide) rfl (fun ls hl => ?_)
        refine lv_aload_n hx hb dX11_makeLetter_34 rfl (lv_at hl 1 rfl) ?_
        refine lv_iload_n hx hb dX11_makeLetter_35 rfl (lv_at hl 2 rfl) ?_
        have hk1 : 1 ≤ k0 := pre0 (by assumption) (by assumption)
        refine va_new (ci := 9) (fs := [.int 0]) (C := RX5) (T := TX5) (N := 1) hx hb hg inG5 tyX5 tyX5_ok hown (hg _ wC_X11_323) (hg _ wT_X5) (hg _ wI_X5) hK hP hD hS hA rfl (fun j hj => by rcases (show j = 0 by omega) with rfl <;> rfl) (by show 0 + 0 + 0 + 1 ≤ 18 * k0; omega) (by show 0 + 0 + 0 + 1 ≤ 101 * k0; omega) dX11_makeLetter_36 (fun n_18 H hP hD hS => ?_)
        refine lv_dup hx hb dX11_makeLetter_39 rfl ?_
        refine lv_iload_n hx hb dX11_makeLetter_40 rfl (lv_at hl 0 rfl) ?_
        have hdD : va_D A ((cW g ty pl ac ft md Z P) ++ [(n_18, .inr (9, [.int 0]))] : va_W) := hD
        refine cN_v (n := 1) (rest := [.ref n_18, .int a0, .ref (g 0)]) hx hb hml hown hg hT (c_X5_init l dC dI (cTy ty) ((cW g ty pl ac ft md Z P) ++ [(n_18, .inr (9, [.int 0]))] : va_W) H.size n_18 0 (cW g ty pl ac ft md Z P).length (lget_last _ _)) (cb_of hg wM_X11_325 wK_X5_init wI_X5 (by decide +kernel) ⟨Nat.le_of_ble_eq_true rfl, Nat.le_of_ble_eq_true rfl⟩) rfl wN_X5_init hK hP hD hS hA rfl hl.1 rfl (Nat.le_of_ble_eq_true rfl) dX11_makeLetter_41 ⟨by show 0 + 0 + 0 + 1 + 0 ≤ 18 * k0; omega, by show 0 + 0 + 0 + 1 + 0 ≤ 101 * k0; omega⟩ (fun y_19 H locs _ hP hD hS => ?_)
        obtain ⟨nq_n_18, hP, hD⟩ := cn_box (X := cX g ty pl ac ft md Z) (k := 4) (v := 0) (w := 0) (by simp [cpf, va_up_self, va_rf]) hP hD
        have hP : va_P (dC, dI) vwCl (cW g ty pl ac ft md Z (pBox P n_18 4 0 0)) H := hP
        have hD : va_D A (cW g ty pl ac ft md Z (pBox P n_18 4 0 0)) := hD
        refine cV_v (C := RX11) (n := 2) (rest := []) hx hb hml hown hg hT (c_X11_putNew l dC dI g ty H.size pl ac ft md Z (pBox P n_18 4 0 0) a0 n_18 (by assumption) (cn_inB (P := P) (q := n_18) (k := 4) (v := 0) (w := 0)).1 (by rw [cn_inB.2]; decide)) (cv_of hg wM_X11_272 wN_X11_putNew wL_X11_X11_putNew wK_X11_putNew wI_X11 (by decide +kernel) ⟨Nat.le_of_ble_eq_true rfl, Nat.le_of_ble_eq_true rfl⟩) hK hP hD hS hA (va_recv hK hP (ci := 13) (q0 := 0) rfl rfl) rfl hl.1 rfl (Nat.le_of_ble_eq_true rfl) dX11_makeLetter_44 ⟨by show 0 + 0 + 0 + 1 + 0 + 0 ≤ 18 * k0; omega, by show 0 + 0 + 0 + 1 + 0 + 0 ≤ 101 * k0; omega⟩ (fun u_22 H locs q_20 hP hD hS => ?_)
        obtain rfl := q_20
        have hP : va_P (dC, dI) vwCl (cW g ty (va_up pl a0.toNatClampNeg (some n_18)) ac ft (md + 1) Z (pBox P n_18 4 0 0)) H := hP
        have hD : va_D A (cW g ty (va_up pl a0.toNatClampNeg (some n_18)) ac ft (md + 1) Z (pBox P n_18 4 0 0)) := hD
        refine lv_lconst (v := 0) hx hb dX11_makeLetter_47 (by decide) ?_
        refine W.widen (k := 18 * k0) (n := 101 * k0) (by show 0 + 0 + 0 + 1 + 0 + 0 ≤ 18 * k0; omega) (by show 0 + 0 + 0 + 1 + 0 + 0 ≤ 101 * k0; omega) ?_
        refine cr_l (wo := fun u : (Nat → Option Nat) × Int32 × Int32 × cQ => cW g ty u.1 ac u.2.1 u.2.2.1 Z u.2.2.2) ((va_up pl a0.toNatClampNeg (some n_18), ft, (md + 1), (pBox P n_18 4 0 0))) hx hb hr hlk hS hP hD ?_ dX11_makeLetter_48
        exact Or.inr (Or.inr ⟨_, _, rfl, rfl, (by first | assumption | (simp [*]; done)), (by first | assumption | (simp [*]; done)), (by first | assumption | (simp [*]; done)), (by first | assumption | (simp [*]; done))⟩)
    · show _
      have hP : va_P (dC, dI) vwCl (cW g ty pl ac 2 md Z P) H := hP
      have hD : va_D A (cW g ty pl ac 2 md Z P) := hD
      refine lv_if_eq (tgt := 47) hx hb dX11_makeLetter_12 (by decide) (fun _ => ?_) (fun c9 => absurd (by decide) c9) 
      refine lv_lconst (v := 0) hx hb dX11_makeLetter_47 (by decide) ?_
      refine W.widen (k := 18 * k0) (n := 101 * k0) (by show 0 + 0 + 0 ≤ 18 * k0; omega) (by show 0 + 0 + 0 ≤ 101 * k0; omega) ?_
      refine cr_l (wo := fun u : (Nat → Option Nat) × Int32 × Int32 × cQ => cW g ty u.1 ac u.2.1 u.2.2.1 Z u.2.2.2) ((pl, 2, md, P)) hx hb hr hlk hS hP hD ?_ dX11_makeLetter_48
      exact Or.inr (Or.inl ⟨rfl, rfl, (by first | assumption | exact nlt_of (by assumption)), (by first | assumption | exact nlt_of (by assumption))⟩)
  · show _
    have hP : va_P (dC, dI) vwCl (cW g ty pl ac 6 md Z P) H := hP
    have hD : va_D A (cW g ty pl ac 6 md Z P) := hD
    refine lv_if_eq (tgt := 47) hx hb dX11_makeLetter_4 (by decide) (fun _ => ?_) (fun c9 => absurd (by decide) c9) 
    refine lv_lconst (v := 0) hx hb dX11_makeLetter_47 (by decide) ?_
    refine W.widen (k := 18 * k0) (n := 101 * k0) (by show 0 + 0 ≤ 18 * k0; omega) (by show 0 + 0 ≤ 101 * k0; omega) ?_
    refine cr_l (wo := fun u : (Nat → Option Nat) × Int32 × Int32 × cQ => cW g ty u.1 ac u.2.1 u.2.2.1 Z u.2.2.2) ((pl, 6, md, P)) hx hb hr hlk hS hP hD ?_ dX11_makeLetter_48
    exact Or.inl ⟨rfl, rfl, (by first | assumption | exact nlt_of (by assumption))⟩

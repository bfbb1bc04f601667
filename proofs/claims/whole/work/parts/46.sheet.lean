/-- n rows of W ints made one behind the other, and put into the shelf's cells y -/
def cSh (y W : Nat) : Nat → cQ → cQ → Prop
  | 0, P0, P1 => P1 = P0
  | n + 1, P0, P1 => ∃ (P2 : cQ) (r a : Nat), cSh y W n P0 P2 ∧ r ∉ P2.1 ∧ a ∉ P2.1 ∧ a ≠ r ∧ P1 = pRc (pRow P2 r a 0 W) y (va_up ((pRow P2 r a 0 W).2.2.2.2.2.2.2 y) n (some r))
theorem rem_lt9 {x : Int32} (h : 0 ≤ x - x / 9 * 9) : (x - x / 9 * 9).toNatClampNeg < 9 := rem_lt (by decide) (by decide) h
theorem clamp_le {k n : Int32} (h0 : ¬ k < 0) (h : k ≤ n) : k.toNatClampNeg ≤ n.toNatClampNeg := by
  show k.toInt.toNat ≤ n.toInt.toNat
  rw [Int32.le_iff_toInt_le] at h
  omega
theorem k1_le {k n : Int32} (h : ¬ n ≤ k) : k + 1 ≤ n := by
  rw [Int32.le_iff_toInt_le, up1_toInt h]
  rw [Int32.le_iff_toInt_le] at h
  omega
theorem pr_old {P : cQ} {q y b N : Nat} {v : Int32} (hq : q ∉ P.1) (hy : y ∉ P.1) (hb : b ∈ P.1) : b ∈ (pRow P q y v N).1 ∧ (pRow P q y v N).2.1 b = P.2.1 b ∧ (pRow P q y v N).2.2.1 b = P.2.2.1 b ∧ (pRow P q y v N).2.2.2.1 b = P.2.2.2.1 b ∧ (pRow P q y v N).2.2.2.2.1 b = P.2.2.2.2.1 b ∧ (pRow P q y v N).2.2.2.2.2.1 b = P.2.2.2.2.2.1 b ∧ (pRow P q y v N).2.2.2.2.2.2.2 b = P.2.2.2.2.2.2.2 b := by
  have n1 : b ≠ q := fun e => hq (e ▸ hb)
  have n2 : b ≠ y := fun e => hy (e ▸ hb)
  have z : ∀ {α : Type} (f : Nat → α) (u u' : α), va_up (va_up f q u) y u' b = f b := fun f u u' => by rw [va_up_ne _ _ n2, va_up_ne _ _ n1]
  exact ⟨List.mem_append_left _ (List.mem_append_left _ hb), z _ _ _, z _ _ _, z _ _ _, z _ _ _, z _ _ _, z _ _ _⟩
theorem sh_vp {k n : Int32} {L : Nat} (h0 : ¬ k < 0) (h : ¬ n ≤ k) (hL : L = n.toNatClampNeg) : vp_in k L := by
  have a := k1_lt h0 h
  have b := clampI h0
  rw [vp_in_iff, hL]; omega
theorem ps_new {P : cQ} {q y N : Nat} {v w : Int32} (hq : q ∉ P.1) (hyq : y ≠ q) : q ∈ (pShelf P q y v w N).1 ∧ (pShelf P q y v w N).2.1 q = 6 ∧ (pShelf P q y v w N).2.2.2.2.1 q = some y ∧ (pShelf P q y v w N).2.2.1 q = v ∧ (pShelf P q y v w N).2.2.2.1 q = w ∧ (pShelf P q y v w N).2.2.2.2.2.1 y = N := by
  have n : q ≠ y := fun e => hyq e.symm
  have z : ∀ {α : Type} (f : Nat → α) (u u' : α), va_up (va_up f q u) y u' q = u := fun f u u' => by rw [va_up_ne _ _ n, va_up_self]
  exact ⟨by simp, z _ _ _, z _ _ _, z _ _ _, z _ _ _, va_up_self _ _ _⟩
section CSheet
variable {pl : Nat → Option Nat} {P1 B : cQ} {q y r a W N : Nat} {k n : Int32}
theorem sh_step (h0 : ¬ k < 0) (h : ¬ n ≤ k) (hs : cSh y W k.toNatClampNeg B P1) (hr : r ∉ P1.1) (ha : a ∉ P1.1) (hn : a ≠ r) : cSh y W (k + 1).toNatClampNeg B (pRc (pRow P1 r a 0 W) y (va_up ((pRow P1 r a 0 W).2.2.2.2.2.2.2 y) k.toNatClampNeg (some r))) := by
  rw [up1_clamp h0 h]
  exact ⟨P1, r, a, hs, hr, ha, hn, rfl⟩
theorem sh_wf {m : Nat} (wf : cWF pl P1) (h4 : q ∈ P1.1 ∧ P1.2.1 q = 6 ∧ P1.2.2.2.2.1 q = some y ∧ P1.2.2.1 q = 8 ∧ P1.2.2.2.1 q = 0 ∧ P1.2.2.2.2.2.1 y = N) (hr : r ∉ P1.1) (ha : a ∉ P1.1) (hn : a ≠ r) (hW : W < 100) : cWF pl (pRc (pRow P1 r a 0 W) y (va_up ((pRow P1 r a 0 W).2.2.2.2.2.2.2 y) m (some r))) := by
  obtain ⟨q1, q2, q3, q4, q5, q6⟩ := h4
  have w2 := wf_row (v := 0) wf hr ha hn hW ⟨0, by decide, rfl⟩
  have o := pr_old (v := 0) (N := W) hr ha q1
  have rin := cn_in (y := a) (v := 0) (N := W) hr
  have rv : (pRow P1 r a 0 W).2.2.1 r = 0 := by
    show va_up (va_up P1.2.2.1 r 0) a 0 r = 0
    rw [va_up_ne _ _ (fun e => hn e.symm), va_up_self]
  generalize hP2 : pRow P1 r a 0 W = P2 at w2 o rin rv ⊢
  have k6 : P2.2.1 q = 6 := o.2.1.trans q2
  have ny : P2.2.2.2.2.1 q = some y := o.2.2.2.2.1.trans q3
  have w0 : P2.2.2.2.1 q = 0 := o.2.2.2.1.trans q5
  refine wf_rcS w2 o.1 k6 ny (fun j t h => ?_)
  by_cases hj : j = m
  · subst hj; rw [va_up_self] at h; cases h
    refine ⟨rin.1, by rw [rin.2 hn]; decide, ?_⟩
    rw [rin.2 hn, rv, w0]; decide
  · rw [va_up_ne _ _ hj] at h
    have ya := wf_arr w2 o.1 k6 ny
    have z := w2.2.2.2.2.1 y j t ya.1 ya.2 h
    exact ⟨z.1, z.2, w2.2.2.2.2.2.2.2.2.1 q y j t o.1 k6 ny h⟩
theorem sh_J4 {m : Nat} (wf : cWF pl P1) (h4 : q ∈ P1.1 ∧ P1.2.1 q = 6 ∧ P1.2.2.2.2.1 q = some y ∧ P1.2.2.1 q = 8 ∧ P1.2.2.2.1 q = 0 ∧ P1.2.2.2.2.2.1 y = N) (hr : r ∉ P1.1) (ha : a ∉ P1.1) : q ∈ (pRc (pRow P1 r a 0 W) y (va_up ((pRow P1 r a 0 W).2.2.2.2.2.2.2 y) m (some r))).1 ∧ (pRc (pRow P1 r a 0 W) y (va_up ((pRow P1 r a 0 W).2.2.2.2.2.2.2 y) m (some r))).2.1 q = 6 ∧ (pRc (pRow P1 r a 0 W) y (va_up ((pRow P1 r a 0 W).2.2.2.2.2.2.2 y) m (some r))).2.2.2.2.1 q = some y ∧ (pRc (pRow P1 r a 0 W) y (va_up ((pRow P1 r a 0 W).2.2.2.2.2.2.2 y) m (some r))).2.2.1 q = 8 ∧ (pRc (pRow P1 r a 0 W) y (va_up ((pRow P1 r a 0 W).2.2.2.2.2.2.2 y) m (some r))).2.2.2.1 q = 0 ∧ (pRc (pRow P1 r a 0 W) y (va_up ((pRow P1 r a 0 W).2.2.2.2.2.2.2 y) m (some r))).2.2.2.2.2.1 y = N := by
  obtain ⟨q1, q2, q3, q4, q5, q6⟩ := h4
  have o := pr_old (v := 0) (N := W) hr ha q1
  have oy := pr_old (v := 0) (N := W) hr ha (wf_arr wf q1 q2 q3).1
  exact ⟨o.1, o.2.1.trans q2, o.2.2.2.2.1.trans q3, o.2.2.1.trans q4, o.2.2.2.1.trans q5, oy.2.2.2.2.2.1.trans q6⟩
theorem sh_end {P9 : cQ} (h0 : ¬ k < 0) (h1 : k ≤ n) (h : n ≤ k) (hs : cSh y W k.toNatClampNeg B P9) : cSh y W n.toNatClampNeg B P9 := by
  have e : k = n := Int32.toInt_inj.mp (by rw [Int32.le_iff_toInt_le] at h h1; omega)
  rw [← e]; exact hs
end CSheet
set_option maxHeartbeats 800000 in
set_option maxRecDepth 100000 in
theorem c_X11_makeSheet (l : Launch) (dC : Nat → ClassId) (dI : Nat → Nat → Nat) (g : Nat → Nat) (ty : Nat → ClassId) (sz : Nat) (pl : Nat → Option Nat) (ac : Int64) (ft : Int32) (md : Int32) (Z : cZ) (P : cQ) (k0 : Nat) (a0 : Int32) (b0 : Int32) (c0 : Int32) (wf : cWF pl P) (pre0 : md < 6000 → vp_in a0 32 → 0 ≤ (b0 - b0 / 9 * 9) → 0 ≤ (c0 - c0 / 9 * 9) → 1 ≤ k0) : Met l yX11_makeSheet (Cond.code yX11_makeSheet cX11_makeSheet 8 (some .long) :: gT) ({ frames := 6, cells := 18 * k0, slots := 101 * k0, locals := 143 }) (cP (dC, dI) (cTy ty) (cW g ty pl ac ft md Z P) sz [.ref (g 0), .int a0, .int b0, .int c0]) (va_Ql (fun (rz : Int64) (u : (Nat → Option Nat) × Int32 × Int32 × cQ) => (0 = rz ∧ (pl, 6, md, P) = u ∧ ¬ md < 6000) ∨ (0 = rz ∧ (pl, 2, md, P) = u ∧ md < 6000 ∧ ¬ vp_in a0 32) ∨ (0 = rz ∧ (pl, 4, md, P) = u ∧ md < 6000 ∧ vp_in a0 32 ∧ ¬ 0 ≤ (b0 - b0 / 9 * 9)) ∨ (0 = rz ∧ (pl, 4, md, P) = u ∧ md < 6000 ∧ vp_in a0 32 ∧ 0 ≤ (b0 - b0 / 9 * 9) ∧ ¬ 0 ≤ (c0 - c0 / 9 * 9)) ∨ (∃ (q y : Nat) (P9 : cQ), 0 = rz ∧ (va_up pl a0.toNatClampNeg (some q), ft, (md + 1), P9) = u ∧ md < 6000 ∧ vp_in a0 32 ∧ 0 ≤ (b0 - b0 / 9 * 9) ∧ 0 ≤ (c0 - c0 / 9 * 9) ∧ q ∉ P.1 ∧ y ∉ P.1 ∧ y ≠ q ∧ cSh y (c0 - c0 / 9 * 9).toNatClampNeg (b0 - b0 / 9 * 9).toNatClampNeg (pShelf P q y 8 0 (b0 - b0 / 9 * 9).toNatClampNeg) P9)) (cB (dC, dI) (fun u : (Nat → Option Nat) × Int32 × Int32 × cQ => cW g ty u.1 ac u.2.1 u.2.2.1 Z u.2.2.2) (va_A (cW g ty pl ac ft md Z P) sz)) (va_A (cW g ty pl ac ft md Z P) sz)) (18 * k0) (101 * k0) (va_A (cW g ty pl ac ft md Z P) sz) := by
  refine cc_of (Qa := fun A => va_Ql (fun (rz : Int64) (u : (Nat → Option Nat) × Int32 × Int32 × cQ) => (0 = rz ∧ (pl, 6, md, P) = u ∧ ¬ md < 6000) ∨ (0 = rz ∧ (pl, 2, md, P) = u ∧ md < 6000 ∧ ¬ vp_in a0 32) ∨ (0 = rz ∧ (pl, 4, md, P) = u ∧ md < 6000 ∧ vp_in a0 32 ∧ ¬ 0 ≤ (b0 - b0 / 9 * 9)) ∨ (0 = rz ∧ (pl, 4, md, P) = u ∧ md < 6000 ∧ vp_in a0 32 ∧ 0 ≤ (b0 - b0 / 9 * 9) ∧ ¬ 0 ≤ (c0 - c0 / 9 * 9)) ∨ (∃ (q y : Nat) (P9 : cQ), 0 = rz ∧ (va_up pl a0.toNatClampNeg (some q), ft, (md + 1), P9) = u ∧ md < 6000 ∧ vp_in a0 32 ∧ 0 ≤ (b0 - b0 / 9 * 9) ∧ 0 ≤ (c0 - c0 / 9 * 9) ∧ q ∉ P.1 ∧ y ∉ P.1 ∧ y ≠ q ∧ cSh y (c0 - c0 / 9 * 9).toNatClampNeg (b0 - b0 / 9 * 9).toNatClampNeg (pShelf P q y 8 0 (b0 - b0 / 9 * 9).toNatClampNeg) P9)) (cB (dC, dI) (fun u : (Nat → Option Nat) × Int32 × Int32 × cQ => cW g ty u.1 ac u.2.1 u.2.2.1 Z u.2.2.2) A) A) (by decide) (Nat.le_of_ble_eq_true rfl) ?_
  intro p e s m below meth c A hx hb hr hml hown hg hlk hmn hP hK hD hT hS hA hsz ls hl
  have hown : s.vm.findClass RX11 = some m.cls := hown
  have hl : lv_has ls 8 [(0, .ref (g 0)), (1, .int a0), (2, .int b0), (3, .int c0)] := hl
  refine lv_iload_n hx hb dX11_makeSheet_0 rfl (lv_at hl 2 rfl) ?_
  refine lv_bipush (v := 9) hx hb dX11_makeSheet_1 (by decide) ?_
  refine lv_irem hx hb dX11_makeSheet_3 (by decide) ?_
  refine lv_topi (fun m_1 em_1 => ?_)
  refine lv_istore (lv' := [(4, .int m_1), (0, .ref (g 0)), (1, .int a0), (2, .int b0), (3, .int c0)]) hx hb dX11_makeSheet_4 hl (by decide) rfl (fun ls hl => ?_)
  refine lv_iload_n hx hb dX11_makeSheet_6 rfl (lv_at hl 4 rfl) ?_
  refine lv_bipush (v := 9) hx hb dX11_makeSheet_7 (by decide) ?_
  refine lv_irem hx hb dX11_makeSheet_9 (by decide) ?_
  refine lv_topi (fun m_2 em_2 => ?_)
  refine lv_istore (lv' := [(5, .int m_2), (4, .int m_1), (0, .ref (g 0)), (1, .int a0), (2, .int b0), (3, .int c0)]) hx hb dX11_makeSheet_10 hl (by decide) rfl (fun ls hl => ?_)
  refine lv_aload_n hx hb dX11_makeSheet_12 rfl (lv_at hl 2 rfl) ?_
  refine cV_i (C := RX11) (n := 0) (rest := []) hx hb hml hown hg hT (c_X11_mayMake l dC dI g ty s.heap.size pl ac ft md Z P  ) (cv_of hg wM_X11_262 wN_X11_mayMake wL_X11_X11_mayMake wK_X11_mayMake wI_X11 (by decide +kernel) ⟨Nat.le_of_ble_eq_true rfl, Nat.le_of_ble_eq_true rfl⟩) hK hP hD hS hA (va_recv hK hP (ci := 13) (q0 := 0) rfl rfl) rfl hl.1 rfl (Nat.le_of_ble_eq_true rfl) dX11_makeSheet_13 ⟨by show 0 + 0 ≤ 18 * k0; omega, by show 0 + 0 ≤ 101 * k0; omega⟩ (fun r_4 u_5 H locs q_3 hP hD hS => ?_)
  rcases q_3 with ⟨rfl, rfl, f_6⟩ | ⟨rfl, rfl, f_7⟩
  · show _
    have hP : va_P (dC, dI) vwCl (cW g ty pl ac ft md Z P) H := hP
    have hD : va_D A (cW g ty pl ac ft md Z P) := hD
    refine lv_if_eq (tgt := 45) hx hb dX11_makeSheet_16 (by decide) (fun c9 => absurd c9 (by decide)) (fun _ => ?_)
    refine lv_aload_n hx hb dX11_makeSheet_19 rfl (lv_at hl 2 rfl) ?_
    refine lv_iload_n hx hb dX11_makeSheet_20 rfl (lv_at hl 3 rfl) ?_
    refine cV_i (C := RX11) (n := 1) (rest := []) hx hb hml hown hg hT (c_X11_isPlace l dC dI g ty H.size pl ac ft md Z P a0 ) (cv_of hg wM_X11_248 wN_X11_isPlace wL_X11_X11_isPlace wK_X11_isPlace wI_X11 (by decide +kernel) ⟨Nat.le_of_ble_eq_true rfl, Nat.le_of_ble_eq_true rfl⟩) hK hP hD hS hA (va_recv hK hP (ci := 13) (q0 := 0) rfl rfl) rfl hl.1 rfl (Nat.le_of_ble_eq_true rfl) dX11_makeSheet_21 ⟨by show 0 + 0 + 0 ≤ 18 * k0; omega, by show 0 + 0 + 0 ≤ 101 * k0; omega⟩ (fun r_9 u_10 H locs q_8 hP hD hS => ?_)
    rcases q_8 with ⟨rfl, rfl, f_11⟩ | ⟨rfl, rfl, f_12⟩
    · show _
      have hP : va_P (dC, dI) vwCl (cW g ty pl ac ft md Z P) H := hP
      have hD : va_D A (cW g ty pl ac ft md Z P) := hD
      refine lv_if_eq (tgt := 45) hx hb dX11_makeSheet_24 (by decide) (fun c9 => absurd c9 (by decide)) (fun _ => ?_)
      refine lv_aload_n hx hb dX11_makeSheet_27 rfl (lv_at hl 2 rfl) ?_
      refine lv_iload hx hb dX11_makeSheet_28 (lv_at hl 1 rfl) ?_
      refine cV_i (C := RX11) (n := 1) (rest := []) hx hb hml hown hg hT (c_X11_isSize l dC dI g ty H.size pl ac ft md Z P m_1 ) (cv_of hg wM_X11_265 wN_X11_isSize wL_X11_X11_isSize wK_X11_isSize wI_X11 (by decide +kernel) ⟨Nat.le_of_ble_eq_true rfl, Nat.le_of_ble_eq_true rfl⟩) hK hP hD hS hA (va_recv hK hP (ci := 13) (q0 := 0) rfl rfl) rfl hl.1 rfl (Nat.le_of_ble_eq_true rfl) dX11_makeSheet_30 ⟨by show 0 + 0 + 0 + 0 ≤ 18 * k0; omega, by show 0 + 0 + 0 + 0 ≤ 101 * k0; omega⟩ (fun r_14 u_15 H locs q_13 hP hD hS => ?_)
      rcases q_13 with ⟨rfl, rfl, f_16⟩ | ⟨rfl, rfl, f_17⟩
      · show _
        have hP : va_P (dC, dI) vwCl (cW g ty pl ac ft md Z P) H := hP
        have hD : va_D A (cW g ty pl ac ft md Z P) := hD
        refine lv_if_eq (tgt := 45) hx hb dX11_makeSheet_33 (by decide) (fun c9 => absurd c9 (by decide)) (fun _ => ?_)
        refine lv_aload_n hx hb dX11_makeSheet_36 rfl (lv_at hl 2 rfl) ?_
        refine lv_iload hx hb dX11_makeSheet_37 (lv_at hl 0 rfl) ?_
        refine cV_i (C := RX11) (n := 1) (rest := []) hx hb hml hown hg hT (c_X11_isSize l dC dI g ty H.size pl ac ft md Z P m_2 ) (cv_of hg wM_X11_265 wN_X11_isSize wL_X11_X11_isSize wK_X11_isSize wI_X11 (by decide +kernel) ⟨Nat.le_of_ble_eq_true rfl, Nat.le_of_ble_eq_true rfl⟩) hK hP hD hS hA (va_recv hK hP (ci := 13) (q0 := 0) rfl rfl) rfl hl.1 rfl (Nat.le_of_ble_eq_true rfl) dX11_makeSheet_39 ⟨by show 0 + 0 + 0 + 0 + 0 ≤ 18 * k0; omega, by show 0 + 0 + 0 + 0 + 0 ≤ 101 * k0; omega⟩ (fun r_19 u_20 H locs q_18 hP hD hS => ?_)
        rcases q_18 with ⟨rfl, rfl, f_21⟩ | ⟨rfl, rfl, f_22⟩
        · show _
          have hP : va_P (dC, dI) vwCl (cW g ty pl ac ft md Z P) H := hP
          have hD : va_D A (cW g ty pl ac ft md Z P) := hD
          refine lv_if_ne (tgt := 47) hx hb dX11_makeSheet_42 (by decide) (fun _ => ?_) (fun c9 => absurd c9 (by decide)) 
          have hk1 : 1 ≤ k0 := pre0 (by assumption) (by assumption) (by rw [← em_1]; assumption) (by rw [← em_2]; assumption)
          have hn1 : m_1.toNatClampNeg < 9 := by rw [em_1]; exact rem_lt9 (by rw [← em_1]; assumption)
          have hn2 : m_2.toNatClampNeg < 9 := by rw [em_2]; exact rem_lt9 (by rw [← em_2]; assumption)
          refine va_new (ci := 11) (fs := [.int 0, .int 0, .null]) (C := RX8) (T := TX8) (N := 3) hx hb hg inG8 tyX8 tyX8_ok hown (hg _ wC_X11_291) (hg _ wT_X8) (hg _ wI_X8) hK hP hD hS hA rfl (fun j hj => by rcases (show j = 0 ∨ j = 1 ∨ j = 2 by omega) with rfl | rfl | rfl <;> rfl) (by show 0 + 0 + 0 + 0 + 0 + 1 ≤ 18 * k0; omega) (by show 0 + 0 + 0 + 0 + 0 + 3 ≤ 101 * k0; omega) dX11_makeSheet_47 (fun n_23 H hP hD hS => ?_)
          refine lv_dup hx hb dX11_makeSheet_50 rfl ?_
          refine lv_bipush (v := 8) hx hb dX11_makeSheet_51 (by decide) ?_
          refine lv_iconst (v := 0) hx hb dX11_makeSheet_53 (by decide) ?_
          refine lv_iload hx hb dX11_makeSheet_54 (lv_at hl 1 rfl) ?_
          have hdD : va_D A ((cW g ty pl ac ft md Z P) ++ [(n_23, .inr (11, [.int 0, .int 0, .null]))] : va_W) := hD
          refine cN_v (n := 3) (rest := [.ref n_23]) hx hb hml hown hg hT (c_X8_init l dC dI (cTy ty) ((cW g ty pl ac ft md Z P) ++ [(n_23, .inr (11, [.int 0, .int 0, .null]))] : va_W) H.size n_23 8 0 m_1  (m_1.toNatClampNeg) (ty 1) 1 rfl (by first | assumption | exact Nat.lt_trans hn1 (by decide) | exact Nat.lt_trans hn2 (by decide) | exact nlt_of (by assumption)) rfl (by first | assumption | exact Nat.lt_trans hn1 (by decide) | exact Nat.lt_trans hn2 (by decide) | exact nlt_of (by assumption)) (cW g ty pl ac ft md Z P).length (lget_last _ _)) (cb_of hg wM_X11_293 wK_X8_init wI_X8 (by decide +kernel) ⟨Nat.le_of_ble_eq_true rfl, Nat.le_of_ble_eq_true rfl⟩) rfl wN_X8_init hK hP hD hS hA rfl hl.1 rfl (Nat.le_of_ble_eq_true rfl) dX11_makeSheet_56 ⟨by show 0 + 0 + 0 + 0 + 0 + 1 + 1 ≤ 18 * k0; omega, by show 0 + 0 + 0 + 0 + 0 + 3 + m_1.toNatClampNeg ≤ 101 * k0; omega⟩ (fun y_24 H locs _ hP hD hS => ?_)
          obtain ⟨nq_n_23, ny_n_23, ne_n_23, hP, hD⟩ := cn_shelf (X := cX g ty pl ac ft md Z) hP hD
          have hP : va_P (dC, dI) vwCl (cW g ty pl ac ft md Z (pShelf P n_23 y_24 8 0 (m_1.toNatClampNeg))) H := hP
          have hD : va_D A (cW g ty pl ac ft md Z (pShelf P n_23 y_24 8 0 (m_1.toNatClampNeg))) := hD
          refine lv_astore (lv' := [(6, .ref n_23), (5, .int m_2), (4, .int m_1), (0, .ref (g 0)), (1, .int a0), (2, .int b0), (3, .int c0)]) hx hb dX11_makeSheet_59 hl (by decide) rfl (fun ls hl => ?_)
          refine lv_iconst (v := 0) hx hb dX11_makeSheet_61 (by decide) ?_
          refine lv_istore (lv' := [(7, .int 0), (6, .ref n_23), (5, .int m_2), (4, .int m_1), (0, .ref (g 0)), (1, .int a0), (2, .int b0), (3, .int c0)]) hx hb dX11_makeSheet_62 hl (by decide) rfl (fun ls hl => ?_)
          have wfS := wf_shelf wf nq_n_23 ny_n_23 ne_n_23 (Nat.lt_trans hn1 (by decide)) (v := 8) (w := 0) (Or.inl ⟨rfl, rfl⟩)
          have LOOP : ∀ (N : Nat) (k1 : Int32) (P1 : cQ) (H : Heap) (locs : List Loc) (ls : Array Slot), m_1.toNatClampNeg - k1.toNatClampNeg = N → (¬ k1 < 0) → (k1 ≤ m_1) → (cSh y_24 m_2.toNatClampNeg k1.toNatClampNeg (pShelf P n_23 y_24 8 0 m_1.toNatClampNeg) P1) → (cWF pl P1) → (n_23 ∈ P1.1 ∧ P1.2.1 n_23 = 6 ∧ P1.2.2.2.2.1 n_23 = some y_24 ∧ P1.2.2.1 n_23 = 8 ∧ P1.2.2.2.1 n_23 = 0 ∧ P1.2.2.2.2.2.1 y_24 = m_1.toNatClampNeg) → va_P (dC, dI) vwCl (cW g ty pl ac ft md Z P1) H → va_D A (cW g ty pl ac ft md Z P1) → va_S A s.heap H locs → lv_has ls 8 [(7, .int k1), (0, .ref (g 0)), (1, .int a0), (4, .int m_1), (5, .int m_2), (6, .ref n_23)] → W p l e ({ frames := 6, cells := 18 * k0, slots := 101 * k0, locals := 143 }) s m ([.ref (g 0), .int a0, .int b0, .int c0]).toArray below meth c H locs (2 + 2 * k1.toNatClampNeg) (11 + 10 * k1.toNatClampNeg) (MQ below (va_Ql (fun (rz : Int64) (u : (Nat → Option Nat) × Int32 × Int32 × cQ) => (0 = rz ∧ (pl, 6, md, P) = u ∧ ¬ md < 6000) ∨ (0 = rz ∧ (pl, 2, md, P) = u ∧ md < 6000 ∧ ¬ vp_in a0 32) ∨ (0 = rz ∧ (pl, 4, md, P) = u ∧ md < 6000 ∧ vp_in a0 32 ∧ ¬ 0 ≤ (b0 - b0 / 9 * 9)) ∨ (0 = rz ∧ (pl, 4, md, P) = u ∧ md < 6000 ∧ vp_in a0 32 ∧ 0 ≤ (b0 - b0 / 9 * 9) ∧ ¬ 0 ≤ (c0 - c0 / 9 * 9)) ∨ (∃ (q y : Nat) (P9 : cQ), 0 = rz ∧ (va_up pl a0.toNatClampNeg (some q), ft, (md + 1), P9) = u ∧ md < 6000 ∧ vp_in a0 32 ∧ 0 ≤ (b0 - b0 / 9 * 9) ∧ 0 ≤ (c0 - c0 / 9 * 9) ∧ q ∉ P.1 ∧ y ∉ P.1 ∧ y ≠ q ∧ cSh y (c0 - c0 / 9 * 9).toNatClampNeg (b0 - b0 / 9 * 9).toNatClampNeg (pShelf P q y 8 0 (b0 - b0 / 9 * 9).toNatClampNeg) P9)) (cB (dC, dI) (fun u : (Nat → Option Nat) × Int32 × Int32 × cQ => cW g ty u.1 ac u.2.1 u.2.2.1 Z u.2.2.2) A) A) ([.ref (g 0), .int a0, .int b0, .int c0]).toArray s (18 * k0) (101 * k0) A) (F0 m 64 ls []) := by
            intro N
            induction N using Nat.strongRecOn with
            | _ N IH =>
              intro k1 P1 H locs ls hN J0 J1 J2 J3 J4 hP hD hS hl
              have wf := J3
              have hk8 : k1.toNatClampNeg ≤ m_1.toNatClampNeg := clamp_le J0 J1
              refine lv_iload hx hb dX11_makeSheet_64 (lv_at hl 0 rfl) ?_
              refine lv_iload hx hb dX11_makeSheet_66 (lv_at hl 3 rfl) ?_
              refine lv_icmp_ge (tgt := 95) hx hb dX11_makeSheet_68 (by decide) (fun c_25 => ?_) (fun c_25 => ?_)
              · show _
                refine lv_aload_n hx hb dX11_makeSheet_95 rfl (lv_at hl 1 rfl) ?_
                refine lv_iload_n hx hb dX11_makeSheet_96 rfl (lv_at hl 2 rfl) ?_
                refine lv_aload hx hb dX11_makeSheet_97 (lv_at hl 5 rfl) ?_
                refine cV_v (C := RX11) (n := 2) (rest := []) hx hb hml hown hg hT (c_X11_putNew l dC dI g ty H.size pl ac ft md Z P1 a0 n_23 (by assumption) J4.1 (by rw [J4.2.1]; decide)) (cv_of hg wM_X11_272 wN_X11_putNew wL_X11_X11_putNew wK_X11_putNew wI_X11 (by decide +kernel) ⟨Nat.le_of_ble_eq_true rfl, Nat.le_of_ble_eq_true rfl⟩) hK hP hD hS hA (va_recv hK hP (ci := 13) (q0 := 0) rfl rfl) rfl hl.1 rfl (Nat.le_of_ble_eq_true rfl) dX11_makeSheet_99 ⟨by show 2 + 2 * k1.toNatClampNeg + 0 ≤ 18 * k0; omega, by show 11 + 10 * k1.toNatClampNeg + 0 ≤ 101 * k0; omega⟩ (fun u_28 H locs q_26 hP hD hS => ?_)
                obtain rfl := q_26
                have hP : va_P (dC, dI) vwCl (cW g ty (va_up pl a0.toNatClampNeg (some n_23)) ac ft (md + 1) Z P1) H := hP
                have hD : va_D A (cW g ty (va_up pl a0.toNatClampNeg (some n_23)) ac ft (md + 1) Z P1) := hD
                refine lv_lconst (v := 0) hx hb dX11_makeSheet_102 (by decide) ?_
                refine W.widen (k := 18 * k0) (n := 101 * k0) (by show 2 + 2 * k1.toNatClampNeg + 0 ≤ 18 * k0; omega) (by show 11 + 10 * k1.toNatClampNeg + 0 ≤ 101 * k0; omega) ?_
                have hPz := hP
                have hDz := hD
                subst em_1
                subst em_2
                refine cr_l (wo := fun u : (Nat → Option Nat) × Int32 × Int32 × cQ => cW g ty u.1 ac u.2.1 u.2.2.1 Z u.2.2.2) ((va_up pl a0.toNatClampNeg (some n_23), ft, (md + 1), P1)) hx hb hr hlk hS hPz hDz ?_ dX11_makeSheet_103
                exact Or.inr (Or.inr (Or.inr (Or.inr ⟨_, _, _, rfl, rfl, (by first | assumption | exact sh_end J0 J1 (by assumption) J2), (by first | assumption | exact sh_end J0 J1 (by assumption) J2), (by first | assumption | exact sh_end J0 J1 (by assumption) J2), (by first | assumption | exact sh_end J0 J1 (by assumption) J2), (by first | assumption | exact sh_end J0 J1 (by assumption) J2), (by first | assumption | exact sh_end J0 J1 (by assumption) J2), (by first | assumption | exact sh_end J0 J1 (by assumption) J2), (by first | assumption | exact sh_end J0 J1 (by assumption) J2)⟩)))
              · show _
                refine lv_aload hx hb dX11_makeSheet_71 (lv_at hl 5 rfl) ?_
                obtain ⟨j_29, r_30, i_31, hj_29, hr_32, ri_33, rk_34, rl_35, hi_31⟩ := cg_shelf (X := cX g ty pl ac ft md Z) (ty := ty) wf J4.1 J4.2.1
                obtain rfl := Option.some.inj (J4.2.2.1.symm.trans hr_32)
                refine va_getN (D := (dC, dI)) (ci := 11) (v := .ref y_24) (C := RX8) (T := TX8) (N := 3) hx hb hg inG8 hown hK hP j_29 hj_29 rfl 2 (by decide) (va_Nw.use (A := _) rfl (hT.1 3 (by decide))) (fun _ h9 => h9) rfl dX11_makeSheet_73 ?_
                refine lv_iload hx hb dX11_makeSheet_76 (lv_at hl 0 rfl) ?_
                have hkl := k1_lt J0 (by assumption)
                refine va_new (ci := 10) (fs := [.int 0, .null]) (C := RX7) (T := TX7) (N := 2) hx hb hg inG7 tyX7 tyX7_ok hown (hg _ wC_X11_268) (hg _ wT_X7) (hg _ wI_X7) hK hP hD hS hA rfl (fun j hj => by rcases (show j = 0 ∨ j = 1 by omega) with rfl | rfl <;> rfl) (by show 2 + 2 * k1.toNatClampNeg + 1 ≤ 18 * k0; omega) (by show 11 + 10 * k1.toNatClampNeg + 2 ≤ 101 * k0; omega) dX11_makeSheet_78 (fun n_36 H hP hD hS => ?_)
                refine lv_dup hx hb dX11_makeSheet_81 rfl ?_
                refine lv_iconst (v := 0) hx hb dX11_makeSheet_82 (by decide) ?_
                refine lv_iload hx hb dX11_makeSheet_83 (lv_at hl 4 rfl) ?_
                have hdD : va_D A ((cW g ty pl ac ft md Z P1) ++ [(n_36, .inr (10, [.int 0, .null]))] : va_W) := hD
                refine cN_v (n := 2) (rest := [.ref n_36, .int k1, .ref y_24]) hx hb hml hown hg hT (c_X7_init l dC dI (cTy ty) ((cW g ty pl ac ft md Z P1) ++ [(n_36, .inr (10, [.int 0, .null]))] : va_W) H.size n_36 0 m_2  (m_2.toNatClampNeg) (ty 2) 2 rfl (by first | assumption | exact Nat.lt_trans hn1 (by decide) | exact Nat.lt_trans hn2 (by decide) | exact nlt_of (by assumption)) rfl (by first | assumption | exact Nat.lt_trans hn1 (by decide) | exact Nat.lt_trans hn2 (by decide) | exact nlt_of (by assumption)) (cW g ty pl ac ft md Z P1).length (lget_last _ _)) (cb_of hg wM_X11_270 wK_X7_init wI_X7 (by decide +kernel) ⟨Nat.le_of_ble_eq_true rfl, Nat.le_of_ble_eq_true rfl⟩) rfl wN_X7_init hK hP hD hS hA rfl hl.1 rfl (Nat.le_of_ble_eq_true rfl) dX11_makeSheet_85 ⟨by show 2 + 2 * k1.toNatClampNeg + 1 + 1 ≤ 18 * k0; omega, by show 11 + 10 * k1.toNatClampNeg + 2 + m_2.toNatClampNeg ≤ 101 * k0; omega⟩ (fun y_37 H locs _ hP hD hS => ?_)
                obtain ⟨nq_n_36, ny_n_36, ne_n_36, hP, hD⟩ := cn_row (X := cX g ty pl ac ft md Z) hP hD
                have hP : va_P (dC, dI) vwCl (cW g ty pl ac ft md Z (pRow P1 n_36 y_37 0 (m_2.toNatClampNeg))) H := hP
                have hD : va_D A (cW g ty pl ac ft md Z (pRow P1 n_36 y_37 0 (m_2.toNatClampNeg))) := hD
                have yo := pr_old (v := 0) (N := m_2.toNatClampNeg) nq_n_36 ny_n_36 (wf_arr J3 J4.1 J4.2.1 J4.2.2.1).1
                have yk := yo.2.1.trans (wf_arr J3 J4.1 J4.2.1 J4.2.2.1).2
                have hvi : vp_in k1 ((pRow P1 n_36 y_37 0 (m_2.toNatClampNeg)).2.2.2.2.2.1 y_24) := sh_vp J0 (by assumption) (yo.2.2.2.2.2.1.trans J4.2.2.2.2.2)
                obtain ⟨i_38, hi_38⟩ := cg_8 (X := cX g ty pl ac ft md Z) (ty := ty) yo.1 yk
                refine va_astqM hx hb hK hP hD hS i_38 1 hi_38 rfl (cI_any hT hK hP (cn_in (y := y_37) (v := 0) (N := m_2.toNatClampNeg) nq_n_36).1 (by rw [(cn_in nq_n_36).2 ne_n_36]; decide)) (by first | assumption | exact Nat.lt_trans hn1 (by decide) | exact Nat.lt_trans hn2 (by decide) | exact nlt_of (by assumption)) dX11_makeSheet_88 (fun H locs hP hD2 hS => ?_)
                rw [cs_8 hD yo.1 yk hi_38 _] at hP hD2
                have hD := hD2
                have hP : va_P (dC, dI) vwCl (cW g ty pl ac ft md Z (pRc (pRow P1 n_36 y_37 0 (m_2.toNatClampNeg)) y_24 (va_up ((pRow P1 n_36 y_37 0 (m_2.toNatClampNeg)).2.2.2.2.2.2.2 y_24) k1.toNatClampNeg (some n_36)))) H := hP
                have hD : va_D A (cW g ty pl ac ft md Z (pRc (pRow P1 n_36 y_37 0 (m_2.toNatClampNeg)) y_24 (va_up ((pRow P1 n_36 y_37 0 (m_2.toNatClampNeg)).2.2.2.2.2.2.2 y_24) k1.toNatClampNeg (some n_36)))) := hD
                refine lv_iinc (v := (k1 + 1)) (lv' := [(7, .int (k1 + 1)), (0, .ref (g 0)), (1, .int a0), (4, .int m_1), (5, .int m_2), (6, .ref n_23)]) hx hb dX11_makeSheet_89 hl (k := 0) rfl rfl (by decide) rfl (fun ls hl => ?_)
                refine lv_goto (tgt := 64) hx hb dX11_makeSheet_92 (by decide) ?_
                have hk9 := up1_clamp J0 (show ¬ m_1 ≤ k1 by assumption)
                refine W.widen (k := (2 + 2 * (k1 + 1).toNatClampNeg)) (n := (11 + 10 * (k1 + 1).toNatClampNeg)) (by show 2 + 2 * k1.toNatClampNeg + 1 + 1 ≤ (2 + 2 * (k1 + 1).toNatClampNeg); omega) (by show 11 + 10 * k1.toNatClampNeg + 2 + m_2.toNatClampNeg ≤ (11 + 10 * (k1 + 1).toNatClampNeg); omega) ?_
                exact IH _ (by exact hN ▸ th_dec J0 (by assumption)) (k1 + 1) (pRc (pRow P1 n_36 y_37 0 (m_2.toNatClampNeg)) y_24 (va_up ((pRow P1 n_36 y_37 0 (m_2.toNatClampNeg)).2.2.2.2.2.2.2 y_24) k1.toNatClampNeg (some n_36))) _ _ _ rfl (by exact k1_nn J0 (show ¬ m_1 ≤ k1 by assumption)) (by exact k1_le (by assumption)) (by exact sh_step J0 (show ¬ m_1 ≤ k1 by assumption) J2 (by assumption) (by assumption) (by assumption)) (by exact sh_wf J3 J4 (by assumption) (by assumption) (by assumption) (Nat.lt_trans hn2 (by decide))) (by exact sh_J4 J3 J4 (by assumption) (by assumption)) hP hD hS (lv_sub hl [0, 1, 2, 3, 4, 5] rfl)
          refine W.widen (k := (2 + 2 * (0 : Int32).toNatClampNeg)) (n := (11 + 10 * (0 : Int32).toNatClampNeg)) (by show 0 + 0 + 0 + 0 + 0 + 1 + 1 ≤ (2 + 2 * (0 : Int32).toNatClampNeg); omega) (by show 0 + 0 + 0 + 0 + 0 + 3 + m_1.toNatClampNeg ≤ (11 + 10 * (0 : Int32).toNatClampNeg); omega) ?_
          exact LOOP _ 0 (pShelf P n_23 y_24 8 0 (m_1.toNatClampNeg)) _ _ _ rfl (by decide) (by assumption) (by rfl) (by exact wfS) (by exact ps_new nq_n_23 ne_n_23) hP hD hS (lv_sub hl [0, 4, 5, 3, 2, 1] rfl)
        · show _
          have hP : va_P (dC, dI) vwCl (cW g ty pl ac 4 md Z P) H := hP
          have hD : va_D A (cW g ty pl ac 4 md Z P) := hD
          refine lv_if_ne (tgt := 47) hx hb dX11_makeSheet_42 (by decide) (fun c9 => absurd (by decide) c9) (fun _ => ?_)
          refine lv_lconst (v := 0) hx hb dX11_makeSheet_45 (by decide) ?_
          refine W.widen (k := 18 * k0) (n := 101 * k0) (by show 0 + 0 + 0 + 0 + 0 ≤ 18 * k0; omega) (by show 0 + 0 + 0 + 0 + 0 ≤ 101 * k0; omega) ?_
          subst em_1
          subst em_2
          refine cr_l (wo := fun u : (Nat → Option Nat) × Int32 × Int32 × cQ => cW g ty u.1 ac u.2.1 u.2.2.1 Z u.2.2.2) ((pl, 4, md, P)) hx hb hr hlk hS hP hD ?_ dX11_makeSheet_46
          first | exact Or.inr (Or.inr (Or.inl ⟨rfl, rfl, (by first | assumption | exact Nat.lt_trans hn1 (by decide) | exact Nat.lt_trans hn2 (by decide) | exact nlt_of (by assumption)), (by first | assumption | exact Nat.lt_trans hn1 (by decide) | exact Nat.lt_trans hn2 (by decide) | exact nlt_of (by assumption)), (by first | assumption | exact Nat.lt_trans hn1 (by decide) | exact Nat.lt_trans hn2 (by decide) | exact nlt_of (by assumption))⟩)) | exact Or.inr (Or.inr (Or.inr (Or.inl ⟨rfl, rfl, (by first | assumption | exact Nat.lt_trans hn1 (by decide) | exact Nat.lt_trans hn2 (by decide) | exact nlt_of (by assumption)), (by first | assumption | exact Nat.lt_trans hn1 (by decide) | exact Nat.lt_trans hn2 (by decide) | exact nlt_of (by assumption)), (by first | assumption | exact Nat.lt_trans hn1 (by decide) | exact Nat.lt_trans hn2 (by decide) | exact nlt_of (by assumption)), (by first | assumption | exact Nat.lt_trans hn1 (by decide) | exact Nat.lt_trans hn2 (by decide) | exact nlt_of (by assumption))⟩)))
      · show _
        have hP : va_P (dC, dI) vwCl (cW g ty pl ac 4 md Z P) H := hP
        have hD : va_D A (cW g ty pl ac 4 md Z P) := hD
        refine lv_if_eq (tgt := 45) hx hb dX11_makeSheet_33 (by decide) (fun _ => ?_) (fun c9 => absurd (by decide) c9) 
        refine lv_lconst (v := 0) hx hb dX11_makeSheet_45 (by decide) ?_
        refine W.widen (k := 18 * k0) (n := 101 * k0) (by show 0 + 0 + 0 + 0 ≤ 18 * k0; omega) (by show 0 + 0 + 0 + 0 ≤ 101 * k0; omega) ?_
        subst em_1
        subst em_2
        refine cr_l (wo := fun u : (Nat → Option Nat) × Int32 × Int32 × cQ => cW g ty u.1 ac u.2.1 u.2.2.1 Z u.2.2.2) ((pl, 4, md, P)) hx hb hr hlk hS hP hD ?_ dX11_makeSheet_46
        first | exact Or.inr (Or.inr (Or.inl ⟨rfl, rfl, (by first | assumption | exact Nat.lt_trans hn1 (by decide) | exact Nat.lt_trans hn2 (by decide) | exact nlt_of (by assumption)), (by first | assumption | exact Nat.lt_trans hn1 (by decide) | exact Nat.lt_trans hn2 (by decide) | exact nlt_of (by assumption)), (by first | assumption | exact Nat.lt_trans hn1 (by decide) | exact Nat.lt_trans hn2 (by decide) | exact nlt_of (by assumption))⟩)) | exact Or.inr (Or.inr (Or.inr (Or.inl ⟨rfl, rfl, (by first | assumption | exact Nat.lt_trans hn1 (by decide) | exact Nat.lt_trans hn2 (by decide) | exact nlt_of (by assumption)), (by first | assumption | exact Nat.lt_trans hn1 (by decide) | exact Nat.lt_trans hn2 (by decide) | exact nlt_of (by assumption)), (by first | assumption | exact Nat.lt_trans hn1 (by decide) | exact Nat.lt_trans hn2 (by decide) | exact nlt_of (by assumption)), (by first | assumption | exact Nat.lt_trans hn1 (by decide) | exact Nat.lt_trans hn2 (by decide) | exact nlt_of (by assumption))⟩)))
    · show _
      have hP : va_P (dC, dI) vwCl (cW g ty pl ac 2 md Z P) H := hP
      have hD : va_D A (cW g ty pl ac 2 md Z P) := hD
      refine lv_if_eq (tgt := 45) hx hb dX11_makeSheet_24 (by decide) (fun _ => ?_) (fun c9 => absurd (by decide) c9) 
      refine lv_lconst (v := 0) hx hb dX11_makeSheet_45 (by decide) ?_
      refine W.widen (k := 18 * k0) (n := 101 * k0) (by show 0 + 0 + 0 ≤ 18 * k0; omega) (by show 0 + 0 + 0 ≤ 101 * k0; omega) ?_
      subst em_1
      subst em_2
      refine cr_l (wo := fun u : (Nat → Option Nat) × Int32 × Int32 × cQ => cW g ty u.1 ac u.2.1 u.2.2.1 Z u.2.2.2) ((pl, 2, md, P)) hx hb hr hlk hS hP hD ?_ dX11_makeSheet_46
      exact Or.inr (Or.inl ⟨rfl, rfl, (by first | assumption | exact Nat.lt_trans hn1 (by decide) | exact Nat.lt_trans hn2 (by decide) | exact nlt_of (by assumption)), (by first | assumption | exact Nat.lt_trans hn1 (by decide) | exact Nat.lt_trans hn2 (by decide) | exact nlt_of (by assumption))⟩)
  · show _
    have hP : va_P (dC, dI) vwCl (cW g ty pl ac 6 md Z P) H := hP
    have hD : va_D A (cW g ty pl ac 6 md Z P) := hD
    refine lv_if_eq (tgt := 45) hx hb dX11_makeSheet_16 (by decide) (fun _ => ?_) (fun c9 => absurd (by decide) c9) 
    refine lv_lconst (v := 0) hx hb dX11_makeSheet_45 (by decide) ?_
    refine W.widen (k := 18 * k0) (n := 101 * k0) (by show 0 + 0 ≤ 18 * k0; omega) (by show 0 + 0 ≤ 101 * k0; omega) ?_
    subst em_1
    subst em_2
    refine cr_l (wo := fun u : (Nat → Option Nat) × Int32 × Int32 × cQ => cW g ty u.1 ac u.2.1 u.2.2.1 Z u.2.2.2) ((pl, 6, md, P)) hx hb hr hlk hS hP hD ?_ dX11_makeSheet_46
    exact Or.inl ⟨rfl, rfl, (by first | assumption | exact Nat.lt_trans hn1 (by decide) | exact Nat.lt_trans hn2 (by decide) | exact nlt_of (by assumption))⟩

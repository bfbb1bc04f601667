section RIs9
variable {n : Int32} {Y : rY} {pa : Nat → Int32} {ρ : Nat → Nat} {pl : Nat → Option Nat} {P : cQ} {x s0 : Int32} {t : Nat}
theorem is_1 (h : rR n Y pa ρ pl P) (wf : cWF pl P) (hx : vp_in x 32) (hs : vp_in s0 16) (hp : pl x.toNatClampNeg = some t) (hk : kOf (P.2.1 t) (P.2.2.1 t) s0 = true) : ¬ (if (pa x.toNatClampNeg) = 0 then 0 else rIs (Y.1 (pa x.toNatClampNeg).toNatClampNeg) s0) = 0 := by
  obtain ⟨a, b, c⟩ := rk_some h hx hp
  subst c
  rw [if_neg (i32_pos a).2.1, rk_is h wf a b hs, if_pos hk]
  decide
theorem is_0 (h : rR n Y pa ρ pl P) (wf : cWF pl P) (hx : vp_in x 32) (hs : vp_in s0 16) (hp : pl x.toNatClampNeg = some t) (hk : kOf (P.2.1 t) (P.2.2.1 t) s0 = false) : (if (pa x.toNatClampNeg) = 0 then 0 else rIs (Y.1 (pa x.toNatClampNeg).toNatClampNeg) s0) = 0 := by
  obtain ⟨a, b, c⟩ := rk_some h hx hp
  subst c
  rw [if_neg (i32_pos a).2.1, rk_is h wf a b hs, if_neg (by rw [hk]; decide)]
theorem is_n (hz : pa x.toNatClampNeg = 0) : (if (pa x.toNatClampNeg) = 0 then 0 else rIs (Y.1 (pa x.toNatClampNeg).toNatClampNeg) s0) = 0 := if_pos hz
end RIs9
theorem sr_6 {k : Nat} {v x y : Int32} (hx : x = rSt k v) (hk : k = 6) (hv : v = y) : x = y := by subst hk; exact hx.trans hv
theorem sr_6n {k : Nat} {v x : Int32} (hx : x = rSt k v) (hk : k = 6) (hv : x = 10) : v = 10 := by subst hk; exact hx.symm.trans hv
theorem sh_10 {pl : Nat → Option Nat} {P : cQ} {t x : Nat} (wf : cWF pl P) (hp : pl x = some t) (h : kOf (P.2.1 t) (P.2.2.1 t) 9 = true) (hv : P.2.2.1 t = 10) : P.2.2.2.1 t = 13 := by
  rcases (sh_rim wf hp h).2.2 rfl with ⟨a, _⟩ | ⟨_, b⟩
  · rw [hv] at a; exact absurd a (by decide)
  · exact b
theorem sh_9n {pl : Nat → Option Nat} {P : cQ} {t x q : Nat} (wf : cWF pl P) (hp : pl x = some t) (h : kOf (P.2.1 t) (P.2.2.1 t) 9 = true) (h1 : kOf (P.2.1 q) (P.2.2.1 q) 12 = true) (h2 : kOf (P.2.1 q) (P.2.2.1 q) (P.2.2.2.1 t) = false) : P.2.2.1 t = 10 ∧ P.2.2.2.1 t = 13 := by
  rcases (sh_rim wf hp h).2.2 rfl with ⟨_, b⟩ | q
  · rw [b, h1] at h2; cases h2
  · exact q
theorem sh_11 {pl : Nat → Option Nat} {P : cQ} {t x : Nat} (wf : cWF pl P) (hp : pl x = some t) (h : kOf (P.2.1 t) (P.2.2.1 t) 11 = true) : P.2.2.1 t = 11 := by
  obtain ⟨m1, m2⟩ := wf.1 _ _ hp
  have k6 := cIs_1 (ki_11 wf m1 m2 h)
  rw [k6] at h
  simp only [kOf, Bool.or_eq_true, Bool.and_eq_true, beq_iff_eq] at h
  rcases h with e | ⟨e, _⟩
  · exact e.symm
  · exact absurd e (by decide)
/-! division -/
theorem dv_q {x b : Int32} : (x.toInt64 / b.toInt64).toInt32 = x / b := by
  apply Int32.toInt_inj.mp
  rw [Int64.toInt_toInt32, Int64.toInt_div, Int32.toInt_toInt64, Int32.toInt_toInt64, Int32.toInt_div]
  exact Int.bmod_bmod_of_dvd (by decide)
theorem i32_m1 {b : Int32} (h : b = -1) : b.toInt = -1 := by rw [h]; decide
theorem dv_n {x b : Int32} (h : b = -1) : (-x.toInt64).toInt32 = x / b := by
  apply Int32.toInt_inj.mp
  rw [Int64.toInt_toInt32, Int64.toInt_neg, Int32.toInt_toInt64, Int32.toInt_div, i32_m1 h, Int.tdiv_neg, Int.tdiv_one]
  exact Int.bmod_bmod_of_dvd (by decide)
theorem dv_L {x : Int64} {b : Int32} (h : b = -1) : -x = x / b.toInt64 := by
  apply Int64.toInt_inj.mp
  rw [Int64.toInt_neg, Int64.toInt_div, Int32.toInt_toInt64, i32_m1 h, Int.tdiv_neg, Int.tdiv_one]
theorem rm_32 (a b : Int32) : (a - a / b * b).toInt = a.toInt.tmod b.toInt := by
  rw [Int32.toInt_sub, Int32.toInt_mul, Int32.toInt_div]
  rw [Int.bmod_mul_bmod, Int.sub_bmod_bmod]
  rw [show a.toInt - a.toInt.tdiv b.toInt * b.toInt = a.toInt.tmod b.toInt by rw [Int.tmod_def, Int.mul_comm]]
  have h1 := a.toInt_lt
  have h2 := a.le_toInt
  have h3 : (a.toInt.tmod b.toInt).natAbs ≤ a.toInt.natAbs := by rw [Int.natAbs_tmod]; exact Nat.mod_le _ _
  by_cases hm : a.toInt.tmod b.toInt = 2147483648
  · exfalso
    have hs : a.toInt.tmod b.toInt ≤ 2147483647 := by
      rcases Int.le_total 0 a.toInt with q | q
      · have := Int.tmod_nonneg b.toInt q; omega
      · have h8 := Int.tmod_nonneg b.toInt (show 0 ≤ -a.toInt by omega)
        rw [Int.neg_tmod] at h8; omega
    omega
  · exact Int.bmod_eq_of_le (by omega) (by omega)
theorem rm_64 (a b : Int64) : (a - a / b * b).toInt = a.toInt.tmod b.toInt := by
  rw [Int64.toInt_sub, Int64.toInt_mul, Int64.toInt_div]
  rw [Int.bmod_mul_bmod, Int.sub_bmod_bmod]
  rw [show a.toInt - a.toInt.tdiv b.toInt * b.toInt = a.toInt.tmod b.toInt by rw [Int.tmod_def, Int.mul_comm]]
  have h1 := a.toInt_lt
  have h2 := a.le_toInt
  have h3 : (a.toInt.tmod b.toInt).natAbs ≤ a.toInt.natAbs := by rw [Int.natAbs_tmod]; exact Nat.mod_le _ _
  by_cases hm : a.toInt.tmod b.toInt = 9223372036854775808
  · exfalso
    have hs : a.toInt.tmod b.toInt ≤ 9223372036854775807 := by
      rcases Int.le_total 0 a.toInt with q | q
      · have := Int.tmod_nonneg b.toInt q; omega
      · have h8 := Int.tmod_nonneg b.toInt (show 0 ≤ -a.toInt by omega)
        rw [Int.neg_tmod] at h8; omega
    omega
  · exact Int.bmod_eq_of_le (by omega) (by omega)
theorem dv_r {x b : Int32} : x.toInt64 - x.toInt64 / b.toInt64 * b.toInt64 = (x - x / b * b).toInt64 := by
  apply Int64.toInt_inj.mp
  rw [rm_64, Int32.toInt_toInt64, Int32.toInt_toInt64, Int32.toInt_toInt64, rm_32]
theorem dv_rL {x : Int64} {b : Int32} (h : b = -1) : x - -x * b.toInt64 = x - x / b.toInt64 * b.toInt64 := by rw [← dv_L h]
theorem dv_rn {x b : Int32} (h : b = -1) : x.toInt64 - -x.toInt64 * b.toInt64 = (x - x / b * b).toInt64 := by rw [dv_rL h, dv_r]
set_option maxHeartbeats 800000 in
set_option maxRecDepth 100000 in
theorem c_X12_boxes_10 (l : Launch) (dC : Nat → ClassId) (dI : Nat → Nat → Nat) (g : Nat → Nat) (ty : Nat → ClassId) (sz : Nat) (Y : rY) (pa : Nat → Int32) (kp : Nat → Int32) (ks : Int32) (I : rI) (tl : Nat → Int32) (ac : Int64) (wr : Int32) (tw : Int32) (ρ : Nat → Nat) (pl : Nat → Option Nat) (P : cQ) (md : Int32) (Z : cZ) (rz9 : Int64) (u9 : Int32 × cQ) (a0 : Int32) (b0 : Int32) (c0 : Int32) (pre0 : rR Y.2.2.2.2.2.2.2.2.2.1 Y pa ρ pl P) (pre1 : cWF pl P) (pre2 : ks = 0) (pre3 : rCnt Y md) (pre4 : tl 5 = md) (pre5 : 0 ≤ md ∧ md ≤ 6000) (pre6 : tw = 0) (pre7 : q_X11_putIn 9 12 a0 b0 c0 pl ac (-1) md Z P rz9 u9) : Met l yX12_boxes (Cond.code yX12_boxes cX12_boxes 7 (some .long) :: gT) ({ frames := 3, cells := 0, slots := 0, locals := 82 }) (cP (dC, dI) (rTy ty) (rW g ty Y pa kp ks I tl ac wr tw) sz [.ref (g 8), .int 10, .int a0, .int b0, .int c0]) (va_Ql (fun (rz : Int64) (u : rY × (Nat → Int32) × (Nat → Int32) × (Nat → Int32) × Int32 × Int32) => ∃ (r' : Int64) (Y' : rY) (pa' kp' tl' : Nat → Int32) (wr' tw' : Int32), r' = rz ∧ (Y', pa', kp', tl', wr', tw') = u ∧ rAns u9.1 rz9 pl u9.2 md tl Y r' Y' pa' tl' wr' tw') (cB (dC, dI) (fun u : rY × (Nat → Int32) × (Nat → Int32) × (Nat → Int32) × Int32 × Int32 => rW g ty u.1 u.2.1 u.2.2.1 ks I u.2.2.2.1 ac u.2.2.2.2.1 u.2.2.2.2.2) (va_A (rW g ty Y pa kp ks I tl ac wr tw) sz)) (va_A (rW g ty Y pa kp ks I tl ac wr tw) sz)) 0 0 (va_A (rW g ty Y pa kp ks I tl ac wr tw) sz) := by
  refine cc_of (Qa := fun A => va_Ql (fun (rz : Int64) (u : rY × (Nat → Int32) × (Nat → Int32) × (Nat → Int32) × Int32 × Int32) => ∃ (r' : Int64) (Y' : rY) (pa' kp' tl' : Nat → Int32) (wr' tw' : Int32), r' = rz ∧ (Y', pa', kp', tl', wr', tw') = u ∧ rAns u9.1 rz9 pl u9.2 md tl Y r' Y' pa' tl' wr' tw') (cB (dC, dI) (fun u : rY × (Nat → Int32) × (Nat → Int32) × (Nat → Int32) × Int32 × Int32 => rW g ty u.1 u.2.1 u.2.2.1 ks I u.2.2.2.1 ac u.2.2.2.2.1 u.2.2.2.2.2) A) A) (by decide) (Nat.le_of_ble_eq_true rfl) ?_
  intro p e s m below meth c A hx hb hr hml hown hg hlk hmn hP hK hD hT hS hA hsz ls hl
  have hown : s.vm.findClass RX12 = some m.cls := hown
  have rel := pre0
  have wf := pre1
  have hcnt := pre3
  have htl := pre4
  rcases pre7 with ⟨rfl, rfl, g2⟩ | ⟨t, rfl, rfl, g2, g3, g4⟩ | ⟨rfl, rfl, g2, (g3 | ⟨q3, g3, g3x0⟩), g4⟩ | ⟨t, rfl, rfl, g2, (g3 | ⟨q3, g3, g3x0⟩), g4, g5, g6⟩ | ⟨rfl, rfl, g2, g3, g4, (g5 | ⟨q5, g5, g5x0⟩)⟩ | ⟨t, y, rfl, rfl, g2, g3, g4, g5, (g6 | ⟨q6, g6, g6x0⟩), g7, g8⟩ | ⟨t, y, q, rfl, rfl, g2, g3, g4, g5, g6, g7, g8, g9, g10⟩ | ⟨t, y, o, rfl, rfl, g2, g3, g4, g5, g6, g7, g8, (rfl | ⟨q9, rfl, g9x0, g9x1⟩)⟩
  · show _
    have hl : lv_has ls 7 [(0, .ref (g 8)), (1, .int 10), (2, .int a0), (3, .int b0), (4, .int c0)] := hl
    refine lv_iload_n hx hb dX12_boxes_0 rfl (lv_at hl 1 rfl) ?_
    refine lv_tableIn (off := 143) (tgt := 144) hx hb dX12_boxes_1 (by decide) (by decide) (by decide) (by decide) ?_
    refine lv_aload_n hx hb dX12_boxes_144 rfl (lv_at hl 0 rfl) ?_
    refine lv_iload_n hx hb dX12_boxes_145 rfl (lv_at hl 2 rfl) ?_
    refine lv_iload_n hx hb dX12_boxes_146 rfl (lv_at hl 1 rfl) ?_
    refine lv_bipush (v := 10) hx hb dX12_boxes_147 (by decide) ?_
    refine lv_icmp_ne (tgt := 157) hx hb dX12_boxes_149 (by decide) (fun c9 => absurd (by decide) c9) (fun _ => ?_)
    refine lv_bipush (v := 9) hx hb dX12_boxes_152 (by decide) ?_
    refine lv_goto (tgt := 159) hx hb dX12_boxes_154 (by decide) ?_
    refine cV_i (C := RX12) (n := 2) (rest := []) hx hb hml hown hg hT (c_X12_thing l dC dI g ty s.heap.size Y pa kp ks I tl ac wr tw ρ pl P a0 9 (by exact rel) (by exact wf) (by exact i32_in (by decide) (by decide))) (cv_of hg wM_X12_131 wN_X12_thing wL_X12_X12_thing wK_X12_thing wI_X12 (by decide +kernel) ⟨Nat.le_of_ble_eq_true rfl, Nat.le_of_ble_eq_true rfl⟩) hK hP hD hS hA (va_recv hK hP (ci := 14) (q0 := 0) rfl rfl) rfl hl.1 rfl (Nat.le_of_ble_eq_true rfl) dX12_boxes_159 ⟨Nat.le_of_ble_eq_true rfl, Nat.le_of_ble_eq_true rfl⟩ (fun r_2 u_3 H locs q_1 hP hD hS => ?_)
    rcases q_1 with ⟨rfl, rfl, f_4⟩ | ⟨t_5, rfl, rfl, f_6, f_7, f_8⟩ | ⟨rfl, rfl, f_9, f_10⟩ | ⟨t_11, rfl, rfl, f_12, f_13, f_14⟩
    · show _
      have hP : va_P (dC, dI) vwCl (rW g ty Y pa kp ks I tl ac 2 tw) H := hP
      have hD : va_D A (rW g ty Y pa kp ks I tl ac 2 tw) := hD
      refine lv_if_eq (tgt := 209) hx hb dX12_boxes_162 (by decide) (fun _ => ?_) (fun c9 => absurd (by decide) c9) 
      refine lv_aload_n hx hb dX12_boxes_209 rfl (lv_at hl 0 rfl) ?_
      refine cV_l (C := RX12) (n := 0) (rest := []) hx hb hml hown hg hT (c_X12_no l dC dI g ty H.size Y pa kp ks I tl ac 2 tw  ) (cv_of hg wM_X12_107 wN_X12_no wL_X12_X12_no wK_X12_no wI_X12 (by decide +kernel) ⟨Nat.le_of_ble_eq_true rfl, Nat.le_of_ble_eq_true rfl⟩) hK hP hD hS hA (va_recv hK hP (ci := 14) (q0 := 0) rfl rfl) rfl hl.1 rfl (Nat.le_of_ble_eq_true rfl) dX12_boxes_210 ⟨Nat.le_of_ble_eq_true rfl, Nat.le_of_ble_eq_true rfl⟩ (fun r_16 u_17 H locs q_15 hP hD hS => ?_)
      obtain ⟨rfl, rfl⟩ := q_15
      have hP : va_P (dC, dI) vwCl (rW g ty Y pa kp ks I tl ac 2 1) H := hP
      have hD : va_D A (rW g ty Y pa kp ks I tl ac 2 1) := hD
      refine cr_l (wo := fun u : rY × (Nat → Int32) × (Nat → Int32) × (Nat → Int32) × Int32 × Int32 => rW g ty u.1 u.2.1 u.2.2.1 ks I u.2.2.2.1 ac u.2.2.2.2.1 u.2.2.2.2.2) ((Y, pa, kp, tl, 2, 1)) hx hb hr hlk hS hP hD ?_ dX12_boxes_213
      exact ⟨0, Y, pa, kp, tl, 2, 1, rfl, rfl, (by exact ra_f (f := 2) rel hcnt htl (by decide))⟩
    · show _
      exact absurd f_6 (by assumption)
    · show _
      exact absurd f_9 (by assumption)
    · show _
      exact absurd f_12 (by assumption)
  · show _
    obtain ⟨n1t, n2t, n3t⟩ := rk_some rel g2 g3
    have hnet := (i32_pos n1t).2.1
    have tht := wf.1 _ _ g3
    have hl : lv_has ls 7 [(0, .ref (g 8)), (1, .int 10), (2, .int a0), (3, .int b0), (4, .int c0)] := hl
    refine lv_iload_n hx hb dX12_boxes_0 rfl (lv_at hl 1 rfl) ?_
    refine lv_tableIn (off := 143) (tgt := 144) hx hb dX12_boxes_1 (by decide) (by decide) (by decide) (by decide) ?_
    refine lv_aload_n hx hb dX12_boxes_144 rfl (lv_at hl 0 rfl) ?_
    refine lv_iload_n hx hb dX12_boxes_145 rfl (lv_at hl 2 rfl) ?_
    refine lv_iload_n hx hb dX12_boxes_146 rfl (lv_at hl 1 rfl) ?_
    refine lv_bipush (v := 10) hx hb dX12_boxes_147 (by decide) ?_
    refine lv_icmp_ne (tgt := 157) hx hb dX12_boxes_149 (by decide) (fun c9 => absurd (by decide) c9) (fun _ => ?_)
    refine lv_bipush (v := 9) hx hb dX12_boxes_152 (by decide) ?_
    refine lv_goto (tgt := 159) hx hb dX12_boxes_154 (by decide) ?_
    refine cV_i (C := RX12) (n := 2) (rest := []) hx hb hml hown hg hT (c_X12_thing l dC dI g ty s.heap.size Y pa kp ks I tl ac wr tw ρ pl P a0 9 (by exact rel) (by exact wf) (by exact i32_in (by decide) (by decide))) (cv_of hg wM_X12_131 wN_X12_thing wL_X12_X12_thing wK_X12_thing wI_X12 (by decide +kernel) ⟨Nat.le_of_ble_eq_true rfl, Nat.le_of_ble_eq_true rfl⟩) hK hP hD hS hA (va_recv hK hP (ci := 14) (q0 := 0) rfl rfl) rfl hl.1 rfl (Nat.le_of_ble_eq_true rfl) dX12_boxes_159 ⟨Nat.le_of_ble_eq_true rfl, Nat.le_of_ble_eq_true rfl⟩ (fun r_19 u_20 H locs q_18 hP hD hS => ?_)
    rcases q_18 with ⟨rfl, rfl, f_21⟩ | ⟨t_22, rfl, rfl, f_23, f_24, f_25⟩ | ⟨rfl, rfl, f_26, f_27⟩ | ⟨t_28, rfl, rfl, f_29, f_30, f_31⟩
    · show _
      exact absurd (by assumption) f_21
    · show _
      obtain rfl := Option.some.inj (g3.symm.trans f_24)
      have hP : va_P (dC, dI) vwCl (rW g ty Y pa kp ks I tl ac 3 tw) H := hP
      have hD : va_D A (rW g ty Y pa kp ks I tl ac 3 tw) := hD
      refine lv_if_eq (tgt := 209) hx hb dX12_boxes_162 (by decide) (fun _ => ?_) (fun c9 => absurd (by decide) c9) 
      refine lv_aload_n hx hb dX12_boxes_209 rfl (lv_at hl 0 rfl) ?_
      refine cV_l (C := RX12) (n := 0) (rest := []) hx hb hml hown hg hT (c_X12_no l dC dI g ty H.size Y pa kp ks I tl ac 3 tw  ) (cv_of hg wM_X12_107 wN_X12_no wL_X12_X12_no wK_X12_no wI_X12 (by decide +kernel) ⟨Nat.le_of_ble_eq_true rfl, Nat.le_of_ble_eq_true rfl⟩) hK hP hD hS hA (va_recv hK hP (ci := 14) (q0 := 0) rfl rfl) rfl hl.1 rfl (Nat.le_of_ble_eq_true rfl) dX12_boxes_210 ⟨Nat.le_of_ble_eq_true rfl, Nat.le_of_ble_eq_true rfl⟩ (fun r_33 u_34 H locs q_32 hP hD hS => ?_)
      obtain ⟨rfl, rfl⟩ := q_32
      have hP : va_P (dC, dI) vwCl (rW g ty Y pa kp ks I tl ac 3 1) H := hP
      have hD : va_D A (rW g ty Y pa kp ks I tl ac 3 1) := hD
      refine cr_l (wo := fun u : rY × (Nat → Int32) × (Nat → Int32) × (Nat → Int32) × Int32 × Int32 => rW g ty u.1 u.2.1 u.2.2.1 ks I u.2.2.2.1 ac u.2.2.2.2.1 u.2.2.2.2.2) ((Y, pa, kp, tl, 3, 1)) hx hb hr hlk hS hP hD ?_ dX12_boxes_213
      exact ⟨0, Y, pa, kp, tl, 3, 1, rfl, rfl, (by exact ra_f (f := 3) rel hcnt htl (by decide))⟩
    · show _
      exact absurd (g3.symm.trans f_27) (by simp)
    · show _
      obtain rfl := Option.some.inj (g3.symm.trans f_30); exact absurd (g4.symm.trans f_31) (by decide)
  · show _
    have hza0 := rk_none rel g2 g3
    have hl : lv_has ls 7 [(0, .ref (g 8)), (1, .int 10), (2, .int a0), (3, .int b0), (4, .int c0)] := hl
    refine lv_iload_n hx hb dX12_boxes_0 rfl (lv_at hl 1 rfl) ?_
    refine lv_tableIn (off := 143) (tgt := 144) hx hb dX12_boxes_1 (by decide) (by decide) (by decide) (by decide) ?_
    refine lv_aload_n hx hb dX12_boxes_144 rfl (lv_at hl 0 rfl) ?_
    refine lv_iload_n hx hb dX12_boxes_145 rfl (lv_at hl 2 rfl) ?_
    refine lv_iload_n hx hb dX12_boxes_146 rfl (lv_at hl 1 rfl) ?_
    refine lv_bipush (v := 10) hx hb dX12_boxes_147 (by decide) ?_
    refine lv_icmp_ne (tgt := 157) hx hb dX12_boxes_149 (by decide) (fun c9 => absurd (by decide) c9) (fun _ => ?_)
    refine lv_bipush (v := 9) hx hb dX12_boxes_152 (by decide) ?_
    refine lv_goto (tgt := 159) hx hb dX12_boxes_154 (by decide) ?_
    refine cV_i (C := RX12) (n := 2) (rest := []) hx hb hml hown hg hT (c_X12_thing l dC dI g ty s.heap.size Y pa kp ks I tl ac wr tw ρ pl P a0 9 (by exact rel) (by exact wf) (by exact i32_in (by decide) (by decide))) (cv_of hg wM_X12_131 wN_X12_thing wL_X12_X12_thing wK_X12_thing wI_X12 (by decide +kernel) ⟨Nat.le_of_ble_eq_true rfl, Nat.le_of_ble_eq_true rfl⟩) hK hP hD hS hA (va_recv hK hP (ci := 14) (q0 := 0) rfl rfl) rfl hl.1 rfl (Nat.le_of_ble_eq_true rfl) dX12_boxes_159 ⟨Nat.le_of_ble_eq_true rfl, Nat.le_of_ble_eq_true rfl⟩ (fun r_36 u_37 H locs q_35 hP hD hS => ?_)
    rcases q_35 with ⟨rfl, rfl, f_38⟩ | ⟨t_39, rfl, rfl, f_40, f_41, f_42⟩ | ⟨rfl, rfl, f_43, f_44⟩ | ⟨t_45, rfl, rfl, f_46, f_47, f_48⟩
    · show _
      exact absurd (by assumption) f_38
    · show _
      exact absurd (g3.symm.trans f_41) (by simp)
    · show _
      have hP : va_P (dC, dI) vwCl (rW g ty Y pa kp ks I tl ac wr tw) H := hP
      have hD : va_D A (rW g ty Y pa kp ks I tl ac wr tw) := hD
      refine lv_if_eq (tgt := 209) hx hb dX12_boxes_162 (by decide) (fun c9 => absurd c9 (by decide)) (fun _ => ?_)
      refine lv_aload_n hx hb dX12_boxes_165 rfl (lv_at hl 0 rfl) ?_
      refine lv_iload hx hb dX12_boxes_166 (lv_at hl 4 rfl) ?_
      refine lv_iload_n hx hb dX12_boxes_168 rfl (lv_at hl 1 rfl) ?_
      refine lv_bipush (v := 10) hx hb dX12_boxes_169 (by decide) ?_
      refine lv_icmp_ne (tgt := 179) hx hb dX12_boxes_171 (by decide) (fun c9 => absurd (by decide) c9) (fun _ => ?_)
      refine lv_bipush (v := 12) hx hb dX12_boxes_174 (by decide) ?_
      refine lv_goto (tgt := 181) hx hb dX12_boxes_176 (by decide) ?_
      refine cV_i (C := RX12) (n := 2) (rest := []) hx hb hml hown hg hT (c_X12_thing l dC dI g ty H.size Y pa kp ks I tl ac wr tw ρ pl P c0 12 (by exact rel) (by exact wf) (by exact i32_in (by decide) (by decide))) (cv_of hg wM_X12_131 wN_X12_thing wL_X12_X12_thing wK_X12_thing wI_X12 (by decide +kernel) ⟨Nat.le_of_ble_eq_true rfl, Nat.le_of_ble_eq_true rfl⟩) hK hP hD hS hA (va_recv hK hP (ci := 14) (q0 := 0) rfl rfl) rfl hl.1 rfl (Nat.le_of_ble_eq_true rfl) dX12_boxes_181 ⟨Nat.le_of_ble_eq_true rfl, Nat.le_of_ble_eq_true rfl⟩ (fun r_50 u_51 H locs q_49 hP hD hS => ?_)
      rcases q_49 with ⟨rfl, rfl, f_52⟩ | ⟨t_53, rfl, rfl, f_54, f_55, f_56⟩ | ⟨rfl, rfl, f_57, f_58⟩ | ⟨t_59, rfl, rfl, f_60, f_61, f_62⟩
      · show _
        have hP : va_P (dC, dI) vwCl (rW g ty Y pa kp ks I tl ac 2 tw) H := hP
        have hD : va_D A (rW g ty Y pa kp ks I tl ac 2 tw) := hD
        refine lv_if_eq (tgt := 209) hx hb dX12_boxes_184 (by decide) (fun _ => ?_) (fun c9 => absurd (by decide) c9) 
        refine lv_aload_n hx hb dX12_boxes_209 rfl (lv_at hl 0 rfl) ?_
        refine cV_l (C := RX12) (n := 0) (rest := []) hx hb hml hown hg hT (c_X12_no l dC dI g ty H.size Y pa kp ks I tl ac 2 tw  ) (cv_of hg wM_X12_107 wN_X12_no wL_X12_X12_no wK_X12_no wI_X12 (by decide +kernel) ⟨Nat.le_of_ble_eq_true rfl, Nat.le_of_ble_eq_true rfl⟩) hK hP hD hS hA (va_recv hK hP (ci := 14) (q0 := 0) rfl rfl) rfl hl.1 rfl (Nat.le_of_ble_eq_true rfl) dX12_boxes_210 ⟨Nat.le_of_ble_eq_true rfl, Nat.le_of_ble_eq_true rfl⟩ (fun r_64 u_65 H locs q_63 hP hD hS => ?_)
        obtain ⟨rfl, rfl⟩ := q_63
        have hP : va_P (dC, dI) vwCl (rW g ty Y pa kp ks I tl ac 2 1) H := hP
        have hD : va_D A (rW g ty Y pa kp ks I tl ac 2 1) := hD
        refine cr_l (wo := fun u : rY × (Nat → Int32) × (Nat → Int32) × (Nat → Int32) × Int32 × Int32 => rW g ty u.1 u.2.1 u.2.2.1 ks I u.2.2.2.1 ac u.2.2.2.2.1 u.2.2.2.2.2) ((Y, pa, kp, tl, 2, 1)) hx hb hr hlk hS hP hD ?_ dX12_boxes_213
        exact ⟨0, Y, pa, kp, tl, 2, 1, rfl, rfl, (by exact ra_f (f := 2) rel hcnt htl (by decide))⟩
      · show _
        exact absurd f_54 (by assumption)
      · show _
        exact absurd f_57 (by assumption)
      · show _
        exact absurd f_60 (by assumption)
    · show _
      exact absurd (g3.symm.trans f_47) (by simp)
  · show _
    obtain ⟨n1q3, n2q3, n3q3⟩ := rk_some rel g2 g3
    have hneq3 := (i32_pos n1q3).2.1
    have thq3 := wf.1 _ _ g3
    have kq3 := cIs_1 (ki_9 wf thq3.1 thq3.2 g3x0)
    have hl : lv_has ls 7 [(0, .ref (g 8)), (1, .int 10), (2, .int a0), (3, .int b0), (4, .int c0)] := hl
    refine lv_iload_n hx hb dX12_boxes_0 rfl (lv_at hl 1 rfl) ?_
    refine lv_tableIn (off := 143) (tgt := 144) hx hb dX12_boxes_1 (by decide) (by decide) (by decide) (by decide) ?_
    refine lv_aload_n hx hb dX12_boxes_144 rfl (lv_at hl 0 rfl) ?_
    refine lv_iload_n hx hb dX12_boxes_145 rfl (lv_at hl 2 rfl) ?_
    refine lv_iload_n hx hb dX12_boxes_146 rfl (lv_at hl 1 rfl) ?_
    refine lv_bipush (v := 10) hx hb dX12_boxes_147 (by decide) ?_
    refine lv_icmp_ne (tgt := 157) hx hb dX12_boxes_149 (by decide) (fun c9 => absurd (by decide) c9) (fun _ => ?_)
    refine lv_bipush (v := 9) hx hb dX12_boxes_152 (by decide) ?_
    refine lv_goto (tgt := 159) hx hb dX12_boxes_154 (by decide) ?_
    refine cV_i (C := RX12) (n := 2) (rest := []) hx hb hml hown hg hT (c_X12_thing l dC dI g ty s.heap.size Y pa kp ks I tl ac wr tw ρ pl P a0 9 (by exact rel) (by exact wf) (by exact i32_in (by decide) (by decide))) (cv_of hg wM_X12_131 wN_X12_thing wL_X12_X12_thing wK_X12_thing wI_X12 (by decide +kernel) ⟨Nat.le_of_ble_eq_true rfl, Nat.le_of_ble_eq_true rfl⟩) hK hP hD hS hA (va_recv hK hP (ci := 14) (q0 := 0) rfl rfl) rfl hl.1 rfl (Nat.le_of_ble_eq_true rfl) dX12_boxes_159 ⟨Nat.le_of_ble_eq_true rfl, Nat.le_of_ble_eq_true rfl⟩ (fun r_67 u_68 H locs q_66 hP hD hS => ?_)
    rcases q_66 with ⟨rfl, rfl, f_69⟩ | ⟨t_70, rfl, rfl, f_71, f_72, f_73⟩ | ⟨rfl, rfl, f_74, f_75⟩ | ⟨t_76, rfl, rfl, f_77, f_78, f_79⟩
    · show _
      exact absurd (by assumption) f_69
    · show _
      obtain rfl := Option.some.inj (g3.symm.trans f_72); exact absurd (g3x0.symm.trans f_73) (by decide)
    · show _
      exact absurd (g3.symm.trans f_75) (by simp)
    · show _
      obtain rfl := Option.some.inj (g3.symm.trans f_78)
      have hP : va_P (dC, dI) vwCl (rW g ty Y pa kp ks I tl ac wr tw) H := hP
      have hD : va_D A (rW g ty Y pa kp ks I tl ac wr tw) := hD
      refine lv_if_eq (tgt := 209) hx hb dX12_boxes_162 (by decide) (fun c9 => absurd c9 (by decide)) (fun _ => ?_)
      refine lv_aload_n hx hb dX12_boxes_165 rfl (lv_at hl 0 rfl) ?_
      refine lv_iload hx hb dX12_boxes_166 (lv_at hl 4 rfl) ?_
      refine lv_iload_n hx hb dX12_boxes_168 rfl (lv_at hl 1 rfl) ?_
      refine lv_bipush (v := 10) hx hb dX12_boxes_169 (by decide) ?_
      refine lv_icmp_ne (tgt := 179) hx hb dX12_boxes_171 (by decide) (fun c9 => absurd (by decide) c9) (fun _ => ?_)
      refine lv_bipush (v := 12) hx hb dX12_boxes_174 (by decide) ?_
      refine lv_goto (tgt := 181) hx hb dX12_boxes_176 (by decide) ?_
      refine cV_i (C := RX12) (n := 2) (rest := []) hx hb hml hown hg hT (c_X12_thing l dC dI g ty H.size Y pa kp ks I tl ac wr tw ρ pl P c0 12 (by exact rel) (by exact wf) (by exact i32_in (by decide) (by decide))) (cv_of hg wM_X12_131 wN_X12_thing wL_X12_X12_thing wK_X12_thing wI_X12 (by decide +kernel) ⟨Nat.le_of_ble_eq_true rfl, Nat.le_of_ble_eq_true rfl⟩) hK hP hD hS hA (va_recv hK hP (ci := 14) (q0 := 0) rfl rfl) rfl hl.1 rfl (Nat.le_of_ble_eq_true rfl) dX12_boxes_181 ⟨Nat.le_of_ble_eq_true rfl, Nat.le_of_ble_eq_true rfl⟩ (fun r_81 u_82 H locs q_80 hP hD hS => ?_)
      rcases q_80 with ⟨rfl, rfl, f_83⟩ | ⟨t_84, rfl, rfl, f_85, f_86, f_87⟩ | ⟨rfl, rfl, f_88, f_89⟩ | ⟨t_90, rfl, rfl, f_91, f_92, f_93⟩
      · show _
        have hP : va_P (dC, dI) vwCl (rW g ty Y pa kp ks I tl ac 2 tw) H := hP
        have hD : va_D A (rW g ty Y pa kp ks I tl ac 2 tw) := hD
        refine lv_if_eq (tgt := 209) hx hb dX12_boxes_184 (by decide) (fun _ => ?_) (fun c9 => absurd (by decide) c9) 
        refine lv_aload_n hx hb dX12_boxes_209 rfl (lv_at hl 0 rfl) ?_
        refine cV_l (C := RX12) (n := 0) (rest := []) hx hb hml hown hg hT (c_X12_no l dC dI g ty H.size Y pa kp ks I tl ac 2 tw  ) (cv_of hg wM_X12_107 wN_X12_no wL_X12_X12_no wK_X12_no wI_X12 (by decide +kernel) ⟨Nat.le_of_ble_eq_true rfl, Nat.le_of_ble_eq_true rfl⟩) hK hP hD hS hA (va_recv hK hP (ci := 14) (q0 := 0) rfl rfl) rfl hl.1 rfl (Nat.le_of_ble_eq_true rfl) dX12_boxes_210 ⟨Nat.le_of_ble_eq_true rfl, Nat.le_of_ble_eq_true rfl⟩ (fun r_95 u_96 H locs q_94 hP hD hS => ?_)
        obtain ⟨rfl, rfl⟩ := q_94
        have hP : va_P (dC, dI) vwCl (rW g ty Y pa kp ks I tl ac 2 1) H := hP
        have hD : va_D A (rW g ty Y pa kp ks I tl ac 2 1) := hD
        refine cr_l (wo := fun u : rY × (Nat → Int32) × (Nat → Int32) × (Nat → Int32) × Int32 × Int32 => rW g ty u.1 u.2.1 u.2.2.1 ks I u.2.2.2.1 ac u.2.2.2.2.1 u.2.2.2.2.2) ((Y, pa, kp, tl, 2, 1)) hx hb hr hlk hS hP hD ?_ dX12_boxes_213
        exact ⟨0, Y, pa, kp, tl, 2, 1, rfl, rfl, (by exact ra_f (f := 2) rel hcnt htl (by decide))⟩
      · show _
        exact absurd f_85 (by assumption)
      · show _
        exact absurd f_88 (by assumption)
      · show _
        exact absurd f_91 (by assumption)
  · show _
    have hza0 := rk_none rel g2 g3
    obtain ⟨n1t, n2t, n3t⟩ := rk_some rel g4 g5
    have hnet := (i32_pos n1t).2.1
    have tht := wf.1 _ _ g5
    have hl : lv_has ls 7 [(0, .ref (g 8)), (1, .int 10), (2, .int a0), (3, .int b0), (4, .int c0)] := hl
    refine lv_iload_n hx hb dX12_boxes_0 rfl (lv_at hl 1 rfl) ?_
    refine lv_tableIn (off := 143) (tgt := 144) hx hb dX12_boxes_1 (by decide) (by decide) (by decide) (by decide) ?_
    refine lv_aload_n hx hb dX12_boxes_144 rfl (lv_at hl 0 rfl) ?_
    refine lv_iload_n hx hb dX12_boxes_145 rfl (lv_at hl 2 rfl) ?_
    refine lv_iload_n hx hb dX12_boxes_146 rfl (lv_at hl 1 rfl) ?_
    refine lv_bipush (v := 10) hx hb dX12_boxes_147 (by decide) ?_
    refine lv_icmp_ne (tgt := 157) hx hb dX12_boxes_149 (by decide) (fun c9 => absurd (by decide) c9) (fun _ => ?_)
    refine lv_bipush (v := 9) hx hb dX12_boxes_152 (by decide) ?_
    refine lv_goto (tgt := 159) hx hb dX12_boxes_154 (by decide) ?_
    refine cV_i (C := RX12) (n := 2) (rest := []) hx hb hml hown hg hT (c_X12_thing l dC dI g ty s.heap.size Y pa kp ks I tl ac wr tw ρ pl P a0 9 (by exact rel) (by exact wf) (by exact i32_in (by decide) (by decide))) (cv_of hg wM_X12_131 wN_X12_thing wL_X12_X12_thing wK_X12_thing wI_X12 (by decide +kernel) ⟨Nat.le_of_ble_eq_true rfl, Nat.le_of_ble_eq_true rfl⟩) hK hP hD hS hA (va_recv hK hP (ci := 14) (q0 := 0) rfl rfl) rfl hl.1 rfl (Nat.le_of_ble_eq_true rfl) dX12_boxes_159 ⟨Nat.le_of_ble_eq_true rfl, Nat.le_of_ble_eq_true rfl⟩ (fun r_98 u_99 H locs q_97 hP hD hS => ?_)
    rcases q_97 with ⟨rfl, rfl, f_100⟩ | ⟨t_101, rfl, rfl, f_102, f_103, f_104⟩ | ⟨rfl, rfl, f_105, f_106⟩ | ⟨t_107, rfl, rfl, f_108, f_109, f_110⟩
    · show _
      exact absurd (by assumption) f_100
    · show _
      exact absurd (g3.symm.trans f_103) (by simp)
    · show _
      have hP : va_P (dC, dI) vwCl (rW g ty Y pa kp ks I tl ac wr tw) H := hP
      have hD : va_D A (rW g ty Y pa kp ks I tl ac wr tw) := hD
      refine lv_if_eq (tgt := 209) hx hb dX12_boxes_162 (by decide) (fun c9 => absurd c9 (by decide)) (fun _ => ?_)
      refine lv_aload_n hx hb dX12_boxes_165 rfl (lv_at hl 0 rfl) ?_
      refine lv_iload hx hb dX12_boxes_166 (lv_at hl 4 rfl) ?_
      refine lv_iload_n hx hb dX12_boxes_168 rfl (lv_at hl 1 rfl) ?_
      refine lv_bipush (v := 10) hx hb dX12_boxes_169 (by decide) ?_
      refine lv_icmp_ne (tgt := 179) hx hb dX12_boxes_171 (by decide) (fun c9 => absurd (by decide) c9) (fun _ => ?_)
      refine lv_bipush (v := 12) hx hb dX12_boxes_174 (by decide) ?_
      refine lv_goto (tgt := 181) hx hb dX12_boxes_176 (by decide) ?_
      refine cV_i (C := RX12) (n := 2) (rest := []) hx hb hml hown hg hT (c_X12_thing l dC dI g ty H.size Y pa kp ks I tl ac wr tw ρ pl P c0 12 (by exact rel) (by exact wf) (by exact i32_in (by decide) (by decide))) (cv_of hg wM_X12_131 wN_X12_thing wL_X12_X12_thing wK_X12_thing wI_X12 (by decide +kernel) ⟨Nat.le_of_ble_eq_true rfl, Nat.le_of_ble_eq_true rfl⟩) hK hP hD hS hA (va_recv hK hP (ci := 14) (q0 := 0) rfl rfl) rfl hl.1 rfl (Nat.le_of_ble_eq_true rfl) dX12_boxes_181 ⟨Nat.le_of_ble_eq_true rfl, Nat.le_of_ble_eq_true rfl⟩ (fun r_112 u_113 H locs q_111 hP hD hS => ?_)
      rcases q_111 with ⟨rfl, rfl, f_114⟩ | ⟨t_115, rfl, rfl, f_116, f_117, f_118⟩ | ⟨rfl, rfl, f_119, f_120⟩ | ⟨t_121, rfl, rfl, f_122, f_123, f_124⟩
      · show _
        exact absurd (by assumption) f_114
      · show _
        obtain rfl := Option.some.inj (g5.symm.trans f_117)
        have hP : va_P (dC, dI) vwCl (rW g ty Y pa kp ks I tl ac 3 tw) H := hP
        have hD : va_D A (rW g ty Y pa kp ks I tl ac 3 tw) := hD
        refine lv_if_eq (tgt := 209) hx hb dX12_boxes_184 (by decide) (fun _ => ?_) (fun c9 => absurd (by decide) c9) 
        refine lv_aload_n hx hb dX12_boxes_209 rfl (lv_at hl 0 rfl) ?_
        refine cV_l (C := RX12) (n := 0) (rest := []) hx hb hml hown hg hT (c_X12_no l dC dI g ty H.size Y pa kp ks I tl ac 3 tw  ) (cv_of hg wM_X12_107 wN_X12_no wL_X12_X12_no wK_X12_no wI_X12 (by decide +kernel) ⟨Nat.le_of_ble_eq_true rfl, Nat.le_of_ble_eq_true rfl⟩) hK hP hD hS hA (va_recv hK hP (ci := 14) (q0 := 0) rfl rfl) rfl hl.1 rfl (Nat.le_of_ble_eq_true rfl) dX12_boxes_210 ⟨Nat.le_of_ble_eq_true rfl, Nat.le_of_ble_eq_true rfl⟩ (fun r_126 u_127 H locs q_125 hP hD hS => ?_)
        obtain ⟨rfl, rfl⟩ := q_125
        have hP : va_P (dC, dI) vwCl (rW g ty Y pa kp ks I tl ac 3 1) H := hP
        have hD : va_D A (rW g ty Y pa kp ks I tl ac 3 1) := hD
        refine cr_l (wo := fun u : rY × (Nat → Int32) × (Nat → Int32) × (Nat → Int32) × Int32 × Int32 => rW g ty u.1 u.2.1 u.2.2.1 ks I u.2.2.2.1 ac u.2.2.2.2.1 u.2.2.2.2.2) ((Y, pa, kp, tl, 3, 1)) hx hb hr hlk hS hP hD ?_ dX12_boxes_213
        exact ⟨0, Y, pa, kp, tl, 3, 1, rfl, rfl, (by exact ra_f (f := 3) rel hcnt htl (by decide))⟩
      · show _
        exact absurd (g5.symm.trans f_120) (by simp)
      · show _
        obtain rfl := Option.some.inj (g5.symm.trans f_123); exact absurd (g6.symm.trans f_124) (by decide)
    · show _
      exact absurd (g3.symm.trans f_109) (by simp)
  · show _
    obtain ⟨n1q3, n2q3, n3q3⟩ := rk_some rel g2 g3
    have hneq3 := (i32_pos n1q3).2.1
    have thq3 := wf.1 _ _ g3
    obtain ⟨n1t, n2t, n3t⟩ := rk_some rel g4 g5
    have hnet := (i32_pos n1t).2.1
    have tht := wf.1 _ _ g5
    have kq3 := cIs_1 (ki_9 wf thq3.1 thq3.2 g3x0)
    have hl : lv_has ls 7 [(0, .ref (g 8)), (1, .int 10), (2, .int a0), (3, .int b0), (4, .int c0)] := hl
    refine lv_iload_n hx hb dX12_boxes_0 rfl (lv_at hl 1 rfl) ?_
    refine lv_tableIn (off := 143) (tgt := 144) hx hb dX12_boxes_1 (by decide) (by decide) (by decide) (by decide) ?_
    refine lv_aload_n hx hb dX12_boxes_144 rfl (lv_at hl 0 rfl) ?_
    refine lv_iload_n hx hb dX12_boxes_145 rfl (lv_at hl 2 rfl) ?_
    refine lv_iload_n hx hb dX12_boxes_146 rfl (lv_at hl 1 rfl) ?_
    refine lv_bipush (v := 10) hx hb dX12_boxes_147 (by decide) ?_
    refine lv_icmp_ne (tgt := 157) hx hb dX12_boxes_149 (by decide) (fun c9 => absurd (by decide) c9) (fun _ => ?_)
    refine lv_bipush (v := 9) hx hb dX12_boxes_152 (by decide) ?_
    refine lv_goto (tgt := 159) hx hb dX12_boxes_154 (by decide) ?_
    refine cV_i (C := RX12) (n := 2) (rest := []) hx hb hml hown hg hT (c_X12_thing l dC dI g ty s.heap.size Y pa kp ks I tl ac wr tw ρ pl P a0 9 (by exact rel) (by exact wf) (by exact i32_in (by decide) (by decide))) (cv_of hg wM_X12_131 wN_X12_thing wL_X12_X12_thing wK_X12_thing wI_X12 (by decide +kernel) ⟨Nat.le_of_ble_eq_true rfl, Nat.le_of_ble_eq_true rfl⟩) hK hP hD hS hA (va_recv hK hP (ci := 14) (q0 := 0) rfl rfl) rfl hl.1 rfl (Nat.le_of_ble_eq_true rfl) dX12_boxes_159 ⟨Nat.le_of_ble_eq_true rfl, Nat.le_of_ble_eq_true rfl⟩ (fun r_129 u_130 H locs q_128 hP hD hS => ?_)
    rcases q_128 with ⟨rfl, rfl, f_131⟩ | ⟨t_132, rfl, rfl, f_133, f_134, f_135⟩ | ⟨rfl, rfl, f_136, f_137⟩ | ⟨t_138, rfl, rfl, f_139, f_140, f_141⟩
    · show _
      exact absurd (by assumption) f_131
    · show _
      obtain rfl := Option.some.inj (g3.symm.trans f_134); exact absurd (g3x0.symm.trans f_135) (by decide)
    · show _
      exact absurd (g3.symm.trans f_137) (by simp)
    · show _
      obtain rfl := Option.some.inj (g3.symm.trans f_140)
      have hP : va_P (dC, dI) vwCl (rW g ty Y pa kp ks I tl ac wr tw) H := hP
      have hD : va_D A (rW g ty Y pa kp ks I tl ac wr tw) := hD
      refine lv_if_eq (tgt := 209) hx hb dX12_boxes_162 (by decide) (fun c9 => absurd c9 (by decide)) (fun _ => ?_)
      refine lv_aload_n hx hb dX12_boxes_165 rfl (lv_at hl 0 rfl) ?_
      refine lv_iload hx hb dX12_boxes_166 (lv_at hl 4 rfl) ?_
      refine lv_iload_n hx hb dX12_boxes_168 rfl (lv_at hl 1 rfl) ?_
      refine lv_bipush (v := 10) hx hb dX12_boxes_169 (by decide) ?_
      refine lv_icmp_ne (tgt := 179) hx hb dX12_boxes_171 (by decide) (fun c9 => absurd (by decide) c9) (fun _ => ?_)
      refine lv_bipush (v := 12) hx hb dX12_boxes_174 (by decide) ?_
      refine lv_goto (tgt := 181) hx hb dX12_boxes_176 (by decide) ?_
      refine cV_i (C := RX12) (n := 2) (rest := []) hx hb hml hown hg hT (c_X12_thing l dC dI g ty H.size Y pa kp ks I tl ac wr tw ρ pl P c0 12 (by exact rel) (by exact wf) (by exact i32_in (by decide) (by decide))) (cv_of hg wM_X12_131 wN_X12_thing wL_X12_X12_thing wK_X12_thing wI_X12 (by decide +kernel) ⟨Nat.le_of_ble_eq_true rfl, Nat.le_of_ble_eq_true rfl⟩) hK hP hD hS hA (va_recv hK hP (ci := 14) (q0 := 0) rfl rfl) rfl hl.1 rfl (Nat.le_of_ble_eq_true rfl) dX12_boxes_181 ⟨Nat.le_of_ble_eq_true rfl, Nat.le_of_ble_eq_true rfl⟩ (fun r_143 u_144 H locs q_142 hP hD hS => ?_)
      rcases q_142 with ⟨rfl, rfl, f_145⟩ | ⟨t_146, rfl, rfl, f_147, f_148, f_149⟩ | ⟨rfl, rfl, f_150, f_151⟩ | ⟨t_152, rfl, rfl, f_153, f_154, f_155⟩
      · show _
        exact absurd (by assumption) f_145
      · show _
        obtain rfl := Option.some.inj (g5.symm.trans f_148)
        have hP : va_P (dC, dI) vwCl (rW g ty Y pa kp ks I tl ac 3 tw) H := hP
        have hD : va_D A (rW g ty Y pa kp ks I tl ac 3 tw) := hD
        refine lv_if_eq (tgt := 209) hx hb dX12_boxes_184 (by decide) (fun _ => ?_) (fun c9 => absurd (by decide) c9) 
        refine lv_aload_n hx hb dX12_boxes_209 rfl (lv_at hl 0 rfl) ?_
        refine cV_l (C := RX12) (n := 0) (rest := []) hx hb hml hown hg hT (c_X12_no l dC dI g ty H.size Y pa kp ks I tl ac 3 tw  ) (cv_of hg wM_X12_107 wN_X12_no wL_X12_X12_no wK_X12_no wI_X12 (by decide +kernel) ⟨Nat.le_of_ble_eq_true rfl, Nat.le_of_ble_eq_true rfl⟩) hK hP hD hS hA (va_recv hK hP (ci := 14) (q0 := 0) rfl rfl) rfl hl.1 rfl (Nat.le_of_ble_eq_true rfl) dX12_boxes_210 ⟨Nat.le_of_ble_eq_true rfl, Nat.le_of_ble_eq_true rfl⟩ (fun r_157 u_158 H locs q_156 hP hD hS => ?_)
        obtain ⟨rfl, rfl⟩ := q_156
        have hP : va_P (dC, dI) vwCl (rW g ty Y pa kp ks I tl ac 3 1) H := hP
        have hD : va_D A (rW g ty Y pa kp ks I tl ac 3 1) := hD
        refine cr_l (wo := fun u : rY × (Nat → Int32) × (Nat → Int32) × (Nat → Int32) × Int32 × Int32 => rW g ty u.1 u.2.1 u.2.2.1 ks I u.2.2.2.1 ac u.2.2.2.2.1 u.2.2.2.2.2) ((Y, pa, kp, tl, 3, 1)) hx hb hr hlk hS hP hD ?_ dX12_boxes_213
        exact ⟨0, Y, pa, kp, tl, 3, 1, rfl, rfl, (by exact ra_f (f := 3) rel hcnt htl (by decide))⟩
      · show _
        exact absurd (g5.symm.trans f_151) (by simp)
      · show _
        obtain rfl := Option.some.inj (g5.symm.trans f_154); exact absurd (g6.symm.trans f_155) (by decide)
  · show _
    have hza0 := rk_none rel g2 g3
    have hzc0 := rk_none rel g4 g5
    have hl : lv_has ls 7 [(0, .ref (g 8)), (1, .int 10), (2, .int a0), (3, .int b0), (4, .int c0)] := hl
    refine lv_iload_n hx hb dX12_boxes_0 rfl (lv_at hl 1 rfl) ?_
    refine lv_tableIn (off := 143) (tgt := 144) hx hb dX12_boxes_1 (by decide) (by decide) (by decide) (by decide) ?_
    refine lv_aload_n hx hb dX12_boxes_144 rfl (lv_at hl 0 rfl) ?_
    refine lv_iload_n hx hb dX12_boxes_145 rfl (lv_at hl 2 rfl) ?_
    refine lv_iload_n hx hb dX12_boxes_146 rfl (lv_at hl 1 rfl) ?_
    refine lv_bipush (v := 10) hx hb dX12_boxes_147 (by decide) ?_
    refine lv_icmp_ne (tgt := 157) hx hb dX12_boxes_149 (by decide) (fun c9 => absurd (by decide) c9) (fun _ => ?_)
    refine lv_bipush (v := 9) hx hb dX12_boxes_152 (by decide) ?_
    refine lv_goto (tgt := 159) hx hb dX12_boxes_154 (by decide) ?_
    refine cV_i (C := RX12) (n := 2) (rest := []) hx hb hml hown hg hT (c_X12_thing l dC dI g ty s.heap.size Y pa kp ks I tl ac wr tw ρ pl P a0 9 (by exact rel) (by exact wf) (by exact i32_in (by decide) (by decide))) (cv_of hg wM_X12_131 wN_X12_thing wL_X12_X12_thing wK_X12_thing wI_X12 (by decide +kernel) ⟨Nat.le_of_ble_eq_true rfl, Nat.le_of_ble_eq_true rfl⟩) hK hP hD hS hA (va_recv hK hP (ci := 14) (q0 := 0) rfl rfl) rfl hl.1 rfl (Nat.le_of_ble_eq_true rfl) dX12_boxes_159 ⟨Nat.le_of_ble_eq_true rfl, Nat.le_of_ble_eq_true rfl⟩ (fun r_160 u_161 H locs q_159 hP hD hS => ?_)
    rcases q_159 with ⟨rfl, rfl, f_162⟩ | ⟨t_163, rfl, rfl, f_164, f_165, f_166⟩ | ⟨rfl, rfl, f_167, f_168⟩ | ⟨t_169, rfl, rfl, f_170, f_171, f_172⟩
    · show _
      exact absurd (by assumption) f_162
    · show _
      exact absurd (g3.symm.trans f_165) (by simp)
    · show _
      have hP : va_P (dC, dI) vwCl (rW g ty Y pa kp ks I tl ac wr tw) H := hP
      have hD : va_D A (rW g ty Y pa kp ks I tl ac wr tw) := hD
      refine lv_if_eq (tgt := 209) hx hb dX12_boxes_162 (by decide) (fun c9 => absurd c9 (by decide)) (fun _ => ?_)
      refine lv_aload_n hx hb dX12_boxes_165 rfl (lv_at hl 0 rfl) ?_
      refine lv_iload hx hb dX12_boxes_166 (lv_at hl 4 rfl) ?_
      refine lv_iload_n hx hb dX12_boxes_168 rfl (lv_at hl 1 rfl) ?_
      refine lv_bipush (v := 10) hx hb dX12_boxes_169 (by decide) ?_
      refine lv_icmp_ne (tgt := 179) hx hb dX12_boxes_171 (by decide) (fun c9 => absurd (by decide) c9) (fun _ => ?_)
      refine lv_bipush (v := 12) hx hb dX12_boxes_174 (by decide) ?_
      refine lv_goto (tgt := 181) hx hb dX12_boxes_176 (by decide) ?_
      refine cV_i (C := RX12) (n := 2) (rest := []) hx hb hml hown hg hT (c_X12_thing l dC dI g ty H.size Y pa kp ks I tl ac wr tw ρ pl P c0 12 (by exact rel) (by exact wf) (by exact i32_in (by decide) (by decide))) (cv_of hg wM_X12_131 wN_X12_thing wL_X12_X12_thing wK_X12_thing wI_X12 (by decide +kernel) ⟨Nat.le_of_ble_eq_true rfl, Nat.le_of_ble_eq_true rfl⟩) hK hP hD hS hA (va_recv hK hP (ci := 14) (q0 := 0) rfl rfl) rfl hl.1 rfl (Nat.le_of_ble_eq_true rfl) dX12_boxes_181 ⟨Nat.le_of_ble_eq_true rfl, Nat.le_of_ble_eq_true rfl⟩ (fun r_174 u_175 H locs q_173 hP hD hS => ?_)
      rcases q_173 with ⟨rfl, rfl, f_176⟩ | ⟨t_177, rfl, rfl, f_178, f_179, f_180⟩ | ⟨rfl, rfl, f_181, f_182⟩ | ⟨t_183, rfl, rfl, f_184, f_185, f_186⟩
      · show _
        exact absurd (by assumption) f_176
      · show _
        exact absurd (g5.symm.trans f_179) (by simp)
      · show _
        have hP : va_P (dC, dI) vwCl (rW g ty Y pa kp ks I tl ac wr tw) H := hP
        have hD : va_D A (rW g ty Y pa kp ks I tl ac wr tw) := hD
        refine lv_if_eq (tgt := 209) hx hb dX12_boxes_184 (by decide) (fun c9 => absurd c9 (by decide)) (fun _ => ?_)
        refine lv_aload_n hx hb dX12_boxes_187 rfl (lv_at hl 0 rfl) ?_
        refine lv_iload_n hx hb dX12_boxes_188 rfl (lv_at hl 2 rfl) ?_
        refine cV_i (C := RX12) (n := 1) (rest := []) hx hb hml hown hg hT (c_X12_need l dC dI g ty H.size Y pa kp ks I tl ac wr tw a0 (by assumption)) (cv_of hg wM_X12_134 wN_X12_need wL_X12_X12_need wK_X12_need wI_X12 (by decide +kernel) ⟨Nat.le_of_ble_eq_true rfl, Nat.le_of_ble_eq_true rfl⟩) hK hP hD hS hA (va_recv hK hP (ci := 14) (q0 := 0) rfl rfl) rfl hl.1 rfl (Nat.le_of_ble_eq_true rfl) dX12_boxes_189 ⟨Nat.le_of_ble_eq_true rfl, Nat.le_of_ble_eq_true rfl⟩ (fun r_188 u_189 H locs q_187 hP hD hS => ?_)
        rcases q_187 with ⟨rfl, rfl, f_190⟩ | ⟨rfl, rfl, f_191⟩
        · show _
          have hP : va_P (dC, dI) vwCl (rW g ty Y pa kp ks I tl ac 1 tw) H := hP
          have hD : va_D A (rW g ty Y pa kp ks I tl ac 1 tw) := hD
          refine lv_if_eq (tgt := 209) hx hb dX12_boxes_192 (by decide) (fun _ => ?_) (fun c9 => absurd (by decide) c9) 
          refine lv_aload_n hx hb dX12_boxes_209 rfl (lv_at hl 0 rfl) ?_
          refine cV_l (C := RX12) (n := 0) (rest := []) hx hb hml hown hg hT (c_X12_no l dC dI g ty H.size Y pa kp ks I tl ac 1 tw  ) (cv_of hg wM_X12_107 wN_X12_no wL_X12_X12_no wK_X12_no wI_X12 (by decide +kernel) ⟨Nat.le_of_ble_eq_true rfl, Nat.le_of_ble_eq_true rfl⟩) hK hP hD hS hA (va_recv hK hP (ci := 14) (q0 := 0) rfl rfl) rfl hl.1 rfl (Nat.le_of_ble_eq_true rfl) dX12_boxes_210 ⟨Nat.le_of_ble_eq_true rfl, Nat.le_of_ble_eq_true rfl⟩ (fun r_193 u_194 H locs q_192 hP hD hS => ?_)
          obtain ⟨rfl, rfl⟩ := q_192
          have hP : va_P (dC, dI) vwCl (rW g ty Y pa kp ks I tl ac 1 1) H := hP
          have hD : va_D A (rW g ty Y pa kp ks I tl ac 1 1) := hD
          refine cr_l (wo := fun u : rY × (Nat → Int32) × (Nat → Int32) × (Nat → Int32) × Int32 × Int32 => rW g ty u.1 u.2.1 u.2.2.1 ks I u.2.2.2.1 ac u.2.2.2.2.1 u.2.2.2.2.2) ((Y, pa, kp, tl, 1, 1)) hx hb hr hlk hS hP hD ?_ dX12_boxes_213
          exact ⟨0, Y, pa, kp, tl, 1, 1, rfl, rfl, (by exact ra_f (f := 1) rel hcnt htl (by decide))⟩
        · show _
          exact absurd (by assumption) f_191
      · show _
        exact absurd (g5.symm.trans f_185) (by simp)
    · show _
      exact absurd (g3.symm.trans f_171) (by simp)
  · show _
    have hza0 := rk_none rel g2 g3
    obtain ⟨n1q5, n2q5, n3q5⟩ := rk_some rel g4 g5
    have hneq5 := (i32_pos n1q5).2.1
    have thq5 := wf.1 _ _ g5
    have kq5 := cIs_2 (ki_12 wf thq5.1 thq5.2 g5x0)
    have hvq5 := rv_box rel n1q5 n2q5 n3q5 (by omega)
    have hl : lv_has ls 7 [(0, .ref (g 8)), (1, .int 10), (2, .int a0), (3, .int b0), (4, .int c0)] := hl
    refine lv_iload_n hx hb dX12_boxes_0 rfl (lv_at hl 1 rfl) ?_
    refine lv_tableIn (off := 143) (tgt := 144) hx hb dX12_boxes_1 (by decide) (by decide) (by decide) (by decide) ?_
    refine lv_aload_n hx hb dX12_boxes_144 rfl (lv_at hl 0 rfl) ?_
    refine lv_iload_n hx hb dX12_boxes_145 rfl (lv_at hl 2 rfl) ?_
    refine lv_iload_n hx hb dX12_boxes_146 rfl (lv_at hl 1 rfl) ?_
    refine lv_bipush (v := 10) hx hb dX12_boxes_147 (by decide) ?_
    refine lv_icmp_ne (tgt := 157) hx hb dX12_boxes_149 (by decide) (fun c9 => absurd (by decide) c9) (fun _ => ?_)
    refine lv_bipush (v := 9) hx hb dX12_boxes_152 (by decide) ?_
    refine lv_goto (tgt := 159) hx hb dX12_boxes_154 (by decide) ?_
    refine cV_i (C := RX12) (n := 2) (rest := []) hx hb hml hown hg hT (c_X12_thing l dC dI g ty s.heap.size Y pa kp ks I tl ac wr tw ρ pl P a0 9 (by exact rel) (by exact wf) (by exact i32_in (by decide) (by decide))) (cv_of hg wM_X12_131 wN_X12_thing wL_X12_X12_thing wK_X12_thing wI_X12 (by decide +kernel) ⟨Nat.le_of_ble_eq_true rfl, Nat.le_of_ble_eq_true rfl⟩) hK hP hD hS hA (va_recv hK hP (ci := 14) (q0 := 0) rfl rfl) rfl hl.1 rfl (Nat.le_of_ble_eq_true rfl) dX12_boxes_159 ⟨Nat.le_of_ble_eq_true rfl, Nat.le_of_ble_eq_true rfl⟩ (fun r_196 u_197 H locs q_195 hP hD hS => ?_)
    rcases q_195 with ⟨rfl, rfl, f_198⟩ | ⟨t_199, rfl, rfl, f_200, f_201, f_202⟩ | ⟨rfl, rfl, f_203, f_204⟩ | ⟨t_205, rfl, rfl, f_206, f_207, f_208⟩
    · show _
      exact absurd (by assumption) f_198
    · show _
      exact absurd (g3.symm.trans f_201) (by simp)
    · show _
      have hP : va_P (dC, dI) vwCl (rW g ty Y pa kp ks I tl ac wr tw) H := hP
      have hD : va_D A (rW g ty Y pa kp ks I tl ac wr tw) := hD
      refine lv_if_eq (tgt := 209) hx hb dX12_boxes_162 (by decide) (fun c9 => absurd c9 (by decide)) (fun _ => ?_)
      refine lv_aload_n hx hb dX12_boxes_165 rfl (lv_at hl 0 rfl) ?_
      refine lv_iload hx hb dX12_boxes_166 (lv_at hl 4 rfl) ?_
      refine lv_iload_n hx hb dX12_boxes_168 rfl (lv_at hl 1 rfl) ?_
      refine lv_bipush (v := 10) hx hb dX12_boxes_169 (by decide) ?_
      refine lv_icmp_ne (tgt := 179) hx hb dX12_boxes_171 (by decide) (fun c9 => absurd (by decide) c9) (fun _ => ?_)
      refine lv_bipush (v := 12) hx hb dX12_boxes_174 (by decide) ?_
      refine lv_goto (tgt := 181) hx hb dX12_boxes_176 (by decide) ?_
      refine cV_i (C := RX12) (n := 2) (rest := []) hx hb hml hown hg hT (c_X12_thing l dC dI g ty H.size Y pa kp ks I tl ac wr tw ρ pl P c0 12 (by exact rel) (by exact wf) (by exact i32_in (by decide) (by decide))) (cv_of hg wM_X12_131 wN_X12_thing wL_X12_X12_thing wK_X12_thing wI_X12 (by decide +kernel) ⟨Nat.le_of_ble_eq_true rfl, Nat.le_of_ble_eq_true rfl⟩) hK hP hD hS hA (va_recv hK hP (ci := 14) (q0 := 0) rfl rfl) rfl hl.1 rfl (Nat.le_of_ble_eq_true rfl) dX12_boxes_181 ⟨Nat.le_of_ble_eq_true rfl, Nat.le_of_ble_eq_true rfl⟩ (fun r_210 u_211 H locs q_209 hP hD hS => ?_)
      rcases q_209 with ⟨rfl, rfl, f_212⟩ | ⟨t_213, rfl, rfl, f_214, f_215, f_216⟩ | ⟨rfl, rfl, f_217, f_218⟩ | ⟨t_219, rfl, rfl, f_220, f_221, f_222⟩
      · show _
        exact absurd (by assumption) f_212
      · show _
        obtain rfl := Option.some.inj (g5.symm.trans f_215); exact absurd (g5x0.symm.trans f_216) (by decide)
      · show _
        exact absurd (g5.symm.trans f_218) (by simp)
      · show _
        obtain rfl := Option.some.inj (g5.symm.trans f_221)
        have hP : va_P (dC, dI) vwCl (rW g ty Y pa kp ks I tl ac wr tw) H := hP
        have hD : va_D A (rW g ty Y pa kp ks I tl ac wr tw) := hD
        refine lv_if_eq (tgt := 209) hx hb dX12_boxes_184 (by decide) (fun c9 => absurd c9 (by decide)) (fun _ => ?_)
        refine lv_aload_n hx hb dX12_boxes_187 rfl (lv_at hl 0 rfl) ?_
        refine lv_iload_n hx hb dX12_boxes_188 rfl (lv_at hl 2 rfl) ?_
        refine cV_i (C := RX12) (n := 1) (rest := []) hx hb hml hown hg hT (c_X12_need l dC dI g ty H.size Y pa kp ks I tl ac wr tw a0 (by assumption)) (cv_of hg wM_X12_134 wN_X12_need wL_X12_X12_need wK_X12_need wI_X12 (by decide +kernel) ⟨Nat.le_of_ble_eq_true rfl, Nat.le_of_ble_eq_true rfl⟩) hK hP hD hS hA (va_recv hK hP (ci := 14) (q0 := 0) rfl rfl) rfl hl.1 rfl (Nat.le_of_ble_eq_true rfl) dX12_boxes_189 ⟨Nat.le_of_ble_eq_true rfl, Nat.le_of_ble_eq_true rfl⟩ (fun r_224 u_225 H locs q_223 hP hD hS => ?_)
        rcases q_223 with ⟨rfl, rfl, f_226⟩ | ⟨rfl, rfl, f_227⟩
        · show _
          have hP : va_P (dC, dI) vwCl (rW g ty Y pa kp ks I tl ac 1 tw) H := hP
          have hD : va_D A (rW g ty Y pa kp ks I tl ac 1 tw) := hD
          refine lv_if_eq (tgt := 209) hx hb dX12_boxes_192 (by decide) (fun _ => ?_) (fun c9 => absurd (by decide) c9) 
          refine lv_aload_n hx hb dX12_boxes_209 rfl (lv_at hl 0 rfl) ?_
          refine cV_l (C := RX12) (n := 0) (rest := []) hx hb hml hown hg hT (c_X12_no l dC dI g ty H.size Y pa kp ks I tl ac 1 tw  ) (cv_of hg wM_X12_107 wN_X12_no wL_X12_X12_no wK_X12_no wI_X12 (by decide +kernel) ⟨Nat.le_of_ble_eq_true rfl, Nat.le_of_ble_eq_true rfl⟩) hK hP hD hS hA (va_recv hK hP (ci := 14) (q0 := 0) rfl rfl) rfl hl.1 rfl (Nat.le_of_ble_eq_true rfl) dX12_boxes_210 ⟨Nat.le_of_ble_eq_true rfl, Nat.le_of_ble_eq_true rfl⟩ (fun r_229 u_230 H locs q_228 hP hD hS => ?_)
          obtain ⟨rfl, rfl⟩ := q_228
          have hP : va_P (dC, dI) vwCl (rW g ty Y pa kp ks I tl ac 1 1) H := hP
          have hD : va_D A (rW g ty Y pa kp ks I tl ac 1 1) := hD
          refine cr_l (wo := fun u : rY × (Nat → Int32) × (Nat → Int32) × (Nat → Int32) × Int32 × Int32 => rW g ty u.1 u.2.1 u.2.2.1 ks I u.2.2.2.1 ac u.2.2.2.2.1 u.2.2.2.2.2) ((Y, pa, kp, tl, 1, 1)) hx hb hr hlk hS hP hD ?_ dX12_boxes_213
          exact ⟨0, Y, pa, kp, tl, 1, 1, rfl, rfl, (by exact ra_f (f := 1) rel hcnt htl (by decide))⟩
        · show _
          exact absurd (by assumption) f_227
    · show _
      exact absurd (g3.symm.trans f_207) (by simp)
  · show _
    obtain ⟨n1t, n2t, n3t⟩ := rk_some rel g2 g3
    have hnet := (i32_pos n1t).2.1
    have tht := wf.1 _ _ g3
    have hzc0 := rk_none rel g5 g6
    have kt := cIs_1 (ki_9 wf tht.1 tht.2 g4)
    have hvt := rv_shelf rel n1t n2t n3t kt g7
    have hsr := rv_sr rel n1t n2t n3t
    have hl : lv_has ls 7 [(0, .ref (g 8)), (1, .int 10), (2, .int a0), (3, .int b0), (4, .int c0)] := hl
    refine lv_iload_n hx hb dX12_boxes_0 rfl (lv_at hl 1 rfl) ?_
    refine lv_tableIn (off := 143) (tgt := 144) hx hb dX12_boxes_1 (by decide) (by decide) (by decide) (by decide) ?_
    refine lv_aload_n hx hb dX12_boxes_144 rfl (lv_at hl 0 rfl) ?_
    refine lv_iload_n hx hb dX12_boxes_145 rfl (lv_at hl 2 rfl) ?_
    refine lv_iload_n hx hb dX12_boxes_146 rfl (lv_at hl 1 rfl) ?_
    refine lv_bipush (v := 10) hx hb dX12_boxes_147 (by decide) ?_
    refine lv_icmp_ne (tgt := 157) hx hb dX12_boxes_149 (by decide) (fun c9 => absurd (by decide) c9) (fun _ => ?_)
    refine lv_bipush (v := 9) hx hb dX12_boxes_152 (by decide) ?_
    refine lv_goto (tgt := 159) hx hb dX12_boxes_154 (by decide) ?_
    refine cV_i (C := RX12) (n := 2) (rest := []) hx hb hml hown hg hT (c_X12_thing l dC dI g ty s.heap.size Y pa kp ks I tl ac wr tw ρ pl P a0 9 (by exact rel) (by exact wf) (by exact i32_in (by decide) (by decide))) (cv_of hg wM_X12_131 wN_X12_thing wL_X12_X12_thing wK_X12_thing wI_X12 (by decide +kernel) ⟨Nat.le_of_ble_eq_true rfl, Nat.le_of_ble_eq_true rfl⟩) hK hP hD hS hA (va_recv hK hP (ci := 14) (q0 := 0) rfl rfl) rfl hl.1 rfl (Nat.le_of_ble_eq_true rfl) dX12_boxes_159 ⟨Nat.le_of_ble_eq_true rfl, Nat.le_of_ble_eq_true rfl⟩ (fun r_232 u_233 H locs q_231 hP hD hS => ?_)
    rcases q_231 with ⟨rfl, rfl, f_234⟩ | ⟨t_235, rfl, rfl, f_236, f_237, f_238⟩ | ⟨rfl, rfl, f_239, f_240⟩ | ⟨t_241, rfl, rfl, f_242, f_243, f_244⟩
    · show _
      exact absurd (by assumption) f_234
    · show _
      obtain rfl := Option.some.inj (g3.symm.trans f_237); exact absurd (g4.symm.trans f_238) (by decide)
    · show _
      exact absurd (g3.symm.trans f_240) (by simp)
    · show _
      obtain rfl := Option.some.inj (g3.symm.trans f_243)
      have hP : va_P (dC, dI) vwCl (rW g ty Y pa kp ks I tl ac wr tw) H := hP
      have hD : va_D A (rW g ty Y pa kp ks I tl ac wr tw) := hD
      refine lv_if_eq (tgt := 209) hx hb dX12_boxes_162 (by decide) (fun c9 => absurd c9 (by decide)) (fun _ => ?_)
      refine lv_aload_n hx hb dX12_boxes_165 rfl (lv_at hl 0 rfl) ?_
      refine lv_iload hx hb dX12_boxes_166 (lv_at hl 4 rfl) ?_
      refine lv_iload_n hx hb dX12_boxes_168 rfl (lv_at hl 1 rfl) ?_
      refine lv_bipush (v := 10) hx hb dX12_boxes_169 (by decide) ?_
      refine lv_icmp_ne (tgt := 179) hx hb dX12_boxes_171 (by decide) (fun c9 => absurd (by decide) c9) (fun _ => ?_)
      refine lv_bipush (v := 12) hx hb dX12_boxes_174 (by decide) ?_
      refine lv_goto (tgt := 181) hx hb dX12_boxes_176 (by decide) ?_
      refine cV_i (C := RX12) (n := 2) (rest := []) hx hb hml hown hg hT (c_X12_thing l dC dI g ty H.size Y pa kp ks I tl ac wr tw ρ pl P c0 12 (by exact rel) (by exact wf) (by exact i32_in (by decide) (by decide))) (cv_of hg wM_X12_131 wN_X12_thing wL_X12_X12_thing wK_X12_thing wI_X12 (by decide +kernel) ⟨Nat.le_of_ble_eq_true rfl, Nat.le_of_ble_eq_true rfl⟩) hK hP hD hS hA (va_recv hK hP (ci := 14) (q0 := 0) rfl rfl) rfl hl.1 rfl (Nat.le_of_ble_eq_true rfl) dX12_boxes_181 ⟨Nat.le_of_ble_eq_true rfl, Nat.le_of_ble_eq_true rfl⟩ (fun r_246 u_247 H locs q_245 hP hD hS => ?_)
      rcases q_245 with ⟨rfl, rfl, f_248⟩ | ⟨t_249, rfl, rfl, f_250, f_251, f_252⟩ | ⟨rfl, rfl, f_253, f_254⟩ | ⟨t_255, rfl, rfl, f_256, f_257, f_258⟩
      · show _
        exact absurd (by assumption) f_248
      · show _
        exact absurd (g6.symm.trans f_251) (by simp)
      · show _
        have hP : va_P (dC, dI) vwCl (rW g ty Y pa kp ks I tl ac wr tw) H := hP
        have hD : va_D A (rW g ty Y pa kp ks I tl ac wr tw) := hD
        refine lv_if_eq (tgt := 209) hx hb dX12_boxes_184 (by decide) (fun c9 => absurd c9 (by decide)) (fun _ => ?_)
        refine lv_aload_n hx hb dX12_boxes_187 rfl (lv_at hl 0 rfl) ?_
        refine lv_iload_n hx hb dX12_boxes_188 rfl (lv_at hl 2 rfl) ?_
        refine cV_i (C := RX12) (n := 1) (rest := []) hx hb hml hown hg hT (c_X12_need l dC dI g ty H.size Y pa kp ks I tl ac wr tw a0 (by assumption)) (cv_of hg wM_X12_134 wN_X12_need wL_X12_X12_need wK_X12_need wI_X12 (by decide +kernel) ⟨Nat.le_of_ble_eq_true rfl, Nat.le_of_ble_eq_true rfl⟩) hK hP hD hS hA (va_recv hK hP (ci := 14) (q0 := 0) rfl rfl) rfl hl.1 rfl (Nat.le_of_ble_eq_true rfl) dX12_boxes_189 ⟨Nat.le_of_ble_eq_true rfl, Nat.le_of_ble_eq_true rfl⟩ (fun r_260 u_261 H locs q_259 hP hD hS => ?_)
        rcases q_259 with ⟨rfl, rfl, f_262⟩ | ⟨rfl, rfl, f_263⟩
        · show _
          exact absurd f_262 (by assumption)
        · show _
          have hP : va_P (dC, dI) vwCl (rW g ty Y pa kp ks I tl ac wr tw) H := hP
          have hD : va_D A (rW g ty Y pa kp ks I tl ac wr tw) := hD
          refine lv_if_eq (tgt := 209) hx hb dX12_boxes_192 (by decide) (fun c9 => absurd c9 (by decide)) (fun _ => ?_)
          refine lv_aload_n hx hb dX12_boxes_195 rfl (lv_at hl 0 rfl) ?_
          refine lv_aload_n hx hb dX12_boxes_196 rfl (lv_at hl 0 rfl) ?_
          refine va_get (D := (dC, dI)) (ci := 14) (v := .ref (g 9)) (C := RX12) (T := TX12) (N := 21) hx hb hg inG12 hown hK hP 0 rfl rfl 8 (by decide) (hg _ wF_X12_34) (fun _ h9 => h9) rfl dX12_boxes_197 ?_
          refine lv_iload_n hx hb dX12_boxes_200 rfl (lv_at hl 2 rfl) ?_
          refine va_iald hx hb hK hP 7 0 rfl rfl (by assumption) dX12_boxes_201 ?_
          refine lv_iload_n hx hb dX12_boxes_202 rfl (lv_at hl 3 rfl) ?_
          refine cV_i (C := RX12) (n := 2) (rest := []) hx hb hml hown hg hT (c_X12_indexN l dC dI g ty H.size Y pa kp ks I tl ac wr tw (P.2.2.2.2.2.1 y) (pa a0.toNatClampNeg) b0 (by exact hvt.1) (by exact hvt.2.1) (by exact hvt.2.2.1)) (cv_of hg wM_X12_137 wN_X12_index wL_X12_X12_index wK_X12_index wI_X12 (by decide +kernel) ⟨Nat.le_of_ble_eq_true rfl, Nat.le_of_ble_eq_true rfl⟩) hK hP hD hS hA (va_recv hK hP (ci := 14) (q0 := 0) rfl rfl) rfl hl.1 rfl (Nat.le_of_ble_eq_true rfl) dX12_boxes_203 ⟨Nat.le_of_ble_eq_true rfl, Nat.le_of_ble_eq_true rfl⟩ (fun r_265 u_266 H locs q_264 hP hD hS => ?_)
          rcases q_264 with ⟨rfl, rfl, f_267⟩ | ⟨rfl, rfl, f_268⟩
          · show _
            have hP : va_P (dC, dI) vwCl (rW g ty Y pa kp ks I tl ac 2 tw) H := hP
            have hD : va_D A (rW g ty Y pa kp ks I tl ac 2 tw) := hD
            refine lv_if_ne (tgt := 214) hx hb dX12_boxes_206 (by decide) (fun c9 => absurd (by decide) c9) (fun _ => ?_)
            refine lv_aload_n hx hb dX12_boxes_209 rfl (lv_at hl 0 rfl) ?_
            refine cV_l (C := RX12) (n := 0) (rest := []) hx hb hml hown hg hT (c_X12_no l dC dI g ty H.size Y pa kp ks I tl ac 2 tw  ) (cv_of hg wM_X12_107 wN_X12_no wL_X12_X12_no wK_X12_no wI_X12 (by decide +kernel) ⟨Nat.le_of_ble_eq_true rfl, Nat.le_of_ble_eq_true rfl⟩) hK hP hD hS hA (va_recv hK hP (ci := 14) (q0 := 0) rfl rfl) rfl hl.1 rfl (Nat.le_of_ble_eq_true rfl) dX12_boxes_210 ⟨Nat.le_of_ble_eq_true rfl, Nat.le_of_ble_eq_true rfl⟩ (fun r_270 u_271 H locs q_269 hP hD hS => ?_)
            obtain ⟨rfl, rfl⟩ := q_269
            have hP : va_P (dC, dI) vwCl (rW g ty Y pa kp ks I tl ac 2 1) H := hP
            have hD : va_D A (rW g ty Y pa kp ks I tl ac 2 1) := hD
            refine cr_l (wo := fun u : rY × (Nat → Int32) × (Nat → Int32) × (Nat → Int32) × Int32 × Int32 => rW g ty u.1 u.2.1 u.2.2.1 ks I u.2.2.2.1 ac u.2.2.2.2.1 u.2.2.2.2.2) ((Y, pa, kp, tl, 2, 1)) hx hb hr hlk hS hP hD ?_ dX12_boxes_213
            exact ⟨0, Y, pa, kp, tl, 2, 1, rfl, rfl, (by exact ra_f (f := 2) rel hcnt htl (by decide))⟩
          · show _
            exact absurd f_268 (by assumption)
      · show _
        exact absurd (g6.symm.trans f_257) (by simp)
  · show _
    obtain ⟨n1t, n2t, n3t⟩ := rk_some rel g2 g3
    have hnet := (i32_pos n1t).2.1
    have tht := wf.1 _ _ g3
    obtain ⟨n1q6, n2q6, n3q6⟩ := rk_some rel g5 g6
    have hneq6 := (i32_pos n1q6).2.1
    have thq6 := wf.1 _ _ g6
    have kt := cIs_1 (ki_9 wf tht.1 tht.2 g4)
    have kq6 := cIs_2 (ki_12 wf thq6.1 thq6.2 g6x0)
    have hvt := rv_shelf rel n1t n2t n3t kt g7
    have hvq6 := rv_box rel n1q6 n2q6 n3q6 (by omega)
    have hsr := rv_sr rel n1t n2t n3t
    have hl : lv_has ls 7 [(0, .ref (g 8)), (1, .int 10), (2, .int a0), (3, .int b0), (4, .int c0)] := hl
    refine lv_iload_n hx hb dX12_boxes_0 rfl (lv_at hl 1 rfl) ?_
    refine lv_tableIn (off := 143) (tgt := 144) hx hb dX12_boxes_1 (by decide) (by decide) (by decide) (by decide) ?_
    refine lv_aload_n hx hb dX12_boxes_144 rfl (lv_at hl 0 rfl) ?_
    refine lv_iload_n hx hb dX12_boxes_145 rfl (lv_at hl 2 rfl) ?_
    refine lv_iload_n hx hb dX12_boxes_146 rfl (lv_at hl 1 rfl) ?_
    refine lv_bipush (v := 10) hx hb dX12_boxes_147 (by decide) ?_
    refine lv_icmp_ne (tgt := 157) hx hb dX12_boxes_149 (by decide) (fun c9 => absurd (by decide) c9) (fun _ => ?_)
    refine lv_bipush (v := 9) hx hb dX12_boxes_152 (by decide) ?_
    refine lv_goto (tgt := 159) hx hb dX12_boxes_154 (by decide) ?_
    refine cV_i (C := RX12) (n := 2) (rest := []) hx hb hml hown hg hT (c_X12_thing l dC dI g ty s.heap.size Y pa kp ks I tl ac wr tw ρ pl P a0 9 (by exact rel) (by exact wf) (by exact i32_in (by decide) (by decide))) (cv_of hg wM_X12_131 wN_X12_thing wL_X12_X12_thing wK_X12_thing wI_X12 (by decide +kernel) ⟨Nat.le_of_ble_eq_true rfl, Nat.le_of_ble_eq_true rfl⟩) hK hP hD hS hA (va_recv hK hP (ci := 14) (q0 := 0) rfl rfl) rfl hl.1 rfl (Nat.le_of_ble_eq_true rfl) dX12_boxes_159 ⟨Nat.le_of_ble_eq_true rfl, Nat.le_of_ble_eq_true rfl⟩ (fun r_273 u_274 H locs q_272 hP hD hS => ?_)
    rcases q_272 with ⟨rfl, rfl, f_275⟩ | ⟨t_276, rfl, rfl, f_277, f_278, f_279⟩ | ⟨rfl, rfl, f_280, f_281⟩ | ⟨t_282, rfl, rfl, f_283, f_284, f_285⟩
    · show _
      exact absurd (by assumption) f_275
    · show _
      obtain rfl := Option.some.inj (g3.symm.trans f_278); exact absurd (g4.symm.trans f_279) (by decide)
    · show _
      exact absurd (g3.symm.trans f_281) (by simp)
    · show _
      obtain rfl := Option.some.inj (g3.symm.trans f_284)
      have hP : va_P (dC, dI) vwCl (rW g ty Y pa kp ks I tl ac wr tw) H := hP
      have hD : va_D A (rW g ty Y pa kp ks I tl ac wr tw) := hD
      refine lv_if_eq (tgt := 209) hx hb dX12_boxes_162 (by decide) (fun c9 => absurd c9 (by decide)) (fun _ => ?_)
      refine lv_aload_n hx hb dX12_boxes_165 rfl (lv_at hl 0 rfl) ?_
      refine lv_iload hx hb dX12_boxes_166 (lv_at hl 4 rfl) ?_
      refine lv_iload_n hx hb dX12_boxes_168 rfl (lv_at hl 1 rfl) ?_
      refine lv_bipush (v := 10) hx hb dX12_boxes_169 (by decide) ?_
      refine lv_icmp_ne (tgt := 179) hx hb dX12_boxes_171 (by decide) (fun c9 => absurd (by decide) c9) (fun _ => ?_)
      refine lv_bipush (v := 12) hx hb dX12_boxes_174 (by decide) ?_
      refine lv_goto (tgt := 181) hx hb dX12_boxes_176 (by decide) ?_
      refine cV_i (C := RX12) (n := 2) (rest := []) hx hb hml hown hg hT (c_X12_thing l dC dI g ty H.size Y pa kp ks I tl ac wr tw ρ pl P c0 12 (by exact rel) (by exact wf) (by exact i32_in (by decide) (by decide))) (cv_of hg wM_X12_131 wN_X12_thing wL_X12_X12_thing wK_X12_thing wI_X12 (by decide +kernel) ⟨Nat.le_of_ble_eq_true rfl, Nat.le_of_ble_eq_true rfl⟩) hK hP hD hS hA (va_recv hK hP (ci := 14) (q0 := 0) rfl rfl) rfl hl.1 rfl (Nat.le_of_ble_eq_true rfl) dX12_boxes_181 ⟨Nat.le_of_ble_eq_true rfl, Nat.le_of_ble_eq_true rfl⟩ (fun r_287 u_288 H locs q_286 hP hD hS => ?_)
      rcases q_286 with ⟨rfl, rfl, f_289⟩ | ⟨t_290, rfl, rfl, f_291, f_292, f_293⟩ | ⟨rfl, rfl, f_294, f_295⟩ | ⟨t_296, rfl, rfl, f_297, f_298, f_299⟩
      · show _
        exact absurd (by assumption) f_289
      · show _
        obtain rfl := Option.some.inj (g6.symm.trans f_292); exact absurd (g6x0.symm.trans f_293) (by decide)
      · show _
        exact absurd (g6.symm.trans f_295) (by simp)
      · show _
        obtain rfl := Option.some.inj (g6.symm.trans f_298)
        have hP : va_P (dC, dI) vwCl (rW g ty Y pa kp ks I tl ac wr tw) H := hP
        have hD : va_D A (rW g ty Y pa kp ks I tl ac wr tw) := hD
        refine lv_if_eq (tgt := 209) hx hb dX12_boxes_184 (by decide) (fun c9 => absurd c9 (by decide)) (fun _ => ?_)
        refine lv_aload_n hx hb dX12_boxes_187 rfl (lv_at hl 0 rfl) ?_
        refine lv_iload_n hx hb dX12_boxes_188 rfl (lv_at hl 2 rfl) ?_
        refine cV_i (C := RX12) (n := 1) (rest := []) hx hb hml hown hg hT (c_X12_need l dC dI g ty H.size Y pa kp ks I tl ac wr tw a0 (by assumption)) (cv_of hg wM_X12_134 wN_X12_need wL_X12_X12_need wK_X12_need wI_X12 (by decide +kernel) ⟨Nat.le_of_ble_eq_true rfl, Nat.le_of_ble_eq_true rfl⟩) hK hP hD hS hA (va_recv hK hP (ci := 14) (q0 := 0) rfl rfl) rfl hl.1 rfl (Nat.le_of_ble_eq_true rfl) dX12_boxes_189 ⟨Nat.le_of_ble_eq_true rfl, Nat.le_of_ble_eq_true rfl⟩ (fun r_301 u_302 H locs q_300 hP hD hS => ?_)
        rcases q_300 with ⟨rfl, rfl, f_303⟩ | ⟨rfl, rfl, f_304⟩
        · show _
          exact absurd f_303 (by assumption)
        · show _
          have hP : va_P (dC, dI) vwCl (rW g ty Y pa kp ks I tl ac wr tw) H := hP
          have hD : va_D A (rW g ty Y pa kp ks I tl ac wr tw) := hD
          refine lv_if_eq (tgt := 209) hx hb dX12_boxes_192 (by decide) (fun c9 => absurd c9 (by decide)) (fun _ => ?_)
          refine lv_aload_n hx hb dX12_boxes_195 rfl (lv_at hl 0 rfl) ?_
          refine lv_aload_n hx hb dX12_boxes_196 rfl (lv_at hl 0 rfl) ?_
          refine va_get (D := (dC, dI)) (ci := 14) (v := .ref (g 9)) (C := RX12) (T := TX12) (N := 21) hx hb hg inG12 hown hK hP 0 rfl rfl 8 (by decide) (hg _ wF_X12_34) (fun _ h9 => h9) rfl dX12_boxes_197 ?_
          refine lv_iload_n hx hb dX12_boxes_200 rfl (lv_at hl 2 rfl) ?_
          refine va_iald hx hb hK hP 7 0 rfl rfl (by assumption) dX12_boxes_201 ?_
          refine lv_iload_n hx hb dX12_boxes_202 rfl (lv_at hl 3 rfl) ?_
          refine cV_i (C := RX12) (n := 2) (rest := []) hx hb hml hown hg hT (c_X12_indexN l dC dI g ty H.size Y pa kp ks I tl ac wr tw (P.2.2.2.2.2.1 y) (pa a0.toNatClampNeg) b0 (by exact hvt.1) (by exact hvt.2.1) (by exact hvt.2.2.1)) (cv_of hg wM_X12_137 wN_X12_index wL_X12_X12_index wK_X12_index wI_X12 (by decide +kernel) ⟨Nat.le_of_ble_eq_true rfl, Nat.le_of_ble_eq_true rfl⟩) hK hP hD hS hA (va_recv hK hP (ci := 14) (q0 := 0) rfl rfl) rfl hl.1 rfl (Nat.le_of_ble_eq_true rfl) dX12_boxes_203 ⟨Nat.le_of_ble_eq_true rfl, Nat.le_of_ble_eq_true rfl⟩ (fun r_306 u_307 H locs q_305 hP hD hS => ?_)
          rcases q_305 with ⟨rfl, rfl, f_308⟩ | ⟨rfl, rfl, f_309⟩
          · show _
            have hP : va_P (dC, dI) vwCl (rW g ty Y pa kp ks I tl ac 2 tw) H := hP
            have hD : va_D A (rW g ty Y pa kp ks I tl ac 2 tw) := hD
            refine lv_if_ne (tgt := 214) hx hb dX12_boxes_206 (by decide) (fun c9 => absurd (by decide) c9) (fun _ => ?_)
            refine lv_aload_n hx hb dX12_boxes_209 rfl (lv_at hl 0 rfl) ?_
            refine cV_l (C := RX12) (n := 0) (rest := []) hx hb hml hown hg hT (c_X12_no l dC dI g ty H.size Y pa kp ks I tl ac 2 tw  ) (cv_of hg wM_X12_107 wN_X12_no wL_X12_X12_no wK_X12_no wI_X12 (by decide +kernel) ⟨Nat.le_of_ble_eq_true rfl, Nat.le_of_ble_eq_true rfl⟩) hK hP hD hS hA (va_recv hK hP (ci := 14) (q0 := 0) rfl rfl) rfl hl.1 rfl (Nat.le_of_ble_eq_true rfl) dX12_boxes_210 ⟨Nat.le_of_ble_eq_true rfl, Nat.le_of_ble_eq_true rfl⟩ (fun r_311 u_312 H locs q_310 hP hD hS => ?_)
            obtain ⟨rfl, rfl⟩ := q_310
            have hP : va_P (dC, dI) vwCl (rW g ty Y pa kp ks I tl ac 2 1) H := hP
            have hD : va_D A (rW g ty Y pa kp ks I tl ac 2 1) := hD
            refine cr_l (wo := fun u : rY × (Nat → Int32) × (Nat → Int32) × (Nat → Int32) × Int32 × Int32 => rW g ty u.1 u.2.1 u.2.2.1 ks I u.2.2.2.1 ac u.2.2.2.2.1 u.2.2.2.2.2) ((Y, pa, kp, tl, 2, 1)) hx hb hr hlk hS hP hD ?_ dX12_boxes_213
            exact ⟨0, Y, pa, kp, tl, 2, 1, rfl, rfl, (by exact ra_f (f := 2) rel hcnt htl (by decide))⟩
          · show _
            exact absurd f_309 (by assumption)
  · show _
    obtain ⟨n1t, n2t, n3t⟩ := rk_some rel g2 g3
    have hnet := (i32_pos n1t).2.1
    have tht := wf.1 _ _ g3
    obtain ⟨n1q, n2q, n3q⟩ := rk_some rel g5 g8
    have hneq := (i32_pos n1q).2.1
    have thq := wf.1 _ _ g8
    have kt := cIs_1 (ki_9 wf tht.1 tht.2 g4)
    have kq := cIs_2 (ki_12 wf thq.1 thq.2 g9)
    have hvt := rv_shelf rel n1t n2t n3t kt g6
    have hvq := rv_box rel n1q n2q n3q (by omega)
    have hsr := rv_sr rel n1t n2t n3t
    have h13 := sh_9n wf g3 g4 g9 g10
    have hs10 : Y.1 (pa a0.toNatClampNeg).toNatClampNeg = 10 := sr_6 hsr kt h13.1
    have hi9 : (if (pa c0.toNatClampNeg) = 0 then 0 else rIs (Y.1 (pa c0.toNatClampNeg).toNatClampNeg) 13) = 0 := is_0 rel wf g5 (i32_in (by decide) (by decide)) g8 (h13.2 ▸ g10)
    have hl : lv_has ls 7 [(0, .ref (g 8)), (1, .int 10), (2, .int a0), (3, .int b0), (4, .int c0)] := hl
    refine lv_iload_n hx hb dX12_boxes_0 rfl (lv_at hl 1 rfl) ?_
    refine lv_tableIn (off := 143) (tgt := 144) hx hb dX12_boxes_1 (by decide) (by decide) (by decide) (by decide) ?_
    refine lv_aload_n hx hb dX12_boxes_144 rfl (lv_at hl 0 rfl) ?_
    refine lv_iload_n hx hb dX12_boxes_145 rfl (lv_at hl 2 rfl) ?_
    refine lv_iload_n hx hb dX12_boxes_146 rfl (lv_at hl 1 rfl) ?_
    refine lv_bipush (v := 10) hx hb dX12_boxes_147 (by decide) ?_
    refine lv_icmp_ne (tgt := 157) hx hb dX12_boxes_149 (by decide) (fun c9 => absurd (by decide) c9) (fun _ => ?_)
    refine lv_bipush (v := 9) hx hb dX12_boxes_152 (by decide) ?_
    refine lv_goto (tgt := 159) hx hb dX12_boxes_154 (by decide) ?_
    refine cV_i (C := RX12) (n := 2) (rest := []) hx hb hml hown hg hT (c_X12_thing l dC dI g ty s.heap.size Y pa kp ks I tl ac wr tw ρ pl P a0 9 (by exact rel) (by exact wf) (by exact i32_in (by decide) (by decide))) (cv_of hg wM_X12_131 wN_X12_thing wL_X12_X12_thing wK_X12_thing wI_X12 (by decide +kernel) ⟨Nat.le_of_ble_eq_true rfl, Nat.le_of_ble_eq_true rfl⟩) hK hP hD hS hA (va_recv hK hP (ci := 14) (q0 := 0) rfl rfl) rfl hl.1 rfl (Nat.le_of_ble_eq_true rfl) dX12_boxes_159 ⟨Nat.le_of_ble_eq_true rfl, Nat.le_of_ble_eq_true rfl⟩ (fun r_314 u_315 H locs q_313 hP hD hS => ?_)
    rcases q_313 with ⟨rfl, rfl, f_316⟩ | ⟨t_317, rfl, rfl, f_318, f_319, f_320⟩ | ⟨rfl, rfl, f_321, f_322⟩ | ⟨t_323, rfl, rfl, f_324, f_325, f_326⟩
    · show _
      exact absurd (by assumption) f_316
    · show _
      obtain rfl := Option.some.inj (g3.symm.trans f_319); exact absurd (g4.symm.trans f_320) (by decide)
    · show _
      exact absurd (g3.symm.trans f_322) (by simp)
    · show _
      obtain rfl := Option.some.inj (g3.symm.trans f_325)
      have hP : va_P (dC, dI) vwCl (rW g ty Y pa kp ks I tl ac wr tw) H := hP
      have hD : va_D A (rW g ty Y pa kp ks I tl ac wr tw) := hD
      refine lv_if_eq (tgt := 209) hx hb dX12_boxes_162 (by decide) (fun c9 => absurd c9 (by decide)) (fun _ => ?_)
      refine lv_aload_n hx hb dX12_boxes_165 rfl (lv_at hl 0 rfl) ?_
      refine lv_iload hx hb dX12_boxes_166 (lv_at hl 4 rfl) ?_
      refine lv_iload_n hx hb dX12_boxes_168 rfl (lv_at hl 1 rfl) ?_
      refine lv_bipush (v := 10) hx hb dX12_boxes_169 (by decide) ?_
      refine lv_icmp_ne (tgt := 179) hx hb dX12_boxes_171 (by decide) (fun c9 => absurd (by decide) c9) (fun _ => ?_)
      refine lv_bipush (v := 12) hx hb dX12_boxes_174 (by decide) ?_
      refine lv_goto (tgt := 181) hx hb dX12_boxes_176 (by decide) ?_
      refine cV_i (C := RX12) (n := 2) (rest := []) hx hb hml hown hg hT (c_X12_thing l dC dI g ty H.size Y pa kp ks I tl ac wr tw ρ pl P c0 12 (by exact rel) (by exact wf) (by exact i32_in (by decide) (by decide))) (cv_of hg wM_X12_131 wN_X12_thing wL_X12_X12_thing wK_X12_thing wI_X12 (by decide +kernel) ⟨Nat.le_of_ble_eq_true rfl, Nat.le_of_ble_eq_true rfl⟩) hK hP hD hS hA (va_recv hK hP (ci := 14) (q0 := 0) rfl rfl) rfl hl.1 rfl (Nat.le_of_ble_eq_true rfl) dX12_boxes_181 ⟨Nat.le_of_ble_eq_true rfl, Nat.le_of_ble_eq_true rfl⟩ (fun r_328 u_329 H locs q_327 hP hD hS => ?_)
      rcases q_327 with ⟨rfl, rfl, f_330⟩ | ⟨t_331, rfl, rfl, f_332, f_333, f_334⟩ | ⟨rfl, rfl, f_335, f_336⟩ | ⟨t_337, rfl, rfl, f_338, f_339, f_340⟩
      · show _
        exact absurd (by assumption) f_330
      · show _
        obtain rfl := Option.some.inj (g8.symm.trans f_333); exact absurd (g9.symm.trans f_334) (by decide)
      · show _
        exact absurd (g8.symm.trans f_336) (by simp)
      · show _
        obtain rfl := Option.some.inj (g8.symm.trans f_339)
        have hP : va_P (dC, dI) vwCl (rW g ty Y pa kp ks I tl ac wr tw) H := hP
        have hD : va_D A (rW g ty Y pa kp ks I tl ac wr tw) := hD
        refine lv_if_eq (tgt := 209) hx hb dX12_boxes_184 (by decide) (fun c9 => absurd c9 (by decide)) (fun _ => ?_)
        refine lv_aload_n hx hb dX12_boxes_187 rfl (lv_at hl 0 rfl) ?_
        refine lv_iload_n hx hb dX12_boxes_188 rfl (lv_at hl 2 rfl) ?_
        refine cV_i (C := RX12) (n := 1) (rest := []) hx hb hml hown hg hT (c_X12_need l dC dI g ty H.size Y pa kp ks I tl ac wr tw a0 (by assumption)) (cv_of hg wM_X12_134 wN_X12_need wL_X12_X12_need wK_X12_need wI_X12 (by decide +kernel) ⟨Nat.le_of_ble_eq_true rfl, Nat.le_of_ble_eq_true rfl⟩) hK hP hD hS hA (va_recv hK hP (ci := 14) (q0 := 0) rfl rfl) rfl hl.1 rfl (Nat.le_of_ble_eq_true rfl) dX12_boxes_189 ⟨Nat.le_of_ble_eq_true rfl, Nat.le_of_ble_eq_true rfl⟩ (fun r_342 u_343 H locs q_341 hP hD hS => ?_)
        rcases q_341 with ⟨rfl, rfl, f_344⟩ | ⟨rfl, rfl, f_345⟩
        · show _
          exact absurd f_344 (by assumption)
        · show _
          have hP : va_P (dC, dI) vwCl (rW g ty Y pa kp ks I tl ac wr tw) H := hP
          have hD : va_D A (rW g ty Y pa kp ks I tl ac wr tw) := hD
          refine lv_if_eq (tgt := 209) hx hb dX12_boxes_192 (by decide) (fun c9 => absurd c9 (by decide)) (fun _ => ?_)
          refine lv_aload_n hx hb dX12_boxes_195 rfl (lv_at hl 0 rfl) ?_
          refine lv_aload_n hx hb dX12_boxes_196 rfl (lv_at hl 0 rfl) ?_
          refine va_get (D := (dC, dI)) (ci := 14) (v := .ref (g 9)) (C := RX12) (T := TX12) (N := 21) hx hb hg inG12 hown hK hP 0 rfl rfl 8 (by decide) (hg _ wF_X12_34) (fun _ h9 => h9) rfl dX12_boxes_197 ?_
          refine lv_iload_n hx hb dX12_boxes_200 rfl (lv_at hl 2 rfl) ?_
          refine va_iald hx hb hK hP 7 0 rfl rfl (by assumption) dX12_boxes_201 ?_
          refine lv_iload_n hx hb dX12_boxes_202 rfl (lv_at hl 3 rfl) ?_
          refine cV_i (C := RX12) (n := 2) (rest := []) hx hb hml hown hg hT (c_X12_indexN l dC dI g ty H.size Y pa kp ks I tl ac wr tw (P.2.2.2.2.2.1 y) (pa a0.toNatClampNeg) b0 (by exact hvt.1) (by exact hvt.2.1) (by exact hvt.2.2.1)) (cv_of hg wM_X12_137 wN_X12_index wL_X12_X12_index wK_X12_index wI_X12 (by decide +kernel) ⟨Nat.le_of_ble_eq_true rfl, Nat.le_of_ble_eq_true rfl⟩) hK hP hD hS hA (va_recv hK hP (ci := 14) (q0 := 0) rfl rfl) rfl hl.1 rfl (Nat.le_of_ble_eq_true rfl) dX12_boxes_203 ⟨Nat.le_of_ble_eq_true rfl, Nat.le_of_ble_eq_true rfl⟩ (fun r_347 u_348 H locs q_346 hP hD hS => ?_)
          rcases q_346 with ⟨rfl, rfl, f_349⟩ | ⟨rfl, rfl, f_350⟩
          · show _
            exact absurd (by assumption) f_349
          · show _
            have hP : va_P (dC, dI) vwCl (rW g ty Y pa kp ks I tl ac wr tw) H := hP
            have hD : va_D A (rW g ty Y pa kp ks I tl ac wr tw) := hD
            refine lv_if_ne (tgt := 214) hx hb dX12_boxes_206 (by decide) (fun _ => ?_) (fun c9 => absurd c9 (by decide)) 
            refine lv_aload_n hx hb dX12_boxes_214 rfl (lv_at hl 0 rfl) ?_
            refine va_get (D := (dC, dI)) (ci := 14) (v := .ref (Y.2.2.2.2.2.2.1 0)) (C := RX12) (T := TX12) (N := 21) hx hb hg inG12 hown hK hP 0 rfl rfl 0 (by decide) (hg _ wF_X12_7) (fun _ h9 => h9) rfl dX12_boxes_215 ?_
            refine lv_aload_n hx hb dX12_boxes_218 rfl (lv_at hl 0 rfl) ?_
            refine va_get (D := (dC, dI)) (ci := 14) (v := .ref (g 9)) (C := RX12) (T := TX12) (N := 21) hx hb hg inG12 hown hK hP 0 rfl rfl 8 (by decide) (hg _ wF_X12_34) (fun _ h9 => h9) rfl dX12_boxes_219 ?_
            refine lv_iload_n hx hb dX12_boxes_222 rfl (lv_at hl 2 rfl) ?_
            refine va_iald hx hb hK hP 7 0 rfl rfl (by assumption) dX12_boxes_223 ?_
            refine va_iald hx hb hK hP 1 0 rfl rfl (by exact hvt.1) dX12_boxes_224 ?_
            refine lv_bipush (v := 10) hx hb dX12_boxes_225 (by decide) ?_
            refine lv_icmp_ne (tgt := 267) hx hb dX12_boxes_227 (by decide) (fun c9 => absurd hs10 c9) (fun _ => ?_)
            refine lv_aload_n hx hb dX12_boxes_230 rfl (lv_at hl 0 rfl) ?_
            refine va_get (D := (dC, dI)) (ci := 14) (v := .ref (g 9)) (C := RX12) (T := TX12) (N := 21) hx hb hg inG12 hown hK hP 0 rfl rfl 8 (by decide) (hg _ wF_X12_34) (fun _ h9 => h9) rfl dX12_boxes_231 ?_
            refine lv_iload hx hb dX12_boxes_234 (lv_at hl 4 rfl) ?_
            refine va_iald hx hb hK hP 7 0 rfl rfl (by assumption) dX12_boxes_236 ?_
            refine lv_if_eq (tgt := 267) hx hb dX12_boxes_237 (by decide) (fun c9 => absurd c9 hneq) (fun _ => ?_)
            refine lv_aload_n hx hb dX12_boxes_240 rfl (lv_at hl 0 rfl) ?_
            refine lv_aload_n hx hb dX12_boxes_241 rfl (lv_at hl 0 rfl) ?_
            refine va_get (D := (dC, dI)) (ci := 14) (v := .ref (g 9)) (C := RX12) (T := TX12) (N := 21) hx hb hg inG12 hown hK hP 0 rfl rfl 8 (by decide) (hg _ wF_X12_34) (fun _ h9 => h9) rfl dX12_boxes_242 ?_
            refine lv_iload hx hb dX12_boxes_245 (lv_at hl 4 rfl) ?_
            refine va_iald hx hb hK hP 7 0 rfl rfl (by assumption) dX12_boxes_247 ?_
            refine lv_bipush (v := 13) hx hb dX12_boxes_248 (by decide) ?_
            refine cV_i (C := RX12) (n := 2) (rest := []) hx hb hml hown hg hT (c_X12_is l dC dI g ty H.size Y pa kp ks I tl ac wr tw (pa c0.toNatClampNeg) 13 (by exact rk_vin rel (by assumption))) (cv_of hg wM_X12_86 wN_X12_is wL_X12_X12_is wK_X12_is wI_X12 (by decide +kernel) ⟨Nat.le_of_ble_eq_true rfl, Nat.le_of_ble_eq_true rfl⟩) hK hP hD hS hA (va_recv hK hP (ci := 14) (q0 := 0) rfl rfl) rfl hl.1 rfl (Nat.le_of_ble_eq_true rfl) dX12_boxes_250 ⟨Nat.le_of_ble_eq_true rfl, Nat.le_of_ble_eq_true rfl⟩ (fun r_352 u_353 H locs q_351 hP hD hS => ?_)
            obtain rfl := q_351
            have hP : va_P (dC, dI) vwCl (rW g ty Y pa kp ks I tl ac wr tw) H := hP
            have hD : va_D A (rW g ty Y pa kp ks I tl ac wr tw) := hD
            refine lv_if_ne (tgt := 267) hx hb dX12_boxes_253 (by decide) (fun c9 => absurd hi9 c9) (fun _ => ?_)
            refine lv_aload_n hx hb dX12_boxes_256 rfl (lv_at hl 0 rfl) ?_
            refine lv_iconst (v := 5) hx hb dX12_boxes_257 (by decide) ?_
            refine cV_i (C := RX12) (n := 1) (rest := []) hx hb hml hown hg hT (c_X12_fails l dC dI g ty H.size Y pa kp ks I tl ac wr tw 5 ) (cv_of hg wM_X12_79 wN_X12_fails wL_X12_X12_fails wK_X12_fails wI_X12 (by decide +kernel) ⟨Nat.le_of_ble_eq_true rfl, Nat.le_of_ble_eq_true rfl⟩) hK hP hD hS hA (va_recv hK hP (ci := 14) (q0 := 0) rfl rfl) rfl hl.1 rfl (Nat.le_of_ble_eq_true rfl) dX12_boxes_258 ⟨Nat.le_of_ble_eq_true rfl, Nat.le_of_ble_eq_true rfl⟩ (fun r_355 u_356 H locs q_354 hP hD hS => ?_)
            obtain ⟨rfl, rfl⟩ := q_354
            have hP : va_P (dC, dI) vwCl (rW g ty Y pa kp ks I tl ac 5 tw) H := hP
            have hD : va_D A (rW g ty Y pa kp ks I tl ac 5 tw) := hD
            refine lv_pop hx hb dX12_boxes_261 rfl ?_
            refine lv_aload_n hx hb dX12_boxes_262 rfl (lv_at hl 0 rfl) ?_
            refine cV_l (C := RX12) (n := 0) (rest := []) hx hb hml hown hg hT (c_X12_no l dC dI g ty H.size Y pa kp ks I tl ac 5 tw  ) (cv_of hg wM_X12_107 wN_X12_no wL_X12_X12_no wK_X12_no wI_X12 (by decide +kernel) ⟨Nat.le_of_ble_eq_true rfl, Nat.le_of_ble_eq_true rfl⟩) hK hP hD hS hA (va_recv hK hP (ci := 14) (q0 := 0) rfl rfl) rfl hl.1 rfl (Nat.le_of_ble_eq_true rfl) dX12_boxes_263 ⟨Nat.le_of_ble_eq_true rfl, Nat.le_of_ble_eq_true rfl⟩ (fun r_358 u_359 H locs q_357 hP hD hS => ?_)
            obtain ⟨rfl, rfl⟩ := q_357
            have hP : va_P (dC, dI) vwCl (rW g ty Y pa kp ks I tl ac 5 1) H := hP
            have hD : va_D A (rW g ty Y pa kp ks I tl ac 5 1) := hD
            refine cr_l (wo := fun u : rY × (Nat → Int32) × (Nat → Int32) × (Nat → Int32) × Int32 × Int32 => rW g ty u.1 u.2.1 u.2.2.1 ks I u.2.2.2.1 ac u.2.2.2.2.1 u.2.2.2.2.2) ((Y, pa, kp, tl, 5, 1)) hx hb hr hlk hS hP hD ?_ dX12_boxes_266
            exact ⟨0, Y, pa, kp, tl, 5, 1, rfl, rfl, (by exact ra_f (f := 5) rel hcnt htl (by decide))⟩
  · show _
    obtain ⟨n1t, n2t, n3t⟩ := rk_some rel g2 g3
    have hnet := (i32_pos n1t).2.1
    have tht := wf.1 _ _ g3
    have hzc0 := rk_none rel g5 g8
    have kt := cIs_1 (ki_9 wf tht.1 tht.2 g4)
    have hvt := rv_shelf rel n1t n2t n3t kt g6
    have hsr := rv_sr rel n1t n2t n3t
    have hl : lv_has ls 7 [(0, .ref (g 8)), (1, .int 10), (2, .int a0), (3, .int b0), (4, .int c0)] := hl
    refine lv_iload_n hx hb dX12_boxes_0 rfl (lv_at hl 1 rfl) ?_
    refine lv_tableIn (off := 143) (tgt := 144) hx hb dX12_boxes_1 (by decide) (by decide) (by decide) (by decide) ?_
    refine lv_aload_n hx hb dX12_boxes_144 rfl (lv_at hl 0 rfl) ?_
    refine lv_iload_n hx hb dX12_boxes_145 rfl (lv_at hl 2 rfl) ?_
    refine lv_iload_n hx hb dX12_boxes_146 rfl (lv_at hl 1 rfl) ?_
    refine lv_bipush (v := 10) hx hb dX12_boxes_147 (by decide) ?_
    refine lv_icmp_ne (tgt := 157) hx hb dX12_boxes_149 (by decide) (fun c9 => absurd (by decide) c9) (fun _ => ?_)
    refine lv_bipush (v := 9) hx hb dX12_boxes_152 (by decide) ?_
    refine lv_goto (tgt := 159) hx hb dX12_boxes_154 (by decide) ?_
    refine cV_i (C := RX12) (n := 2) (rest := []) hx hb hml hown hg hT (c_X12_thing l dC dI g ty s.heap.size Y pa kp ks I tl ac wr tw ρ pl P a0 9 (by exact rel) (by exact wf) (by exact i32_in (by decide) (by decide))) (cv_of hg wM_X12_131 wN_X12_thing wL_X12_X12_thing wK_X12_thing wI_X12 (by decide +kernel) ⟨Nat.le_of_ble_eq_true rfl, Nat.le_of_ble_eq_true rfl⟩) hK hP hD hS hA (va_recv hK hP (ci := 14) (q0 := 0) rfl rfl) rfl hl.1 rfl (Nat.le_of_ble_eq_true rfl) dX12_boxes_159 ⟨Nat.le_of_ble_eq_true rfl, Nat.le_of_ble_eq_true rfl⟩ (fun r_361 u_362 H locs q_360 hP hD hS => ?_)
    rcases q_360 with ⟨rfl, rfl, f_363⟩ | ⟨t_364, rfl, rfl, f_365, f_366, f_367⟩ | ⟨rfl, rfl, f_368, f_369⟩ | ⟨t_370, rfl, rfl, f_371, f_372, f_373⟩
    · show _
      exact absurd (by assumption) f_363
    · show _
      obtain rfl := Option.some.inj (g3.symm.trans f_366); exact absurd (g4.symm.trans f_367) (by decide)
    · show _
      exact absurd (g3.symm.trans f_369) (by simp)
    · show _
      obtain rfl := Option.some.inj (g3.symm.trans f_372)
      have hP : va_P (dC, dI) vwCl (rW g ty Y pa kp ks I tl ac wr tw) H := hP
      have hD : va_D A (rW g ty Y pa kp ks I tl ac wr tw) := hD
      refine lv_if_eq (tgt := 209) hx hb dX12_boxes_162 (by decide) (fun c9 => absurd c9 (by decide)) (fun _ => ?_)
      refine lv_aload_n hx hb dX12_boxes_165 rfl (lv_at hl 0 rfl) ?_
      refine lv_iload hx hb dX12_boxes_166 (lv_at hl 4 rfl) ?_
      refine lv_iload_n hx hb dX12_boxes_168 rfl (lv_at hl 1 rfl) ?_
      refine lv_bipush (v := 10) hx hb dX12_boxes_169 (by decide) ?_
      refine lv_icmp_ne (tgt := 179) hx hb dX12_boxes_171 (by decide) (fun c9 => absurd (by decide) c9) (fun _ => ?_)
      refine lv_bipush (v := 12) hx hb dX12_boxes_174 (by decide) ?_
      refine lv_goto (tgt := 181) hx hb dX12_boxes_176 (by decide) ?_
      refine cV_i (C := RX12) (n := 2) (rest := []) hx hb hml hown hg hT (c_X12_thing l dC dI g ty H.size Y pa kp ks I tl ac wr tw ρ pl P c0 12 (by exact rel) (by exact wf) (by exact i32_in (by decide) (by decide))) (cv_of hg wM_X12_131 wN_X12_thing wL_X12_X12_thing wK_X12_thing wI_X12 (by decide +kernel) ⟨Nat.le_of_ble_eq_true rfl, Nat.le_of_ble_eq_true rfl⟩) hK hP hD hS hA (va_recv hK hP (ci := 14) (q0 := 0) rfl rfl) rfl hl.1 rfl (Nat.le_of_ble_eq_true rfl) dX12_boxes_181 ⟨Nat.le_of_ble_eq_true rfl, Nat.le_of_ble_eq_true rfl⟩ (fun r_375 u_376 H locs q_374 hP hD hS => ?_)
      rcases q_374 with ⟨rfl, rfl, f_377⟩ | ⟨t_378, rfl, rfl, f_379, f_380, f_381⟩ | ⟨rfl, rfl, f_382, f_383⟩ | ⟨t_384, rfl, rfl, f_385, f_386, f_387⟩
      · show _
        exact absurd (by assumption) f_377
      · show _
        exact absurd (g8.symm.trans f_380) (by simp)
      · show _
        have hP : va_P (dC, dI) vwCl (rW g ty Y pa kp ks I tl ac wr tw) H := hP
        have hD : va_D A (rW g ty Y pa kp ks I tl ac wr tw) := hD
        refine lv_if_eq (tgt := 209) hx hb dX12_boxes_184 (by decide) (fun c9 => absurd c9 (by decide)) (fun _ => ?_)
        refine lv_aload_n hx hb dX12_boxes_187 rfl (lv_at hl 0 rfl) ?_
        refine lv_iload_n hx hb dX12_boxes_188 rfl (lv_at hl 2 rfl) ?_
        refine cV_i (C := RX12) (n := 1) (rest := []) hx hb hml hown hg hT (c_X12_need l dC dI g ty H.size Y pa kp ks I tl ac wr tw a0 (by assumption)) (cv_of hg wM_X12_134 wN_X12_need wL_X12_X12_need wK_X12_need wI_X12 (by decide +kernel) ⟨Nat.le_of_ble_eq_true rfl, Nat.le_of_ble_eq_true rfl⟩) hK hP hD hS hA (va_recv hK hP (ci := 14) (q0 := 0) rfl rfl) rfl hl.1 rfl (Nat.le_of_ble_eq_true rfl) dX12_boxes_189 ⟨Nat.le_of_ble_eq_true rfl, Nat.le_of_ble_eq_true rfl⟩ (fun r_389 u_390 H locs q_388 hP hD hS => ?_)
        rcases q_388 with ⟨rfl, rfl, f_391⟩ | ⟨rfl, rfl, f_392⟩
        · show _
          exact absurd f_391 (by assumption)
        · show _
          have hP : va_P (dC, dI) vwCl (rW g ty Y pa kp ks I tl ac wr tw) H := hP
          have hD : va_D A (rW g ty Y pa kp ks I tl ac wr tw) := hD
          refine lv_if_eq (tgt := 209) hx hb dX12_boxes_192 (by decide) (fun c9 => absurd c9 (by decide)) (fun _ => ?_)
          refine lv_aload_n hx hb dX12_boxes_195 rfl (lv_at hl 0 rfl) ?_
          refine lv_aload_n hx hb dX12_boxes_196 rfl (lv_at hl 0 rfl) ?_
          refine va_get (D := (dC, dI)) (ci := 14) (v := .ref (g 9)) (C := RX12) (T := TX12) (N := 21) hx hb hg inG12 hown hK hP 0 rfl rfl 8 (by decide) (hg _ wF_X12_34) (fun _ h9 => h9) rfl dX12_boxes_197 ?_
          refine lv_iload_n hx hb dX12_boxes_200 rfl (lv_at hl 2 rfl) ?_
          refine va_iald hx hb hK hP 7 0 rfl rfl (by assumption) dX12_boxes_201 ?_
          refine lv_iload_n hx hb dX12_boxes_202 rfl (lv_at hl 3 rfl) ?_
          refine cV_i (C := RX12) (n := 2) (rest := []) hx hb hml hown hg hT (c_X12_indexN l dC dI g ty H.size Y pa kp ks I tl ac wr tw (P.2.2.2.2.2.1 y) (pa a0.toNatClampNeg) b0 (by exact hvt.1) (by exact hvt.2.1) (by exact hvt.2.2.1)) (cv_of hg wM_X12_137 wN_X12_index wL_X12_X12_index wK_X12_index wI_X12 (by decide +kernel) ⟨Nat.le_of_ble_eq_true rfl, Nat.le_of_ble_eq_true rfl⟩) hK hP hD hS hA (va_recv hK hP (ci := 14) (q0 := 0) rfl rfl) rfl hl.1 rfl (Nat.le_of_ble_eq_true rfl) dX12_boxes_203 ⟨Nat.le_of_ble_eq_true rfl, Nat.le_of_ble_eq_true rfl⟩ (fun r_394 u_395 H locs q_393 hP hD hS => ?_)
          rcases q_393 with ⟨rfl, rfl, f_396⟩ | ⟨rfl, rfl, f_397⟩
          · show _
            exact absurd (by assumption) f_396
          · show _
            have hP : va_P (dC, dI) vwCl (rW g ty Y pa kp ks I tl ac wr tw) H := hP
            have hD : va_D A (rW g ty Y pa kp ks I tl ac wr tw) := hD
            refine lv_if_ne (tgt := 214) hx hb dX12_boxes_206 (by decide) (fun _ => ?_) (fun c9 => absurd c9 (by decide)) 
            refine lv_aload_n hx hb dX12_boxes_214 rfl (lv_at hl 0 rfl) ?_
            refine va_get (D := (dC, dI)) (ci := 14) (v := .ref (Y.2.2.2.2.2.2.1 0)) (C := RX12) (T := TX12) (N := 21) hx hb hg inG12 hown hK hP 0 rfl rfl 0 (by decide) (hg _ wF_X12_7) (fun _ h9 => h9) rfl dX12_boxes_215 ?_
            refine lv_aload_n hx hb dX12_boxes_218 rfl (lv_at hl 0 rfl) ?_
            refine va_get (D := (dC, dI)) (ci := 14) (v := .ref (g 9)) (C := RX12) (T := TX12) (N := 21) hx hb hg inG12 hown hK hP 0 rfl rfl 8 (by decide) (hg _ wF_X12_34) (fun _ h9 => h9) rfl dX12_boxes_219 ?_
            refine lv_iload_n hx hb dX12_boxes_222 rfl (lv_at hl 2 rfl) ?_
            refine va_iald hx hb hK hP 7 0 rfl rfl (by assumption) dX12_boxes_223 ?_
            refine va_iald hx hb hK hP 1 0 rfl rfl (by exact hvt.1) dX12_boxes_224 ?_
            refine lv_bipush (v := 10) hx hb dX12_boxes_225 (by decide) ?_
            refine lv_icmp_ne (tgt := 267) hx hb dX12_boxes_227 (by decide) (fun c_398 => ?_) (fun c_398 => ?_)
            · show _
              refine lv_aload_n hx hb dX12_boxes_267 rfl (lv_at hl 0 rfl) ?_
              refine lv_aload_n hx hb dX12_boxes_268 rfl (lv_at hl 0 rfl) ?_
              refine va_get (D := (dC, dI)) (ci := 14) (v := .ref (g 9)) (C := RX12) (T := TX12) (N := 21) hx hb hg inG12 hown hK hP 0 rfl rfl 8 (by decide) (hg _ wF_X12_34) (fun _ h9 => h9) rfl dX12_boxes_269 ?_
              refine lv_iload_n hx hb dX12_boxes_272 rfl (lv_at hl 2 rfl) ?_
              refine va_iald hx hb hK hP 7 0 rfl rfl (by assumption) dX12_boxes_273 ?_
              refine lv_iload_n hx hb dX12_boxes_274 rfl (lv_at hl 3 rfl) ?_
              refine lv_aload_n hx hb dX12_boxes_275 rfl (lv_at hl 0 rfl) ?_
              refine va_get (D := (dC, dI)) (ci := 14) (v := .ref (g 9)) (C := RX12) (T := TX12) (N := 21) hx hb hg inG12 hown hK hP 0 rfl rfl 8 (by decide) (hg _ wF_X12_34) (fun _ h9 => h9) rfl dX12_boxes_276 ?_
              refine lv_iload hx hb dX12_boxes_279 (lv_at hl 4 rfl) ?_
              refine va_iald hx hb hK hP 7 0 rfl rfl (by assumption) dX12_boxes_281 ?_
              refine lv_i2l (v := ((pa c0.toNatClampNeg).toInt64)) hx hb dX12_boxes_282 rfl ?_
              refine cV_v (C := RX12) (n := 3) (rest := []) hx hb hml hown hg hT (c_X12_put l dC dI g ty H.size Y pa kp ks I tl ac wr tw (pa a0.toNatClampNeg) b0 ((pa c0.toNatClampNeg).toInt64) (by exact hvt.1) (by exact (hvt.2.2.2 _ (by assumption)).1)) (cv_of hg wM_X12_151 wN_X12_put wL_X12_X12_put wK_X12_put wI_X12 (by decide +kernel) ⟨Nat.le_of_ble_eq_true rfl, Nat.le_of_ble_eq_true rfl⟩) hK hP hD hS hA (va_recv hK hP (ci := 14) (q0 := 0) rfl rfl) rfl hl.1 rfl (Nat.le_of_ble_eq_true rfl) dX12_boxes_283 ⟨Nat.le_of_ble_eq_true rfl, Nat.le_of_ble_eq_true rfl⟩ (fun u_401 H locs q_399 hP hD hS => ?_)
              obtain rfl := q_399
              have hP : va_P (dC, dI) vwCl (rW g ty (Y.1, Y.2.1, Y.2.2.1, Y.2.2.2.1, Y.2.2.2.2.1, (vp_updL Y.2.2.2.2.2.1 (Y.2.1 (pa a0.toNatClampNeg).toNatClampNeg + b0).toNatClampNeg ((pa c0.toNatClampNeg).toInt64)), Y.2.2.2.2.2.2.1, Y.2.2.2.2.2.2.2.1, Y.2.2.2.2.2.2.2.2.1, Y.2.2.2.2.2.2.2.2.2.1, Y.2.2.2.2.2.2.2.2.2.2) pa kp ks I tl ac wr tw) H := hP
              have hD : va_D A (rW g ty (Y.1, Y.2.1, Y.2.2.1, Y.2.2.2.1, Y.2.2.2.2.1, (vp_updL Y.2.2.2.2.2.1 (Y.2.1 (pa a0.toNatClampNeg).toNatClampNeg + b0).toNatClampNeg ((pa c0.toNatClampNeg).toInt64)), Y.2.2.2.2.2.2.1, Y.2.2.2.2.2.2.2.1, Y.2.2.2.2.2.2.2.2.1, Y.2.2.2.2.2.2.2.2.2.1, Y.2.2.2.2.2.2.2.2.2.2) pa kp ks I tl ac wr tw) := hD
              refine lv_lconst (v := 0) hx hb dX12_boxes_286 (by decide) ?_
              refine cr_l (wo := fun u : rY × (Nat → Int32) × (Nat → Int32) × (Nat → Int32) × Int32 × Int32 => rW g ty u.1 u.2.1 u.2.2.1 ks I u.2.2.2.1 ac u.2.2.2.2.1 u.2.2.2.2.2) (((Y.1, Y.2.1, Y.2.2.1, Y.2.2.2.1, Y.2.2.2.2.1, (vp_updL Y.2.2.2.2.2.1 (Y.2.1 (pa a0.toNatClampNeg).toNatClampNeg + b0).toNatClampNeg ((pa c0.toNatClampNeg).toInt64)), Y.2.2.2.2.2.2.1, Y.2.2.2.2.2.2.2.1, Y.2.2.2.2.2.2.2.2.1, Y.2.2.2.2.2.2.2.2.2.1, Y.2.2.2.2.2.2.2.2.2.2), pa, kp, tl, wr, tw)) hx hb hr hlk hS hP hD ?_ dX12_boxes_287
              exact ⟨0, (Y.1, Y.2.1, Y.2.2.1, Y.2.2.2.1, Y.2.2.2.2.1, (vp_updL Y.2.2.2.2.2.1 (Y.2.1 (pa a0.toNatClampNeg).toNatClampNeg + b0).toNatClampNeg ((pa c0.toNatClampNeg).toInt64)), Y.2.2.2.2.2.2.1, Y.2.2.2.2.2.2.2.1, Y.2.2.2.2.2.2.2.2.1, Y.2.2.2.2.2.2.2.2.2.1, Y.2.2.2.2.2.2.2.2.2.2), pa, kp, tl, wr, tw, rfl, rfl, (by subst pre6; exact ra_w (rw_shelf wf rel n1t n2t n3t kt g6 f_397 (pl_ll rel f_382 f_383) rfl) ⟨rfl, rfl, rfl, rfl⟩ hcnt htl rfl)⟩
            · show _
              refine lv_aload_n hx hb dX12_boxes_230 rfl (lv_at hl 0 rfl) ?_
              refine va_get (D := (dC, dI)) (ci := 14) (v := .ref (g 9)) (C := RX12) (T := TX12) (N := 21) hx hb hg inG12 hown hK hP 0 rfl rfl 8 (by decide) (hg _ wF_X12_34) (fun _ h9 => h9) rfl dX12_boxes_231 ?_
              refine lv_iload hx hb dX12_boxes_234 (lv_at hl 4 rfl) ?_
              refine va_iald hx hb hK hP 7 0 rfl rfl (by assumption) dX12_boxes_236 ?_
              refine lv_if_eq (tgt := 267) hx hb dX12_boxes_237 (by decide) (fun _ => ?_) (fun c9 => absurd hzc0 c9)
              refine lv_aload_n hx hb dX12_boxes_267 rfl (lv_at hl 0 rfl) ?_
              refine lv_aload_n hx hb dX12_boxes_268 rfl (lv_at hl 0 rfl) ?_
              refine va_get (D := (dC, dI)) (ci := 14) (v := .ref (g 9)) (C := RX12) (T := TX12) (N := 21) hx hb hg inG12 hown hK hP 0 rfl rfl 8 (by decide) (hg _ wF_X12_34) (fun _ h9 => h9) rfl dX12_boxes_269 ?_
              refine lv_iload_n hx hb dX12_boxes_272 rfl (lv_at hl 2 rfl) ?_
              refine va_iald hx hb hK hP 7 0 rfl rfl (by assumption) dX12_boxes_273 ?_
              refine lv_iload_n hx hb dX12_boxes_274 rfl (lv_at hl 3 rfl) ?_
              refine lv_aload_n hx hb dX12_boxes_275 rfl (lv_at hl 0 rfl) ?_
              refine va_get (D := (dC, dI)) (ci := 14) (v := .ref (g 9)) (C := RX12) (T := TX12) (N := 21) hx hb hg inG12 hown hK hP 0 rfl rfl 8 (by decide) (hg _ wF_X12_34) (fun _ h9 => h9) rfl dX12_boxes_276 ?_
              refine lv_iload hx hb dX12_boxes_279 (lv_at hl 4 rfl) ?_
              refine va_iald hx hb hK hP 7 0 rfl rfl (by assumption) dX12_boxes_281 ?_
              refine lv_i2l (v := ((pa c0.toNatClampNeg).toInt64)) hx hb dX12_boxes_282 rfl ?_
              refine cV_v (C := RX12) (n := 3) (rest := []) hx hb hml hown hg hT (c_X12_put l dC dI g ty H.size Y pa kp ks I tl ac wr tw (pa a0.toNatClampNeg) b0 ((pa c0.toNatClampNeg).toInt64) (by exact hvt.1) (by exact (hvt.2.2.2 _ (by assumption)).1)) (cv_of hg wM_X12_151 wN_X12_put wL_X12_X12_put wK_X12_put wI_X12 (by decide +kernel) ⟨Nat.le_of_ble_eq_true rfl, Nat.le_of_ble_eq_true rfl⟩) hK hP hD hS hA (va_recv hK hP (ci := 14) (q0 := 0) rfl rfl) rfl hl.1 rfl (Nat.le_of_ble_eq_true rfl) dX12_boxes_283 ⟨Nat.le_of_ble_eq_true rfl, Nat.le_of_ble_eq_true rfl⟩ (fun u_404 H locs q_402 hP hD hS => ?_)
              obtain rfl := q_402
              have hP : va_P (dC, dI) vwCl (rW g ty (Y.1, Y.2.1, Y.2.2.1, Y.2.2.2.1, Y.2.2.2.2.1, (vp_updL Y.2.2.2.2.2.1 (Y.2.1 (pa a0.toNatClampNeg).toNatClampNeg + b0).toNatClampNeg ((pa c0.toNatClampNeg).toInt64)), Y.2.2.2.2.2.2.1, Y.2.2.2.2.2.2.2.1, Y.2.2.2.2.2.2.2.2.1, Y.2.2.2.2.2.2.2.2.2.1, Y.2.2.2.2.2.2.2.2.2.2) pa kp ks I tl ac wr tw) H := hP
              have hD : va_D A (rW g ty (Y.1, Y.2.1, Y.2.2.1, Y.2.2.2.1, Y.2.2.2.2.1, (vp_updL Y.2.2.2.2.2.1 (Y.2.1 (pa a0.toNatClampNeg).toNatClampNeg + b0).toNatClampNeg ((pa c0.toNatClampNeg).toInt64)), Y.2.2.2.2.2.2.1, Y.2.2.2.2.2.2.2.1, Y.2.2.2.2.2.2.2.2.1, Y.2.2.2.2.2.2.2.2.2.1, Y.2.2.2.2.2.2.2.2.2.2) pa kp ks I tl ac wr tw) := hD
              refine lv_lconst (v := 0) hx hb dX12_boxes_286 (by decide) ?_
              refine cr_l (wo := fun u : rY × (Nat → Int32) × (Nat → Int32) × (Nat → Int32) × Int32 × Int32 => rW g ty u.1 u.2.1 u.2.2.1 ks I u.2.2.2.1 ac u.2.2.2.2.1 u.2.2.2.2.2) (((Y.1, Y.2.1, Y.2.2.1, Y.2.2.2.1, Y.2.2.2.2.1, (vp_updL Y.2.2.2.2.2.1 (Y.2.1 (pa a0.toNatClampNeg).toNatClampNeg + b0).toNatClampNeg ((pa c0.toNatClampNeg).toInt64)), Y.2.2.2.2.2.2.1, Y.2.2.2.2.2.2.2.1, Y.2.2.2.2.2.2.2.2.1, Y.2.2.2.2.2.2.2.2.2.1, Y.2.2.2.2.2.2.2.2.2.2), pa, kp, tl, wr, tw)) hx hb hr hlk hS hP hD ?_ dX12_boxes_287
              exact ⟨0, (Y.1, Y.2.1, Y.2.2.1, Y.2.2.2.1, Y.2.2.2.2.1, (vp_updL Y.2.2.2.2.2.1 (Y.2.1 (pa a0.toNatClampNeg).toNatClampNeg + b0).toNatClampNeg ((pa c0.toNatClampNeg).toInt64)), Y.2.2.2.2.2.2.1, Y.2.2.2.2.2.2.2.1, Y.2.2.2.2.2.2.2.2.1, Y.2.2.2.2.2.2.2.2.2.1, Y.2.2.2.2.2.2.2.2.2.2), pa, kp, tl, wr, tw, rfl, rfl, (by subst pre6; exact ra_w (rw_shelf wf rel n1t n2t n3t kt g6 f_397 (pl_ll rel f_382 f_383) rfl) ⟨rfl, rfl, rfl, rfl⟩ hcnt htl rfl)⟩
      · show _
        exact absurd (g8.symm.trans f_386) (by simp)
  · show _
    obtain ⟨n1t, n2t, n3t⟩ := rk_some rel g2 g3
    have hnet := (i32_pos n1t).2.1
    have tht := wf.1 _ _ g3
    obtain ⟨n1q9, n2q9, n3q9⟩ := rk_some rel g5 g8
    have hneq9 := (i32_pos n1q9).2.1
    have thq9 := wf.1 _ _ g8
    have kt := cIs_1 (ki_9 wf tht.1 tht.2 g4)
    have kq9 := cIs_2 (ki_12 wf thq9.1 thq9.2 g9x0)
    have hvt := rv_shelf rel n1t n2t n3t kt g6
    have hvq9 := rv_box rel n1q9 n2q9 n3q9 (by omega)
    have hsr := rv_sr rel n1t n2t n3t
    have hl : lv_has ls 7 [(0, .ref (g 8)), (1, .int 10), (2, .int a0), (3, .int b0), (4, .int c0)] := hl
    refine lv_iload_n hx hb dX12_boxes_0 rfl (lv_at hl 1 rfl) ?_
    refine lv_tableIn (off := 143) (tgt := 144) hx hb dX12_boxes_1 (by decide) (by decide) (by decide) (by decide) ?_
    refine lv_aload_n hx hb dX12_boxes_144 rfl (lv_at hl 0 rfl) ?_
    refine lv_iload_n hx hb dX12_boxes_145 rfl (lv_at hl 2 rfl) ?_
    refine lv_iload_n hx hb dX12_boxes_146 rfl (lv_at hl 1 rfl) ?_
    refine lv_bipush (v := 10) hx hb dX12_boxes_147 (by decide) ?_
    refine lv_icmp_ne (tgt := 157) hx hb dX12_boxes_149 (by decide) (fun c9 => absurd (by decide) c9) (fun _ => ?_)
    refine lv_bipush (v := 9) hx hb dX12_boxes_152 (by decide) ?_
    refine lv_goto (tgt := 159) hx hb dX12_boxes_154 (by decide) ?_
    refine cV_i (C := RX12) (n := 2) (rest := []) hx hb hml hown hg hT (c_X12_thing l dC dI g ty s.heap.size Y pa kp ks I tl ac wr tw ρ pl P a0 9 (by exact rel) (by exact wf) (by exact i32_in (by decide) (by decide))) (cv_of hg wM_X12_131 wN_X12_thing wL_X12_X12_thing wK_X12_thing wI_X12 (by decide +kernel) ⟨Nat.le_of_ble_eq_true rfl, Nat.le_of_ble_eq_true rfl⟩) hK hP hD hS hA (va_recv hK hP (ci := 14) (q0 := 0) rfl rfl) rfl hl.1 rfl (Nat.le_of_ble_eq_true rfl) dX12_boxes_159 ⟨Nat.le_of_ble_eq_true rfl, Nat.le_of_ble_eq_true rfl⟩ (fun r_406 u_407 H locs q_405 hP hD hS => ?_)
    rcases q_405 with ⟨rfl, rfl, f_408⟩ | ⟨t_409, rfl, rfl, f_410, f_411, f_412⟩ | ⟨rfl, rfl, f_413, f_414⟩ | ⟨t_415, rfl, rfl, f_416, f_417, f_418⟩
    · show _
      exact absurd (by assumption) f_408
    · show _
      obtain rfl := Option.some.inj (g3.symm.trans f_411); exact absurd (g4.symm.trans f_412) (by decide)
    · show _
      exact absurd (g3.symm.trans f_414) (by simp)
    · show _
      obtain rfl := Option.some.inj (g3.symm.trans f_417)
      have hP : va_P (dC, dI) vwCl (rW g ty Y pa kp ks I tl ac wr tw) H := hP
      have hD : va_D A (rW g ty Y pa kp ks I tl ac wr tw) := hD
      refine lv_if_eq (tgt := 209) hx hb dX12_boxes_162 (by decide) (fun c9 => absurd c9 (by decide)) (fun _ => ?_)
      refine lv_aload_n hx hb dX12_boxes_165 rfl (lv_at hl 0 rfl) ?_
      refine lv_iload hx hb dX12_boxes_166 (lv_at hl 4 rfl) ?_
      refine lv_iload_n hx hb dX12_boxes_168 rfl (lv_at hl 1 rfl) ?_
      refine lv_bipush (v := 10) hx hb dX12_boxes_169 (by decide) ?_
      refine lv_icmp_ne (tgt := 179) hx hb dX12_boxes_171 (by decide) (fun c9 => absurd (by decide) c9) (fun _ => ?_)
      refine lv_bipush (v := 12) hx hb dX12_boxes_174 (by decide) ?_
      refine lv_goto (tgt := 181) hx hb dX12_boxes_176 (by decide) ?_
      refine cV_i (C := RX12) (n := 2) (rest := []) hx hb hml hown hg hT (c_X12_thing l dC dI g ty H.size Y pa kp ks I tl ac wr tw ρ pl P c0 12 (by exact rel) (by exact wf) (by exact i32_in (by decide) (by decide))) (cv_of hg wM_X12_131 wN_X12_thing wL_X12_X12_thing wK_X12_thing wI_X12 (by decide +kernel) ⟨Nat.le_of_ble_eq_true rfl, Nat.le_of_ble_eq_true rfl⟩) hK hP hD hS hA (va_recv hK hP (ci := 14) (q0 := 0) rfl rfl) rfl hl.1 rfl (Nat.le_of_ble_eq_true rfl) dX12_boxes_181 ⟨Nat.le_of_ble_eq_true rfl, Nat.le_of_ble_eq_true rfl⟩ (fun r_420 u_421 H locs q_419 hP hD hS => ?_)
      rcases q_419 with ⟨rfl, rfl, f_422⟩ | ⟨t_423, rfl, rfl, f_424, f_425, f_426⟩ | ⟨rfl, rfl, f_427, f_428⟩ | ⟨t_429, rfl, rfl, f_430, f_431, f_432⟩
      · show _
        exact absurd (by assumption) f_422
      · show _
        obtain rfl := Option.some.inj (g8.symm.trans f_425); exact absurd (g9x0.symm.trans f_426) (by decide)
      · show _
        exact absurd (g8.symm.trans f_428) (by simp)
      · show _
        obtain rfl := Option.some.inj (g8.symm.trans f_431)
        have hP : va_P (dC, dI) vwCl (rW g ty Y pa kp ks I tl ac wr tw) H := hP
        have hD : va_D A (rW g ty Y pa kp ks I tl ac wr tw) := hD
        refine lv_if_eq (tgt := 209) hx hb dX12_boxes_184 (by decide) (fun c9 => absurd c9 (by decide)) (fun _ => ?_)
        refine lv_aload_n hx hb dX12_boxes_187 rfl (lv_at hl 0 rfl) ?_
        refine lv_iload_n hx hb dX12_boxes_188 rfl (lv_at hl 2 rfl) ?_
        refine cV_i (C := RX12) (n := 1) (rest := []) hx hb hml hown hg hT (c_X12_need l dC dI g ty H.size Y pa kp ks I tl ac wr tw a0 (by assumption)) (cv_of hg wM_X12_134 wN_X12_need wL_X12_X12_need wK_X12_need wI_X12 (by decide +kernel) ⟨Nat.le_of_ble_eq_true rfl, Nat.le_of_ble_eq_true rfl⟩) hK hP hD hS hA (va_recv hK hP (ci := 14) (q0 := 0) rfl rfl) rfl hl.1 rfl (Nat.le_of_ble_eq_true rfl) dX12_boxes_189 ⟨Nat.le_of_ble_eq_true rfl, Nat.le_of_ble_eq_true rfl⟩ (fun r_434 u_435 H locs q_433 hP hD hS => ?_)
        rcases q_433 with ⟨rfl, rfl, f_436⟩ | ⟨rfl, rfl, f_437⟩
        · show _
          exact absurd f_436 (by assumption)
        · show _
          have hP : va_P (dC, dI) vwCl (rW g ty Y pa kp ks I tl ac wr tw) H := hP
          have hD : va_D A (rW g ty Y pa kp ks I tl ac wr tw) := hD
          refine lv_if_eq (tgt := 209) hx hb dX12_boxes_192 (by decide) (fun c9 => absurd c9 (by decide)) (fun _ => ?_)
          refine lv_aload_n hx hb dX12_boxes_195 rfl (lv_at hl 0 rfl) ?_
          refine lv_aload_n hx hb dX12_boxes_196 rfl (lv_at hl 0 rfl) ?_
          refine va_get (D := (dC, dI)) (ci := 14) (v := .ref (g 9)) (C := RX12) (T := TX12) (N := 21) hx hb hg inG12 hown hK hP 0 rfl rfl 8 (by decide) (hg _ wF_X12_34) (fun _ h9 => h9) rfl dX12_boxes_197 ?_
          refine lv_iload_n hx hb dX12_boxes_200 rfl (lv_at hl 2 rfl) ?_
          refine va_iald hx hb hK hP 7 0 rfl rfl (by assumption) dX12_boxes_201 ?_
          refine lv_iload_n hx hb dX12_boxes_202 rfl (lv_at hl 3 rfl) ?_
          refine cV_i (C := RX12) (n := 2) (rest := []) hx hb hml hown hg hT (c_X12_indexN l dC dI g ty H.size Y pa kp ks I tl ac wr tw (P.2.2.2.2.2.1 y) (pa a0.toNatClampNeg) b0 (by exact hvt.1) (by exact hvt.2.1) (by exact hvt.2.2.1)) (cv_of hg wM_X12_137 wN_X12_index wL_X12_X12_index wK_X12_index wI_X12 (by decide +kernel) ⟨Nat.le_of_ble_eq_true rfl, Nat.le_of_ble_eq_true rfl⟩) hK hP hD hS hA (va_recv hK hP (ci := 14) (q0 := 0) rfl rfl) rfl hl.1 rfl (Nat.le_of_ble_eq_true rfl) dX12_boxes_203 ⟨Nat.le_of_ble_eq_true rfl, Nat.le_of_ble_eq_true rfl⟩ (fun r_439 u_440 H locs q_438 hP hD hS => ?_)
          rcases q_438 with ⟨rfl, rfl, f_441⟩ | ⟨rfl, rfl, f_442⟩
          · show _
            exact absurd (by assumption) f_441
          · show _
            have hP : va_P (dC, dI) vwCl (rW g ty Y pa kp ks I tl ac wr tw) H := hP
            have hD : va_D A (rW g ty Y pa kp ks I tl ac wr tw) := hD
            refine lv_if_ne (tgt := 214) hx hb dX12_boxes_206 (by decide) (fun _ => ?_) (fun c9 => absurd c9 (by decide)) 
            refine lv_aload_n hx hb dX12_boxes_214 rfl (lv_at hl 0 rfl) ?_
            refine va_get (D := (dC, dI)) (ci := 14) (v := .ref (Y.2.2.2.2.2.2.1 0)) (C := RX12) (T := TX12) (N := 21) hx hb hg inG12 hown hK hP 0 rfl rfl 0 (by decide) (hg _ wF_X12_7) (fun _ h9 => h9) rfl dX12_boxes_215 ?_
            refine lv_aload_n hx hb dX12_boxes_218 rfl (lv_at hl 0 rfl) ?_
            refine va_get (D := (dC, dI)) (ci := 14) (v := .ref (g 9)) (C := RX12) (T := TX12) (N := 21) hx hb hg inG12 hown hK hP 0 rfl rfl 8 (by decide) (hg _ wF_X12_34) (fun _ h9 => h9) rfl dX12_boxes_219 ?_
            refine lv_iload_n hx hb dX12_boxes_222 rfl (lv_at hl 2 rfl) ?_
            refine va_iald hx hb hK hP 7 0 rfl rfl (by assumption) dX12_boxes_223 ?_
            refine va_iald hx hb hK hP 1 0 rfl rfl (by exact hvt.1) dX12_boxes_224 ?_
            refine lv_bipush (v := 10) hx hb dX12_boxes_225 (by decide) ?_
            refine lv_icmp_ne (tgt := 267) hx hb dX12_boxes_227 (by decide) (fun c_443 => ?_) (fun c_443 => ?_)
            · show _
              refine lv_aload_n hx hb dX12_boxes_267 rfl (lv_at hl 0 rfl) ?_
              refine lv_aload_n hx hb dX12_boxes_268 rfl (lv_at hl 0 rfl) ?_
              refine va_get (D := (dC, dI)) (ci := 14) (v := .ref (g 9)) (C := RX12) (T := TX12) (N := 21) hx hb hg inG12 hown hK hP 0 rfl rfl 8 (by decide) (hg _ wF_X12_34) (fun _ h9 => h9) rfl dX12_boxes_269 ?_
              refine lv_iload_n hx hb dX12_boxes_272 rfl (lv_at hl 2 rfl) ?_
              refine va_iald hx hb hK hP 7 0 rfl rfl (by assumption) dX12_boxes_273 ?_
              refine lv_iload_n hx hb dX12_boxes_274 rfl (lv_at hl 3 rfl) ?_
              refine lv_aload_n hx hb dX12_boxes_275 rfl (lv_at hl 0 rfl) ?_
              refine va_get (D := (dC, dI)) (ci := 14) (v := .ref (g 9)) (C := RX12) (T := TX12) (N := 21) hx hb hg inG12 hown hK hP 0 rfl rfl 8 (by decide) (hg _ wF_X12_34) (fun _ h9 => h9) rfl dX12_boxes_276 ?_
              refine lv_iload hx hb dX12_boxes_279 (lv_at hl 4 rfl) ?_
              refine va_iald hx hb hK hP 7 0 rfl rfl (by assumption) dX12_boxes_281 ?_
              refine lv_i2l (v := ((pa c0.toNatClampNeg).toInt64)) hx hb dX12_boxes_282 rfl ?_
              refine cV_v (C := RX12) (n := 3) (rest := []) hx hb hml hown hg hT (c_X12_put l dC dI g ty H.size Y pa kp ks I tl ac wr tw (pa a0.toNatClampNeg) b0 ((pa c0.toNatClampNeg).toInt64) (by exact hvt.1) (by exact (hvt.2.2.2 _ (by assumption)).1)) (cv_of hg wM_X12_151 wN_X12_put wL_X12_X12_put wK_X12_put wI_X12 (by decide +kernel) ⟨Nat.le_of_ble_eq_true rfl, Nat.le_of_ble_eq_true rfl⟩) hK hP hD hS hA (va_recv hK hP (ci := 14) (q0 := 0) rfl rfl) rfl hl.1 rfl (Nat.le_of_ble_eq_true rfl) dX12_boxes_283 ⟨Nat.le_of_ble_eq_true rfl, Nat.le_of_ble_eq_true rfl⟩ (fun u_446 H locs q_444 hP hD hS => ?_)
              obtain rfl := q_444
              have hP : va_P (dC, dI) vwCl (rW g ty (Y.1, Y.2.1, Y.2.2.1, Y.2.2.2.1, Y.2.2.2.2.1, (vp_updL Y.2.2.2.2.2.1 (Y.2.1 (pa a0.toNatClampNeg).toNatClampNeg + b0).toNatClampNeg ((pa c0.toNatClampNeg).toInt64)), Y.2.2.2.2.2.2.1, Y.2.2.2.2.2.2.2.1, Y.2.2.2.2.2.2.2.2.1, Y.2.2.2.2.2.2.2.2.2.1, Y.2.2.2.2.2.2.2.2.2.2) pa kp ks I tl ac wr tw) H := hP
              have hD : va_D A (rW g ty (Y.1, Y.2.1, Y.2.2.1, Y.2.2.2.1, Y.2.2.2.2.1, (vp_updL Y.2.2.2.2.2.1 (Y.2.1 (pa a0.toNatClampNeg).toNatClampNeg + b0).toNatClampNeg ((pa c0.toNatClampNeg).toInt64)), Y.2.2.2.2.2.2.1, Y.2.2.2.2.2.2.2.1, Y.2.2.2.2.2.2.2.2.1, Y.2.2.2.2.2.2.2.2.2.1, Y.2.2.2.2.2.2.2.2.2.2) pa kp ks I tl ac wr tw) := hD
              refine lv_lconst (v := 0) hx hb dX12_boxes_286 (by decide) ?_
              refine cr_l (wo := fun u : rY × (Nat → Int32) × (Nat → Int32) × (Nat → Int32) × Int32 × Int32 => rW g ty u.1 u.2.1 u.2.2.1 ks I u.2.2.2.1 ac u.2.2.2.2.1 u.2.2.2.2.2) (((Y.1, Y.2.1, Y.2.2.1, Y.2.2.2.1, Y.2.2.2.2.1, (vp_updL Y.2.2.2.2.2.1 (Y.2.1 (pa a0.toNatClampNeg).toNatClampNeg + b0).toNatClampNeg ((pa c0.toNatClampNeg).toInt64)), Y.2.2.2.2.2.2.1, Y.2.2.2.2.2.2.2.1, Y.2.2.2.2.2.2.2.2.1, Y.2.2.2.2.2.2.2.2.2.1, Y.2.2.2.2.2.2.2.2.2.2), pa, kp, tl, wr, tw)) hx hb hr hlk hS hP hD ?_ dX12_boxes_287
              exact ⟨0, (Y.1, Y.2.1, Y.2.2.1, Y.2.2.2.1, Y.2.2.2.2.1, (vp_updL Y.2.2.2.2.2.1 (Y.2.1 (pa a0.toNatClampNeg).toNatClampNeg + b0).toNatClampNeg ((pa c0.toNatClampNeg).toInt64)), Y.2.2.2.2.2.2.1, Y.2.2.2.2.2.2.2.1, Y.2.2.2.2.2.2.2.2.1, Y.2.2.2.2.2.2.2.2.2.1, Y.2.2.2.2.2.2.2.2.2.2), pa, kp, tl, wr, tw, rfl, rfl, (by subst pre6; exact ra_w (rw_shelf wf rel n1t n2t n3t kt g6 f_442 (pl_ll rel f_430 f_431) rfl) ⟨rfl, rfl, rfl, rfl⟩ hcnt htl rfl)⟩
            · show _
              refine lv_aload_n hx hb dX12_boxes_230 rfl (lv_at hl 0 rfl) ?_
              refine va_get (D := (dC, dI)) (ci := 14) (v := .ref (g 9)) (C := RX12) (T := TX12) (N := 21) hx hb hg inG12 hown hK hP 0 rfl rfl 8 (by decide) (hg _ wF_X12_34) (fun _ h9 => h9) rfl dX12_boxes_231 ?_
              refine lv_iload hx hb dX12_boxes_234 (lv_at hl 4 rfl) ?_
              refine va_iald hx hb hK hP 7 0 rfl rfl (by assumption) dX12_boxes_236 ?_
              refine lv_if_eq (tgt := 267) hx hb dX12_boxes_237 (by decide) (fun c9 => absurd c9 hneq9) (fun _ => ?_)
              have h13 := sh_10 wf g3 g4 (sr_6n hsr kt c_443)
              have hi9 : ¬ (if (pa c0.toNatClampNeg) = 0 then 0 else rIs (Y.1 (pa c0.toNatClampNeg).toNatClampNeg) 13) = 0 := is_1 rel wf g5 (i32_in (by decide) (by decide)) f_431 (h13 ▸ g9x1)
              refine lv_aload_n hx hb dX12_boxes_240 rfl (lv_at hl 0 rfl) ?_
              refine lv_aload_n hx hb dX12_boxes_241 rfl (lv_at hl 0 rfl) ?_
              refine va_get (D := (dC, dI)) (ci := 14) (v := .ref (g 9)) (C := RX12) (T := TX12) (N := 21) hx hb hg inG12 hown hK hP 0 rfl rfl 8 (by decide) (hg _ wF_X12_34) (fun _ h9 => h9) rfl dX12_boxes_242 ?_
              refine lv_iload hx hb dX12_boxes_245 (lv_at hl 4 rfl) ?_
              refine va_iald hx hb hK hP 7 0 rfl rfl (by assumption) dX12_boxes_247 ?_
              refine lv_bipush (v := 13) hx hb dX12_boxes_248 (by decide) ?_
              refine cV_i (C := RX12) (n := 2) (rest := []) hx hb hml hown hg hT (c_X12_is l dC dI g ty H.size Y pa kp ks I tl ac wr tw (pa c0.toNatClampNeg) 13 (by exact rk_vin rel (by assumption))) (cv_of hg wM_X12_86 wN_X12_is wL_X12_X12_is wK_X12_is wI_X12 (by decide +kernel) ⟨Nat.le_of_ble_eq_true rfl, Nat.le_of_ble_eq_true rfl⟩) hK hP hD hS hA (va_recv hK hP (ci := 14) (q0 := 0) rfl rfl) rfl hl.1 rfl (Nat.le_of_ble_eq_true rfl) dX12_boxes_250 ⟨Nat.le_of_ble_eq_true rfl, Nat.le_of_ble_eq_true rfl⟩ (fun r_448 u_449 H locs q_447 hP hD hS => ?_)
              obtain rfl := q_447
              have hP : va_P (dC, dI) vwCl (rW g ty Y pa kp ks I tl ac wr tw) H := hP
              have hD : va_D A (rW g ty Y pa kp ks I tl ac wr tw) := hD
              refine lv_if_ne (tgt := 267) hx hb dX12_boxes_253 (by decide) (fun _ => ?_) (fun c9 => absurd c9 hi9)
              refine lv_aload_n hx hb dX12_boxes_267 rfl (lv_at hl 0 rfl) ?_
              refine lv_aload_n hx hb dX12_boxes_268 rfl (lv_at hl 0 rfl) ?_
              refine va_get (D := (dC, dI)) (ci := 14) (v := .ref (g 9)) (C := RX12) (T := TX12) (N := 21) hx hb hg inG12 hown hK hP 0 rfl rfl 8 (by decide) (hg _ wF_X12_34) (fun _ h9 => h9) rfl dX12_boxes_269 ?_
              refine lv_iload_n hx hb dX12_boxes_272 rfl (lv_at hl 2 rfl) ?_
              refine va_iald hx hb hK hP 7 0 rfl rfl (by assumption) dX12_boxes_273 ?_
              refine lv_iload_n hx hb dX12_boxes_274 rfl (lv_at hl 3 rfl) ?_
              refine lv_aload_n hx hb dX12_boxes_275 rfl (lv_at hl 0 rfl) ?_
              refine va_get (D := (dC, dI)) (ci := 14) (v := .ref (g 9)) (C := RX12) (T := TX12) (N := 21) hx hb hg inG12 hown hK hP 0 rfl rfl 8 (by decide) (hg _ wF_X12_34) (fun _ h9 => h9) rfl dX12_boxes_276 ?_
              refine lv_iload hx hb dX12_boxes_279 (lv_at hl 4 rfl) ?_
              refine va_iald hx hb hK hP 7 0 rfl rfl (by assumption) dX12_boxes_281 ?_
              refine lv_i2l (v := ((pa c0.toNatClampNeg).toInt64)) hx hb dX12_boxes_282 rfl ?_
              refine cV_v (C := RX12) (n := 3) (rest := []) hx hb hml hown hg hT (c_X12_put l dC dI g ty H.size Y pa kp ks I tl ac wr tw (pa a0.toNatClampNeg) b0 ((pa c0.toNatClampNeg).toInt64) (by exact hvt.1) (by exact (hvt.2.2.2 _ (by assumption)).1)) (cv_of hg wM_X12_151 wN_X12_put wL_X12_X12_put wK_X12_put wI_X12 (by decide +kernel) ⟨Nat.le_of_ble_eq_true rfl, Nat.le_of_ble_eq_true rfl⟩) hK hP hD hS hA (va_recv hK hP (ci := 14) (q0 := 0) rfl rfl) rfl hl.1 rfl (Nat.le_of_ble_eq_true rfl) dX12_boxes_283 ⟨Nat.le_of_ble_eq_true rfl, Nat.le_of_ble_eq_true rfl⟩ (fun u_452 H locs q_450 hP hD hS => ?_)
              obtain rfl := q_450
              have hP : va_P (dC, dI) vwCl (rW g ty (Y.1, Y.2.1, Y.2.2.1, Y.2.2.2.1, Y.2.2.2.2.1, (vp_updL Y.2.2.2.2.2.1 (Y.2.1 (pa a0.toNatClampNeg).toNatClampNeg + b0).toNatClampNeg ((pa c0.toNatClampNeg).toInt64)), Y.2.2.2.2.2.2.1, Y.2.2.2.2.2.2.2.1, Y.2.2.2.2.2.2.2.2.1, Y.2.2.2.2.2.2.2.2.2.1, Y.2.2.2.2.2.2.2.2.2.2) pa kp ks I tl ac wr tw) H := hP
              have hD : va_D A (rW g ty (Y.1, Y.2.1, Y.2.2.1, Y.2.2.2.1, Y.2.2.2.2.1, (vp_updL Y.2.2.2.2.2.1 (Y.2.1 (pa a0.toNatClampNeg).toNatClampNeg + b0).toNatClampNeg ((pa c0.toNatClampNeg).toInt64)), Y.2.2.2.2.2.2.1, Y.2.2.2.2.2.2.2.1, Y.2.2.2.2.2.2.2.2.1, Y.2.2.2.2.2.2.2.2.2.1, Y.2.2.2.2.2.2.2.2.2.2) pa kp ks I tl ac wr tw) := hD
              refine lv_lconst (v := 0) hx hb dX12_boxes_286 (by decide) ?_
              refine cr_l (wo := fun u : rY × (Nat → Int32) × (Nat → Int32) × (Nat → Int32) × Int32 × Int32 => rW g ty u.1 u.2.1 u.2.2.1 ks I u.2.2.2.1 ac u.2.2.2.2.1 u.2.2.2.2.2) (((Y.1, Y.2.1, Y.2.2.1, Y.2.2.2.1, Y.2.2.2.2.1, (vp_updL Y.2.2.2.2.2.1 (Y.2.1 (pa a0.toNatClampNeg).toNatClampNeg + b0).toNatClampNeg ((pa c0.toNatClampNeg).toInt64)), Y.2.2.2.2.2.2.1, Y.2.2.2.2.2.2.2.1, Y.2.2.2.2.2.2.2.2.1, Y.2.2.2.2.2.2.2.2.2.1, Y.2.2.2.2.2.2.2.2.2.2), pa, kp, tl, wr, tw)) hx hb hr hlk hS hP hD ?_ dX12_boxes_287
              exact ⟨0, (Y.1, Y.2.1, Y.2.2.1, Y.2.2.2.1, Y.2.2.2.2.1, (vp_updL Y.2.2.2.2.2.1 (Y.2.1 (pa a0.toNatClampNeg).toNatClampNeg + b0).toNatClampNeg ((pa c0.toNatClampNeg).toInt64)), Y.2.2.2.2.2.2.1, Y.2.2.2.2.2.2.2.1, Y.2.2.2.2.2.2.2.2.1, Y.2.2.2.2.2.2.2.2.2.1, Y.2.2.2.2.2.2.2.2.2.2), pa, kp, tl, wr, tw, rfl, rfl, (by subst pre6; exact ra_w (rw_shelf wf rel n1t n2t n3t kt g6 f_442 (pl_ll rel f_430 f_431) rfl) ⟨rfl, rfl, rfl, rfl⟩ hcnt htl rfl)⟩
set_option maxHeartbeats 800000 in
set_option maxRecDepth 100000 in
theorem c_X12_boxes_11 (l : Launch) (dC : Nat → ClassId) (dI : Nat → Nat → Nat) (g : Nat → Nat) (ty : Nat → ClassId) (sz : Nat) (Y : rY) (pa : Nat → Int32) (kp : Nat → Int32) (ks : Int32) (I : rI) (tl : Nat → Int32) (ac : Int64) (wr : Int32) (tw : Int32) (ρ : Nat → Nat) (pl : Nat → Option Nat) (P : cQ) (md : Int32) (Z : cZ) (rz9 : Int64) (u9 : Int32 × cQ) (a0 : Int32) (b0 : Int32) (c0 : Int32) (pre0 : rR Y.2.2.2.2.2.2.2.2.2.1 Y pa ρ pl P) (pre1 : cWF pl P) (pre2 : ks = 0) (pre3 : rCnt Y md) (pre4 : tl 5 = md) (pre5 : 0 ≤ md ∧ md ≤ 6000) (pre6 : tw = 0) (pre7 : q_X11_putIn 11 14 a0 b0 c0 pl ac (-1) md Z P rz9 u9) : Met l yX12_boxes (Cond.code yX12_boxes cX12_boxes 7 (some .long) :: gT) ({ frames := 3, cells := 0, slots := 0, locals := 82 }) (cP (dC, dI) (rTy ty) (rW g ty Y pa kp ks I tl ac wr tw) sz [.ref (g 8), .int 11, .int a0, .int b0, .int c0]) (va_Ql (fun (rz : Int64) (u : rY × (Nat → Int32) × (Nat → Int32) × (Nat → Int32) × Int32 × Int32) => ∃ (r' : Int64) (Y' : rY) (pa' kp' tl' : Nat → Int32) (wr' tw' : Int32), r' = rz ∧ (Y', pa', kp', tl', wr', tw') = u ∧ rAns u9.1 rz9 pl u9.2 md tl Y r' Y' pa' tl' wr' tw') (cB (dC, dI) (fun u : rY × (Nat → Int32) × (Nat → Int32) × (Nat → Int32) × Int32 × Int32 => rW g ty u.1 u.2.1 u.2.2.1 ks I u.2.2.2.1 ac u.2.2.2.2.1 u.2.2.2.2.2) (va_A (rW g ty Y pa kp ks I tl ac wr tw) sz)) (va_A (rW g ty Y pa kp ks I tl ac wr tw) sz)) 0 0 (va_A (rW g ty Y pa kp ks I tl ac wr tw) sz) := by
  refine cc_of (Qa := fun A => va_Ql (fun (rz : Int64) (u : rY × (Nat → Int32) × (Nat → Int32) × (Nat → Int32) × Int32 × Int32) => ∃ (r' : Int64) (Y' : rY) (pa' kp' tl' : Nat → Int32) (wr' tw' : Int32), r' = rz ∧ (Y', pa', kp', tl', wr', tw') = u ∧ rAns u9.1 rz9 pl u9.2 md tl Y r' Y' pa' tl' wr' tw') (cB (dC, dI) (fun u : rY × (Nat → Int32) × (Nat → Int32) × (Nat → Int32) × Int32 × Int32 => rW g ty u.1 u.2.1 u.2.2.1 ks I u.2.2.2.1 ac u.2.2.2.2.1 u.2.2.2.2.2) A) A) (by decide) (Nat.le_of_ble_eq_true rfl) ?_
  intro p e s m below meth c A hx hb hr hml hown hg hlk hmn hP hK hD hT hS hA hsz ls hl
  have hown : s.vm.findClass RX12 = some m.cls := hown
  have rel := pre0
  have wf := pre1
  have hcnt := pre3
  have htl := pre4
  rcases pre7 with ⟨rfl, rfl, g2⟩ | ⟨t, rfl, rfl, g2, g3, g4⟩ | ⟨rfl, rfl, g2, (g3 | ⟨q3, g3, g3x0⟩), g4⟩ | ⟨t, rfl, rfl, g2, (g3 | ⟨q3, g3, g3x0⟩), g4, g5, g6⟩ | ⟨rfl, rfl, g2, g3, g4, (g5 | ⟨q5, g5, g5x0⟩)⟩ | ⟨t, y, rfl, rfl, g2, g3, g4, g5, (g6 | ⟨q6, g6, g6x0⟩), g7, g8⟩ | ⟨t, y, q, rfl, rfl, g2, g3, g4, g5, g6, g7, g8, g9, g10⟩ | ⟨t, y, o, rfl, rfl, g2, g3, g4, g5, g6, g7, g8, (rfl | ⟨q9, rfl, g9x0, g9x1⟩)⟩
  · show _
    have hl : lv_has ls 7 [(0, .ref (g 8)), (1, .int 11), (2, .int a0), (3, .int b0), (4, .int c0)] := hl
    refine lv_iload_n hx hb dX12_boxes_0 rfl (lv_at hl 1 rfl) ?_
    refine lv_tableIn (off := 143) (tgt := 144) hx hb dX12_boxes_1 (by decide) (by decide) (by decide) (by decide) ?_
    refine lv_aload_n hx hb dX12_boxes_144 rfl (lv_at hl 0 rfl) ?_
    refine lv_iload_n hx hb dX12_boxes_145 rfl (lv_at hl 2 rfl) ?_
    refine lv_iload_n hx hb dX12_boxes_146 rfl (lv_at hl 1 rfl) ?_
    refine lv_bipush (v := 10) hx hb dX12_boxes_147 (by decide) ?_
    refine lv_icmp_ne (tgt := 157) hx hb dX12_boxes_149 (by decide) (fun _ => ?_) (fun c9 => absurd c9 (by decide)) 
    refine lv_bipush (v := 11) hx hb dX12_boxes_157 (by decide) ?_
    refine cV_i (C := RX12) (n := 2) (rest := []) hx hb hml hown hg hT (c_X12_thing l dC dI g ty s.heap.size Y pa kp ks I tl ac wr tw ρ pl P a0 11 (by exact rel) (by exact wf) (by exact i32_in (by decide) (by decide))) (cv_of hg wM_X12_131 wN_X12_thing wL_X12_X12_thing wK_X12_thing wI_X12 (by decide +kernel) ⟨Nat.le_of_ble_eq_true rfl, Nat.le_of_ble_eq_true rfl⟩) hK hP hD hS hA (va_recv hK hP (ci := 14) (q0 := 0) rfl rfl) rfl hl.1 rfl (Nat.le_of_ble_eq_true rfl) dX12_boxes_159 ⟨Nat.le_of_ble_eq_true rfl, Nat.le_of_ble_eq_true rfl⟩ (fun r_2 u_3 H locs q_1 hP hD hS => ?_)
    rcases q_1 with ⟨rfl, rfl, f_4⟩ | ⟨t_5, rfl, rfl, f_6, f_7, f_8⟩ | ⟨rfl, rfl, f_9, f_10⟩ | ⟨t_11, rfl, rfl, f_12, f_13, f_14⟩
    · show _
      have hP : va_P (dC, dI) vwCl (rW g ty Y pa kp ks I tl ac 2 tw) H := hP
      have hD : va_D A (rW g ty Y pa kp ks I tl ac 2 tw) := hD
      refine lv_if_eq (tgt := 209) hx hb dX12_boxes_162 (by decide) (fun _ => ?_) (fun c9 => absurd (by decide) c9) 
      refine lv_aload_n hx hb dX12_boxes_209 rfl (lv_at hl 0 rfl) ?_
      refine cV_l (C := RX12) (n := 0) (rest := []) hx hb hml hown hg hT (c_X12_no l dC dI g ty H.size Y pa kp ks I tl ac 2 tw  ) (cv_of hg wM_X12_107 wN_X12_no wL_X12_X12_no wK_X12_no wI_X12 (by decide +kernel) ⟨Nat.le_of_ble_eq_true rfl, Nat.le_of_ble_eq_true rfl⟩) hK hP hD hS hA (va_recv hK hP (ci := 14) (q0 := 0) rfl rfl) rfl hl.1 rfl (Nat.le_of_ble_eq_true rfl) dX12_boxes_210 ⟨Nat.le_of_ble_eq_true rfl, Nat.le_of_ble_eq_true rfl⟩ (fun r_16 u_17 H locs q_15 hP hD hS => ?_)
      obtain ⟨rfl, rfl⟩ := q_15
      have hP : va_P (dC, dI) vwCl (rW g ty Y pa kp ks I tl ac 2 1) H := hP
      have hD : va_D A (rW g ty Y pa kp ks I tl ac 2 1) := hD
      refine cr_l (wo := fun u : rY × (Nat → Int32) × (Nat → Int32) × (Nat → Int32) × Int32 × Int32 => rW g ty u.1 u.2.1 u.2.2.1 ks I u.2.2.2.1 ac u.2.2.2.2.1 u.2.2.2.2.2) ((Y, pa, kp, tl, 2, 1)) hx hb hr hlk hS hP hD ?_ dX12_boxes_213
      exact ⟨0, Y, pa, kp, tl, 2, 1, rfl, rfl, (by exact ra_f (f := 2) rel hcnt htl (by decide))⟩
    · show _
      exact absurd f_6 (by assumption)
    · show _
      exact absurd f_9 (by assumption)
    · show _
      exact absurd f_12 (by assumption)
  · show _
    obtain ⟨n1t, n2t, n3t⟩ := rk_some rel g2 g3
    have hnet := (i32_pos n1t).2.1
    have tht := wf.1 _ _ g3
    have hl : lv_has ls 7 [(0, .ref (g 8)), (1, .int 11), (2, .int a0), (3, .int b0), (4, .int c0)] := hl
    refine lv_iload_n hx hb dX12_boxes_0 rfl (lv_at hl 1 rfl) ?_
    refine lv_tableIn (off := 143) (tgt := 144) hx hb dX12_boxes_1 (by decide) (by decide) (by decide) (by decide) ?_
    refine lv_aload_n hx hb dX12_boxes_144 rfl (lv_at hl 0 rfl) ?_
    refine lv_iload_n hx hb dX12_boxes_145 rfl (lv_at hl 2 rfl) ?_
    refine lv_iload_n hx hb dX12_boxes_146 rfl (lv_at hl 1 rfl) ?_
    refine lv_bipush (v := 10) hx hb dX12_boxes_147 (by decide) ?_
    refine lv_icmp_ne (tgt := 157) hx hb dX12_boxes_149 (by decide) (fun _ => ?_) (fun c9 => absurd c9 (by decide)) 
    refine lv_bipush (v := 11) hx hb dX12_boxes_157 (by decide) ?_
    refine cV_i (C := RX12) (n := 2) (rest := []) hx hb hml hown hg hT (c_X12_thing l dC dI g ty s.heap.size Y pa kp ks I tl ac wr tw ρ pl P a0 11 (by exact rel) (by exact wf) (by exact i32_in (by decide) (by decide))) (cv_of hg wM_X12_131 wN_X12_thing wL_X12_X12_thing wK_X12_thing wI_X12 (by decide +kernel) ⟨Nat.le_of_ble_eq_true rfl, Nat.le_of_ble_eq_true rfl⟩) hK hP hD hS hA (va_recv hK hP (ci := 14) (q0 := 0) rfl rfl) rfl hl.1 rfl (Nat.le_of_ble_eq_true rfl) dX12_boxes_159 ⟨Nat.le_of_ble_eq_true rfl, Nat.le_of_ble_eq_true rfl⟩ (fun r_19 u_20 H locs q_18 hP hD hS => ?_)
    rcases q_18 with ⟨rfl, rfl, f_21⟩ | ⟨t_22, rfl, rfl, f_23, f_24, f_25⟩ | ⟨rfl, rfl, f_26, f_27⟩ | ⟨t_28, rfl, rfl, f_29, f_30, f_31⟩
    · show _
      exact absurd (by assumption) f_21
    · show _
      obtain rfl := Option.some.inj (g3.symm.trans f_24)
      have hP : va_P (dC, dI) vwCl (rW g ty Y pa kp ks I tl ac 3 tw) H := hP
      have hD : va_D A (rW g ty Y pa kp ks I tl ac 3 tw) := hD
      refine lv_if_eq (tgt := 209) hx hb dX12_boxes_162 (by decide) (fun _ => ?_) (fun c9 => absurd (by decide) c9) 
      refine lv_aload_n hx hb dX12_boxes_209 rfl (lv_at hl 0 rfl) ?_
      refine cV_l (C := RX12) (n := 0) (rest := []) hx hb hml hown hg hT (c_X12_no l dC dI g ty H.size Y pa kp ks I tl ac 3 tw  ) (cv_of hg wM_X12_107 wN_X12_no wL_X12_X12_no wK_X12_no wI_X12 (by decide +kernel) ⟨Nat.le_of_ble_eq_true rfl, Nat.le_of_ble_eq_true rfl⟩) hK hP hD hS hA (va_recv hK hP (ci := 14) (q0 := 0) rfl rfl) rfl hl.1 rfl (Nat.le_of_ble_eq_true rfl) dX12_boxes_210 ⟨Nat.le_of_ble_eq_true rfl, Nat.le_of_ble_eq_true rfl⟩ (fun r_33 u_34 H locs q_32 hP hD hS => ?_)
      obtain ⟨rfl, rfl⟩ := q_32
      have hP : va_P (dC, dI) vwCl (rW g ty Y pa kp ks I tl ac 3 1) H := hP
      have hD : va_D A (rW g ty Y pa kp ks I tl ac 3 1) := hD
      refine cr_l (wo := fun u : rY × (Nat → Int32) × (Nat → Int32) × (Nat → Int32) × Int32 × Int32 => rW g ty u.1 u.2.1 u.2.2.1 ks I u.2.2.2.1 ac u.2.2.2.2.1 u.2.2.2.2.2) ((Y, pa, kp, tl, 3, 1)) hx hb hr hlk hS hP hD ?_ dX12_boxes_213
      exact ⟨0, Y, pa, kp, tl, 3, 1, rfl, rfl, (by exact ra_f (f := 3) rel hcnt htl (by decide))⟩
    · show _
      exact absurd (g3.symm.trans f_27) (by simp)
    · show _
      obtain rfl := Option.some.inj (g3.symm.trans f_30); exact absurd (g4.symm.trans f_31) (by decide)
  · show _
    have hza0 := rk_none rel g2 g3
    have hl : lv_has ls 7 [(0, .ref (g 8)), (1, .int 11), (2, .int a0), (3, .int b0), (4, .int c0)] := hl
    refine lv_iload_n hx hb dX12_boxes_0 rfl (lv_at hl 1 rfl) ?_
    refine lv_tableIn (off := 143) (tgt := 144) hx hb dX12_boxes_1 (by decide) (by decide) (by decide) (by decide) ?_
    refine lv_aload_n hx hb dX12_boxes_144 rfl (lv_at hl 0 rfl) ?_
    refine lv_iload_n hx hb dX12_boxes_145 rfl (lv_at hl 2 rfl) ?_
    refine lv_iload_n hx hb dX12_boxes_146 rfl (lv_at hl 1 rfl) ?_
    refine lv_bipush (v := 10) hx hb dX12_boxes_147 (by decide) ?_
    refine lv_icmp_ne (tgt := 157) hx hb dX12_boxes_149 (by decide) (fun _ => ?_) (fun c9 => absurd c9 (by decide)) 
    refine lv_bipush (v := 11) hx hb dX12_boxes_157 (by decide) ?_
    refine cV_i (C := RX12) (n := 2) (rest := []) hx hb hml hown hg hT (c_X12_thing l dC dI g ty s.heap.size Y pa kp ks I tl ac wr tw ρ pl P a0 11 (by exact rel) (by exact wf) (by exact i32_in (by decide) (by decide))) (cv_of hg wM_X12_131 wN_X12_thing wL_X12_X12_thing wK_X12_thing wI_X12 (by decide +kernel) ⟨Nat.le_of_ble_eq_true rfl, Nat.le_of_ble_eq_true rfl⟩) hK hP hD hS hA (va_recv hK hP (ci := 14) (q0 := 0) rfl rfl) rfl hl.1 rfl (Nat.le_of_ble_eq_true rfl) dX12_boxes_159 ⟨Nat.le_of_ble_eq_true rfl, Nat.le_of_ble_eq_true rfl⟩ (fun r_36 u_37 H locs q_35 hP hD hS => ?_)
    rcases q_35 with ⟨rfl, rfl, f_38⟩ | ⟨t_39, rfl, rfl, f_40, f_41, f_42⟩ | ⟨rfl, rfl, f_43, f_44⟩ | ⟨t_45, rfl, rfl, f_46, f_47, f_48⟩
    · show _
      exact absurd (by assumption) f_38
    · show _
      exact absurd (g3.symm.trans f_41) (by simp)
    · show _
      have hP : va_P (dC, dI) vwCl (rW g ty Y pa kp ks I tl ac wr tw) H := hP
      have hD : va_D A (rW g ty Y pa kp ks I tl ac wr tw) := hD
      refine lv_if_eq (tgt := 209) hx hb dX12_boxes_162 (by decide) (fun c9 => absurd c9 (by decide)) (fun _ => ?_)
      refine lv_aload_n hx hb dX12_boxes_165 rfl (lv_at hl 0 rfl) ?_
      refine lv_iload hx hb dX12_boxes_166 (lv_at hl 4 rfl) ?_
      refine lv_iload_n hx hb dX12_boxes_168 rfl (lv_at hl 1 rfl) ?_
      refine lv_bipush (v := 10) hx hb dX12_boxes_169 (by decide) ?_
      refine lv_icmp_ne (tgt := 179) hx hb dX12_boxes_171 (by decide) (fun _ => ?_) (fun c9 => absurd c9 (by decide)) 
      refine lv_bipush (v := 14) hx hb dX12_boxes_179 (by decide) ?_
      refine cV_i (C := RX12) (n := 2) (rest := []) hx hb hml hown hg hT (c_X12_thing l dC dI g ty H.size Y pa kp ks I tl ac wr tw ρ pl P c0 14 (by exact rel) (by exact wf) (by exact i32_in (by decide) (by decide))) (cv_of hg wM_X12_131 wN_X12_thing wL_X12_X12_thing wK_X12_thing wI_X12 (by decide +kernel) ⟨Nat.le_of_ble_eq_true rfl, Nat.le_of_ble_eq_true rfl⟩) hK hP hD hS hA (va_recv hK hP (ci := 14) (q0 := 0) rfl rfl) rfl hl.1 rfl (Nat.le_of_ble_eq_true rfl) dX12_boxes_181 ⟨Nat.le_of_ble_eq_true rfl, Nat.le_of_ble_eq_true rfl⟩ (fun r_50 u_51 H locs q_49 hP hD hS => ?_)
      rcases q_49 with ⟨rfl, rfl, f_52⟩ | ⟨t_53, rfl, rfl, f_54, f_55, f_56⟩ | ⟨rfl, rfl, f_57, f_58⟩ | ⟨t_59, rfl, rfl, f_60, f_61, f_62⟩
      · show _
        have hP : va_P (dC, dI) vwCl (rW g ty Y pa kp ks I tl ac 2 tw) H := hP
        have hD : va_D A (rW g ty Y pa kp ks I tl ac 2 tw) := hD
        refine lv_if_eq (tgt := 209) hx hb dX12_boxes_184 (by decide) (fun _ => ?_) (fun c9 => absurd (by decide) c9) 
        refine lv_aload_n hx hb dX12_boxes_209 rfl (lv_at hl 0 rfl) ?_
        refine cV_l (C := RX12) (n := 0) (rest := []) hx hb hml hown hg hT (c_X12_no l dC dI g ty H.size Y pa kp ks I tl ac 2 tw  ) (cv_of hg wM_X12_107 wN_X12_no wL_X12_X12_no wK_X12_no wI_X12 (by decide +kernel) ⟨Nat.le_of_ble_eq_true rfl, Nat.le_of_ble_eq_true rfl⟩) hK hP hD hS hA (va_recv hK hP (ci := 14) (q0 := 0) rfl rfl) rfl hl.1 rfl (Nat.le_of_ble_eq_true rfl) dX12_boxes_210 ⟨Nat.le_of_ble_eq_true rfl, Nat.le_of_ble_eq_true rfl⟩ (fun r_64 u_65 H locs q_63 hP hD hS => ?_)
        obtain ⟨rfl, rfl⟩ := q_63
        have hP : va_P (dC, dI) vwCl (rW g ty Y pa kp ks I tl ac 2 1) H := hP
        have hD : va_D A (rW g ty Y pa kp ks I tl ac 2 1) := hD
        refine cr_l (wo := fun u : rY × (Nat → Int32) × (Nat → Int32) × (Nat → Int32) × Int32 × Int32 => rW g ty u.1 u.2.1 u.2.2.1 ks I u.2.2.2.1 ac u.2.2.2.2.1 u.2.2.2.2.2) ((Y, pa, kp, tl, 2, 1)) hx hb hr hlk hS hP hD ?_ dX12_boxes_213
        exact ⟨0, Y, pa, kp, tl, 2, 1, rfl, rfl, (by exact ra_f (f := 2) rel hcnt htl (by decide))⟩
      · show _
        exact absurd f_54 (by assumption)
      · show _
        exact absurd f_57 (by assumption)
      · show _
        exact absurd f_60 (by assumption)
    · show _
      exact absurd (g3.symm.trans f_47) (by simp)
  · show _
    obtain ⟨n1q3, n2q3, n3q3⟩ := rk_some rel g2 g3
    have hneq3 := (i32_pos n1q3).2.1
    have thq3 := wf.1 _ _ g3
    have kq3 := cIs_1 (ki_11 wf thq3.1 thq3.2 g3x0)
    have hl : lv_has ls 7 [(0, .ref (g 8)), (1, .int 11), (2, .int a0), (3, .int b0), (4, .int c0)] := hl
    refine lv_iload_n hx hb dX12_boxes_0 rfl (lv_at hl 1 rfl) ?_
    refine lv_tableIn (off := 143) (tgt := 144) hx hb dX12_boxes_1 (by decide) (by decide) (by decide) (by decide) ?_
    refine lv_aload_n hx hb dX12_boxes_144 rfl (lv_at hl 0 rfl) ?_
    refine lv_iload_n hx hb dX12_boxes_145 rfl (lv_at hl 2 rfl) ?_
    refine lv_iload_n hx hb dX12_boxes_146 rfl (lv_at hl 1 rfl) ?_
    refine lv_bipush (v := 10) hx hb dX12_boxes_147 (by decide) ?_
    refine lv_icmp_ne (tgt := 157) hx hb dX12_boxes_149 (by decide) (fun _ => ?_) (fun c9 => absurd c9 (by decide)) 
    refine lv_bipush (v := 11) hx hb dX12_boxes_157 (by decide) ?_
    refine cV_i (C := RX12) (n := 2) (rest := []) hx hb hml hown hg hT (c_X12_thing l dC dI g ty s.heap.size Y pa kp ks I tl ac wr tw ρ pl P a0 11 (by exact rel) (by exact wf) (by exact i32_in (by decide) (by decide))) (cv_of hg wM_X12_131 wN_X12_thing wL_X12_X12_thing wK_X12_thing wI_X12 (by decide +kernel) ⟨Nat.le_of_ble_eq_true rfl, Nat.le_of_ble_eq_true rfl⟩) hK hP hD hS hA (va_recv hK hP (ci := 14) (q0 := 0) rfl rfl) rfl hl.1 rfl (Nat.le_of_ble_eq_true rfl) dX12_boxes_159 ⟨Nat.le_of_ble_eq_true rfl, Nat.le_of_ble_eq_true rfl⟩ (fun r_67 u_68 H locs q_66 hP hD hS => ?_)
    rcases q_66 with ⟨rfl, rfl, f_69⟩ | ⟨t_70, rfl, rfl, f_71, f_72, f_73⟩ | ⟨rfl, rfl, f_74, f_75⟩ | ⟨t_76, rfl, rfl, f_77, f_78, f_79⟩
    · show _
      exact absurd (by assumption) f_69
    · show _
      obtain rfl := Option.some.inj (g3.symm.trans f_72); exact absurd (g3x0.symm.trans f_73) (by decide)
    · show _
      exact absurd (g3.symm.trans f_75) (by simp)
    · show _
      obtain rfl := Option.some.inj (g3.symm.trans f_78)
      have hP : va_P (dC, dI) vwCl (rW g ty Y pa kp ks I tl ac wr tw) H := hP
      have hD : va_D A (rW g ty Y pa kp ks I tl ac wr tw) := hD
      refine lv_if_eq (tgt := 209) hx hb dX12_boxes_162 (by decide) (fun c9 => absurd c9 (by decide)) (fun _ => ?_)
      refine lv_aload_n hx hb dX12_boxes_165 rfl (lv_at hl 0 rfl) ?_
      refine lv_iload hx hb dX12_boxes_166 (lv_at hl 4 rfl) ?_
      refine lv_iload_n hx hb dX12_boxes_168 rfl (lv_at hl 1 rfl) ?_
      refine lv_bipush (v := 10) hx hb dX12_boxes_169 (by decide) ?_
      refine lv_icmp_ne (tgt := 179) hx hb dX12_boxes_171 (by decide) (fun _ => ?_) (fun c9 => absurd c9 (by decide)) 
      refine lv_bipush (v := 14) hx hb dX12_boxes_179 (by decide) ?_
      refine cV_i (C := RX12) (n := 2) (rest := []) hx hb hml hown hg hT (c_X12_thing l dC dI g ty H.size Y pa kp ks I tl ac wr tw ρ pl P c0 14 (by exact rel) (by exact wf) (by exact i32_in (by decide) (by decide))) (cv_of hg wM_X12_131 wN_X12_thing wL_X12_X12_thing wK_X12_thing wI_X12 (by decide +kernel) ⟨Nat.le_of_ble_eq_true rfl, Nat.le_of_ble_eq_true rfl⟩) hK hP hD hS hA (va_recv hK hP (ci := 14) (q0 := 0) rfl rfl) rfl hl.1 rfl (Nat.le_of_ble_eq_true rfl) dX12_boxes_181 ⟨Nat.le_of_ble_eq_true rfl, Nat.le_of_ble_eq_true rfl⟩ (fun r_81 u_82 H locs q_80 hP hD hS => ?_)
      rcases q_80 with ⟨rfl, rfl, f_83⟩ | ⟨t_84, rfl, rfl, f_85, f_86, f_87⟩ | ⟨rfl, rfl, f_88, f_89⟩ | ⟨t_90, rfl, rfl, f_91, f_92, f_93⟩
      · show _
        have hP : va_P (dC, dI) vwCl (rW g ty Y pa kp ks I tl ac 2 tw) H := hP
        have hD : va_D A (rW g ty Y pa kp ks I tl ac 2 tw) := hD
        refine lv_if_eq (tgt := 209) hx hb dX12_boxes_184 (by decide) (fun _ => ?_) (fun c9 => absurd (by decide) c9) 
        refine lv_aload_n hx hb dX12_boxes_209 rfl (lv_at hl 0 rfl) ?_
        refine cV_l (C := RX12) (n := 0) (rest := []) hx hb hml hown hg hT (c_X12_no l dC dI g ty H.size Y pa kp ks I tl ac 2 tw  ) (cv_of hg wM_X12_107 wN_X12_no wL_X12_X12_no wK_X12_no wI_X12 (by decide +kernel) ⟨Nat.le_of_ble_eq_true rfl, Nat.le_of_ble_eq_true rfl⟩) hK hP hD hS hA (va_recv hK hP (ci := 14) (q0 := 0) rfl rfl) rfl hl.1 rfl (Nat.le_of_ble_eq_true rfl) dX12_boxes_210 ⟨Nat.le_of_ble_eq_true rfl, Nat.le_of_ble_eq_true rfl⟩ (fun r_95 u_96 H locs q_94 hP hD hS => ?_)
        obtain ⟨rfl, rfl⟩ := q_94
        have hP : va_P (dC, dI) vwCl (rW g ty Y pa kp ks I tl ac 2 1) H := hP
        have hD : va_D A (rW g ty Y pa kp ks I tl ac 2 1) := hD
        refine cr_l (wo := fun u : rY × (Nat → Int32) × (Nat → Int32) × (Nat → Int32) × Int32 × Int32 => rW g ty u.1 u.2.1 u.2.2.1 ks I u.2.2.2.1 ac u.2.2.2.2.1 u.2.2.2.2.2) ((Y, pa, kp, tl, 2, 1)) hx hb hr hlk hS hP hD ?_ dX12_boxes_213
        exact ⟨0, Y, pa, kp, tl, 2, 1, rfl, rfl, (by exact ra_f (f := 2) rel hcnt htl (by decide))⟩
      · show _
        exact absurd f_85 (by assumption)
      · show _
        exact absurd f_88 (by assumption)
      · show _
        exact absurd f_91 (by assumption)
  · show _
    have hza0 := rk_none rel g2 g3
    obtain ⟨n1t, n2t, n3t⟩ := rk_some rel g4 g5
    have hnet := (i32_pos n1t).2.1
    have tht := wf.1 _ _ g5
    have hl : lv_has ls 7 [(0, .ref (g 8)), (1, .int 11), (2, .int a0), (3, .int b0), (4, .int c0)] := hl
    refine lv_iload_n hx hb dX12_boxes_0 rfl (lv_at hl 1 rfl) ?_
    refine lv_tableIn (off := 143) (tgt := 144) hx hb dX12_boxes_1 (by decide) (by decide) (by decide) (by decide) ?_
    refine lv_aload_n hx hb dX12_boxes_144 rfl (lv_at hl 0 rfl) ?_
    refine lv_iload_n hx hb dX12_boxes_145 rfl (lv_at hl 2 rfl) ?_
    refine lv_iload_n hx hb dX12_boxes_146 rfl (lv_at hl 1 rfl) ?_
    refine lv_bipush (v := 10) hx hb dX12_boxes_147 (by decide) ?_
    refine lv_icmp_ne (tgt := 157) hx hb dX12_boxes_149 (by decide) (fun _ => ?_) (fun c9 => absurd c9 (by decide)) 
    refine lv_bipush (v := 11) hx hb dX12_boxes_157 (by decide) ?_
    refine cV_i (C := RX12) (n := 2) (rest := []) hx hb hml hown hg hT (c_X12_thing l dC dI g ty s.heap.size Y pa kp ks I tl ac wr tw ρ pl P a0 11 (by exact rel) (by exact wf) (by exact i32_in (by decide) (by decide))) (cv_of hg wM_X12_131 wN_X12_thing wL_X12_X12_thing wK_X12_thing wI_X12 (by decide +kernel) ⟨Nat.le_of_ble_eq_true rfl, Nat.le_of_ble_eq_true rfl⟩) hK hP hD hS hA (va_recv hK hP (ci := 14) (q0 := 0) rfl rfl) rfl hl.1 rfl (Nat.le_of_ble_eq_true rfl) dX12_boxes_159 ⟨Nat.le_of_ble_eq_true rfl, Nat.le_of_ble_eq_true rfl⟩ (fun r_98 u_99 H locs q_97 hP hD hS => ?_)
    rcases q_97 with ⟨rfl, rfl, f_100⟩ | ⟨t_101, rfl, rfl, f_102, f_103, f_104⟩ | ⟨rfl, rfl, f_105, f_106⟩ | ⟨t_107, rfl, rfl, f_108, f_109, f_110⟩
    · show _
      exact absurd (by assumption) f_100
    · show _
      exact absurd (g3.symm.trans f_103) (by simp)
    · show _
      have hP : va_P (dC, dI) vwCl (rW g ty Y pa kp ks I tl ac wr tw) H := hP
      have hD : va_D A (rW g ty Y pa kp ks I tl ac wr tw) := hD
      refine lv_if_eq (tgt := 209) hx hb dX12_boxes_162 (by decide) (fun c9 => absurd c9 (by decide)) (fun _ => ?_)
      refine lv_aload_n hx hb dX12_boxes_165 rfl (lv_at hl 0 rfl) ?_
      refine lv_iload hx hb dX12_boxes_166 (lv_at hl 4 rfl) ?_
      refine lv_iload_n hx hb dX12_boxes_168 rfl (lv_at hl 1 rfl) ?_
      refine lv_bipush (v := 10) hx hb dX12_boxes_169 (by decide) ?_
      refine lv_icmp_ne (tgt := 179) hx hb dX12_boxes_171 (by decide) (fun _ => ?_) (fun c9 => absurd c9 (by decide)) 
      refine lv_bipush (v := 14) hx hb dX12_boxes_179 (by decide) ?_
      refine cV_i (C := RX12) (n := 2) (rest := []) hx hb hml hown hg hT (c_X12_thing l dC dI g ty H.size Y pa kp ks I tl ac wr tw ρ pl P c0 14 (by exact rel) (by exact wf) (by exact i32_in (by decide) (by decide))) (cv_of hg wM_X12_131 wN_X12_thing wL_X12_X12_thing wK_X12_thing wI_X12 (by decide +kernel) ⟨Nat.le_of_ble_eq_true rfl, Nat.le_of_ble_eq_true rfl⟩) hK hP hD hS hA (va_recv hK hP (ci := 14) (q0 := 0) rfl rfl) rfl hl.1 rfl (Nat.le_of_ble_eq_true rfl) dX12_boxes_181 ⟨Nat.le_of_ble_eq_true rfl, Nat.le_of_ble_eq_true rfl⟩ (fun r_112 u_113 H locs q_111 hP hD hS => ?_)
      rcases q_111 with ⟨rfl, rfl, f_114⟩ | ⟨t_115, rfl, rfl, f_116, f_117, f_118⟩ | ⟨rfl, rfl, f_119, f_120⟩ | ⟨t_121, rfl, rfl, f_122, f_123, f_124⟩
      · show _
        exact absurd (by assumption) f_114
      · show _
        obtain rfl := Option.some.inj (g5.symm.trans f_117)
        have hP : va_P (dC, dI) vwCl (rW g ty Y pa kp ks I tl ac 3 tw) H := hP
        have hD : va_D A (rW g ty Y pa kp ks I tl ac 3 tw) := hD
        refine lv_if_eq (tgt := 209) hx hb dX12_boxes_184 (by decide) (fun _ => ?_) (fun c9 => absurd (by decide) c9) 
        refine lv_aload_n hx hb dX12_boxes_209 rfl (lv_at hl 0 rfl) ?_
        refine cV_l (C := RX12) (n := 0) (rest := []) hx hb hml hown hg hT (c_X12_no l dC dI g ty H.size Y pa kp ks I tl ac 3 tw  ) (cv_of hg wM_X12_107 wN_X12_no wL_X12_X12_no wK_X12_no wI_X12 (by decide +kernel) ⟨Nat.le_of_ble_eq_true rfl, Nat.le_of_ble_eq_true rfl⟩) hK hP hD hS hA (va_recv hK hP (ci := 14) (q0 := 0) rfl rfl) rfl hl.1 rfl (Nat.le_of_ble_eq_true rfl) dX12_boxes_210 ⟨Nat.le_of_ble_eq_true rfl, Nat.le_of_ble_eq_true rfl⟩ (fun r_126 u_127 H locs q_125 hP hD hS => ?_)
        obtain ⟨rfl, rfl⟩ := q_125
        have hP : va_P (dC, dI) vwCl (rW g ty Y pa kp ks I tl ac 3 1) H := hP
        have hD : va_D A (rW g ty Y pa kp ks I tl ac 3 1) := hD
        refine cr_l (wo := fun u : rY × (Nat → Int32) × (Nat → Int32) × (Nat → Int32) × Int32 × Int32 => rW g ty u.1 u.2.1 u.2.2.1 ks I u.2.2.2.1 ac u.2.2.2.2.1 u.2.2.2.2.2) ((Y, pa, kp, tl, 3, 1)) hx hb hr hlk hS hP hD ?_ dX12_boxes_213
        exact ⟨0, Y, pa, kp, tl, 3, 1, rfl, rfl, (by exact ra_f (f := 3) rel hcnt htl (by decide))⟩
      · show _
        exact absurd (g5.symm.trans f_120) (by simp)
      · show _
        obtain rfl := Option.some.inj (g5.symm.trans f_123); exact absurd (g6.symm.trans f_124) (by decide)
    · show _
      exact absurd (g3.symm.trans f_109) (by simp)
  · show _
    obtain ⟨n1q3, n2q3, n3q3⟩ := rk_some rel g2 g3
    have hneq3 := (i32_pos n1q3).2.1
    have thq3 := wf.1 _ _ g3
    obtain ⟨n1t, n2t, n3t⟩ := rk_some rel g4 g5
    have hnet := (i32_pos n1t).2.1
    have tht := wf.1 _ _ g5
    have kq3 := cIs_1 (ki_11 wf thq3.1 thq3.2 g3x0)
    have hl : lv_has ls 7 [(0, .ref (g 8)), (1, .int 11), (2, .int a0), (3, .int b0), (4, .int c0)] := hl
    refine lv_iload_n hx hb dX12_boxes_0 rfl (lv_at hl 1 rfl) ?_
    refine lv_tableIn (off := 143) (tgt := 144) hx hb dX12_boxes_1 (by decide) (by decide) (by decide) (by decide) ?_
    refine lv_aload_n hx hb dX12_boxes_144 rfl (lv_at hl 0 rfl) ?_
    refine lv_iload_n hx hb dX12_boxes_145 rfl (lv_at hl 2 rfl) ?_
    refine lv_iload_n hx hb dX12_boxes_146 rfl (lv_at hl 1 rfl) ?_
    refine lv_bipush (v := 10) hx hb dX12_boxes_147 (by decide) ?_
    refine lv_icmp_ne (tgt := 157) hx hb dX12_boxes_149 (by decide) (fun _ => ?_) (fun c9 => absurd c9 (by decide)) 
    refine lv_bipush (v := 11) hx hb dX12_boxes_157 (by decide) ?_
    refine cV_i (C := RX12) (n := 2) (rest := []) hx hb hml hown hg hT (c_X12_thing l dC dI g ty s.heap.size Y pa kp ks I tl ac wr tw ρ pl P a0 11 (by exact rel) (by exact wf) (by exact i32_in (by decide) (by decide))) (cv_of hg wM_X12_131 wN_X12_thing wL_X12_X12_thing wK_X12_thing wI_X12 (by decide +kernel) ⟨Nat.le_of_ble_eq_true rfl, Nat.le_of_ble_eq_true rfl⟩) hK hP hD hS hA (va_recv hK hP (ci := 14) (q0 := 0) rfl rfl) rfl hl.1 rfl (Nat.le_of_ble_eq_true rfl) dX12_boxes_159 ⟨Nat.le_of_ble_eq_true rfl, Nat.le_of_ble_eq_true rfl⟩ (fun r_129 u_130 H locs q_128 hP hD hS => ?_)
    rcases q_128 with ⟨rfl, rfl, f_131⟩ | ⟨t_132, rfl, rfl, f_133, f_134, f_135⟩ | ⟨rfl, rfl, f_136, f_137⟩ | ⟨t_138, rfl, rfl, f_139, f_140, f_141⟩
    · show _
      exact absurd (by assumption) f_131
    · show _
      obtain rfl := Option.some.inj (g3.symm.trans f_134); exact absurd (g3x0.symm.trans f_135) (by decide)
    · show _
      exact absurd (g3.symm.trans f_137) (by simp)
    · show _
      obtain rfl := Option.some.inj (g3.symm.trans f_140)
      have hP : va_P (dC, dI) vwCl (rW g ty Y pa kp ks I tl ac wr tw) H := hP
      have hD : va_D A (rW g ty Y pa kp ks I tl ac wr tw) := hD
      refine lv_if_eq (tgt := 209) hx hb dX12_boxes_162 (by decide) (fun c9 => absurd c9 (by decide)) (fun _ => ?_)
      refine lv_aload_n hx hb dX12_boxes_165 rfl (lv_at hl 0 rfl) ?_
      refine lv_iload hx hb dX12_boxes_166 (lv_at hl 4 rfl) ?_
      refine lv_iload_n hx hb dX12_boxes_168 rfl (lv_at hl 1 rfl) ?_
      refine lv_bipush (v := 10) hx hb dX12_boxes_169 (by decide) ?_
      refine lv_icmp_ne (tgt := 179) hx hb dX12_boxes_171 (by decide) (fun _ => ?_) (fun c9 => absurd c9 (by decide)) 
      refine lv_bipush (v := 14) hx hb dX12_boxes_179 (by decide) ?_
      refine cV_i (C := RX12) (n := 2) (rest := []) hx hb hml hown hg hT (c_X12_thing l dC dI g ty H.size Y pa kp ks I tl ac wr tw ρ pl P c0 14 (by exact rel) (by exact wf) (by exact i32_in (by decide) (by decide))) (cv_of hg wM_X12_131 wN_X12_thing wL_X12_X12_thing wK_X12_thing wI_X12 (by decide +kernel) ⟨Nat.le_of_ble_eq_true rfl, Nat.le_of_ble_eq_true rfl⟩) hK hP hD hS hA (va_recv hK hP (ci := 14) (q0 := 0) rfl rfl) rfl hl.1 rfl (Nat.le_of_ble_eq_true rfl) dX12_boxes_181 ⟨Nat.le_of_ble_eq_true rfl, Nat.le_of_ble_eq_true rfl⟩ (fun r_143 u_144 H locs q_142 hP hD hS => ?_)
      rcases q_142 with ⟨rfl, rfl, f_145⟩ | ⟨t_146, rfl, rfl, f_147, f_148, f_149⟩ | ⟨rfl, rfl, f_150, f_151⟩ | ⟨t_152, rfl, rfl, f_153, f_154, f_155⟩
      · show _
        exact absurd (by assumption) f_145
      · show _
        obtain rfl := Option.some.inj (g5.symm.trans f_148)
        have hP : va_P (dC, dI) vwCl (rW g ty Y pa kp ks I tl ac 3 tw) H := hP
        have hD : va_D A (rW g ty Y pa kp ks I tl ac 3 tw) := hD
        refine lv_if_eq (tgt := 209) hx hb dX12_boxes_184 (by decide) (fun _ => ?_) (fun c9 => absurd (by decide) c9) 
        refine lv_aload_n hx hb dX12_boxes_209 rfl (lv_at hl 0 rfl) ?_
        refine cV_l (C := RX12) (n := 0) (rest := []) hx hb hml hown hg hT (c_X12_no l dC dI g ty H.size Y pa kp ks I tl ac 3 tw  ) (cv_of hg wM_X12_107 wN_X12_no wL_X12_X12_no wK_X12_no wI_X12 (by decide +kernel) ⟨Nat.le_of_ble_eq_true rfl, Nat.le_of_ble_eq_true rfl⟩) hK hP hD hS hA (va_recv hK hP (ci := 14) (q0 := 0) rfl rfl) rfl hl.1 rfl (Nat.le_of_ble_eq_true rfl) dX12_boxes_210 ⟨Nat.le_of_ble_eq_true rfl, Nat.le_of_ble_eq_true rfl⟩ (fun r_157 u_158 H locs q_156 hP hD hS => ?_)
        obtain ⟨rfl, rfl⟩ := q_156
        have hP : va_P (dC, dI) vwCl (rW g ty Y pa kp ks I tl ac 3 1) H := hP
        have hD : va_D A (rW g ty Y pa kp ks I tl ac 3 1) := hD
        refine cr_l (wo := fun u : rY × (Nat → Int32) × (Nat → Int32) × (Nat → Int32) × Int32 × Int32 => rW g ty u.1 u.2.1 u.2.2.1 ks I u.2.2.2.1 ac u.2.2.2.2.1 u.2.2.2.2.2) ((Y, pa, kp, tl, 3, 1)) hx hb hr hlk hS hP hD ?_ dX12_boxes_213
        exact ⟨0, Y, pa, kp, tl, 3, 1, rfl, rfl, (by exact ra_f (f := 3) rel hcnt htl (by decide))⟩
      · show _
        exact absurd (g5.symm.trans f_151) (by simp)
      · show _
        obtain rfl := Option.some.inj (g5.symm.trans f_154); exact absurd (g6.symm.trans f_155) (by decide)
  · show _
    have hza0 := rk_none rel g2 g3
    have hzc0 := rk_none rel g4 g5
    have hl : lv_has ls 7 [(0, .ref (g 8)), (1, .int 11), (2, .int a0), (3, .int b0), (4, .int c0)] := hl
    refine lv_iload_n hx hb dX12_boxes_0 rfl (lv_at hl 1 rfl) ?_
    refine lv_tableIn (off := 143) (tgt := 144) hx hb dX12_boxes_1 (by decide) (by decide) (by decide) (by decide) ?_
    refine lv_aload_n hx hb dX12_boxes_144 rfl (lv_at hl 0 rfl) ?_
    refine lv_iload_n hx hb dX12_boxes_145 rfl (lv_at hl 2 rfl) ?_
    refine lv_iload_n hx hb dX12_boxes_146 rfl (lv_at hl 1 rfl) ?_
    refine lv_bipush (v := 10) hx hb dX12_boxes_147 (by decide) ?_
    refine lv_icmp_ne (tgt := 157) hx hb dX12_boxes_149 (by decide) (fun _ => ?_) (fun c9 => absurd c9 (by decide)) 
    refine lv_bipush (v := 11) hx hb dX12_boxes_157 (by decide) ?_
    refine cV_i (C := RX12) (n := 2) (rest := []) hx hb hml hown hg hT (c_X12_thing l dC dI g ty s.heap.size Y pa kp ks I tl ac wr tw ρ pl P a0 11 (by exact rel) (by exact wf) (by exact i32_in (by decide) (by decide))) (cv_of hg wM_X12_131 wN_X12_thing wL_X12_X12_thing wK_X12_thing wI_X12 (by decide +kernel) ⟨Nat.le_of_ble_eq_true rfl, Nat.le_of_ble_eq_true rfl⟩) hK hP hD hS hA (va_recv hK hP (ci := 14) (q0 := 0) rfl rfl) rfl hl.1 rfl (Nat.le_of_ble_eq_true rfl) dX12_boxes_159 ⟨Nat.le_of_ble_eq_true rfl, Nat.le_of_ble_eq_true rfl⟩ (fun r_160 u_161 H locs q_159 hP hD hS => ?_)
    rcases q_159 with ⟨rfl, rfl, f_162⟩ | ⟨t_163, rfl, rfl, f_164, f_165, f_166⟩ | ⟨rfl, rfl, f_167, f_168⟩ | ⟨t_169, rfl, rfl, f_170, f_171, f_172⟩
    · show _
      exact absurd (by assumption) f_162
    · show _
      exact absurd (g3.symm.trans f_165) (by simp)
    · show _
      have hP : va_P (dC, dI) vwCl (rW g ty Y pa kp ks I tl ac wr tw) H := hP
      have hD : va_D A (rW g ty Y pa kp ks I tl ac wr tw) := hD
      refine lv_if_eq (tgt := 209) hx hb dX12_boxes_162 (by decide) (fun c9 => absurd c9 (by decide)) (fun _ => ?_)
      refine lv_aload_n hx hb dX12_boxes_165 rfl (lv_at hl 0 rfl) ?_
      refine lv_iload hx hb dX12_boxes_166 (lv_at hl 4 rfl) ?_
      refine lv_iload_n hx hb dX12_boxes_168 rfl (lv_at hl 1 rfl) ?_
      refine lv_bipush (v := 10) hx hb dX12_boxes_169 (by decide) ?_
      refine lv_icmp_ne (tgt := 179) hx hb dX12_boxes_171 (by decide) (fun _ => ?_) (fun c9 => absurd c9 (by decide)) 
      refine lv_bipush (v := 14) hx hb dX12_boxes_179 (by decide) ?_
      refine cV_i (C := RX12) (n := 2) (rest := []) hx hb hml hown hg hT (c_X12_thing l dC dI g ty H.size Y pa kp ks I tl ac wr tw ρ pl P c0 14 (by exact rel) (by exact wf) (by exact i32_in (by decide) (by decide))) (cv_of hg wM_X12_131 wN_X12_thing wL_X12_X12_thing wK_X12_thing wI_X12 (by decide +kernel) ⟨Nat.le_of_ble_eq_true rfl, Nat.le_of_ble_eq_true rfl⟩) hK hP hD hS hA (va_recv hK hP (ci := 14) (q0 := 0) rfl rfl) rfl hl.1 rfl (Nat.le_of_ble_eq_true rfl) dX12_boxes_181 ⟨Nat.le_of_ble_eq_true rfl, Nat.le_of_ble_eq_true rfl⟩ (fun r_174 u_175 H locs q_173 hP hD hS => ?_)
      rcases q_173 with ⟨rfl, rfl, f_176⟩ | ⟨t_177, rfl, rfl, f_178, f_179, f_180⟩ | ⟨rfl, rfl, f_181, f_182⟩ | ⟨t_183, rfl, rfl, f_184, f_185, f_186⟩
      · show _
        exact absurd (by assumption) f_176
      · show _
        exact absurd (g5.symm.trans f_179) (by simp)
      · show _
        have hP : va_P (dC, dI) vwCl (rW g ty Y pa kp ks I tl ac wr tw) H := hP
        have hD : va_D A (rW g ty Y pa kp ks I tl ac wr tw) := hD
        refine lv_if_eq (tgt := 209) hx hb dX12_boxes_184 (by decide) (fun c9 => absurd c9 (by decide)) (fun _ => ?_)
        refine lv_aload_n hx hb dX12_boxes_187 rfl (lv_at hl 0 rfl) ?_
        refine lv_iload_n hx hb dX12_boxes_188 rfl (lv_at hl 2 rfl) ?_
        refine cV_i (C := RX12) (n := 1) (rest := []) hx hb hml hown hg hT (c_X12_need l dC dI g ty H.size Y pa kp ks I tl ac wr tw a0 (by assumption)) (cv_of hg wM_X12_134 wN_X12_need wL_X12_X12_need wK_X12_need wI_X12 (by decide +kernel) ⟨Nat.le_of_ble_eq_true rfl, Nat.le_of_ble_eq_true rfl⟩) hK hP hD hS hA (va_recv hK hP (ci := 14) (q0 := 0) rfl rfl) rfl hl.1 rfl (Nat.le_of_ble_eq_true rfl) dX12_boxes_189 ⟨Nat.le_of_ble_eq_true rfl, Nat.le_of_ble_eq_true rfl⟩ (fun r_188 u_189 H locs q_187 hP hD hS => ?_)
        rcases q_187 with ⟨rfl, rfl, f_190⟩ | ⟨rfl, rfl, f_191⟩
        · show _
          have hP : va_P (dC, dI) vwCl (rW g ty Y pa kp ks I tl ac 1 tw) H := hP
          have hD : va_D A (rW g ty Y pa kp ks I tl ac 1 tw) := hD
          refine lv_if_eq (tgt := 209) hx hb dX12_boxes_192 (by decide) (fun _ => ?_) (fun c9 => absurd (by decide) c9) 
          refine lv_aload_n hx hb dX12_boxes_209 rfl (lv_at hl 0 rfl) ?_
          refine cV_l (C := RX12) (n := 0) (rest := []) hx hb hml hown hg hT (c_X12_no l dC dI g ty H.size Y pa kp ks I tl ac 1 tw  ) (cv_of hg wM_X12_107 wN_X12_no wL_X12_X12_no wK_X12_no wI_X12 (by decide +kernel) ⟨Nat.le_of_ble_eq_true rfl, Nat.le_of_ble_eq_true rfl⟩) hK hP hD hS hA (va_recv hK hP (ci := 14) (q0 := 0) rfl rfl) rfl hl.1 rfl (Nat.le_of_ble_eq_true rfl) dX12_boxes_210 ⟨Nat.le_of_ble_eq_true rfl, Nat.le_of_ble_eq_true rfl⟩ (fun r_193 u_194 H locs q_192 hP hD hS => ?_)
          obtain ⟨rfl, rfl⟩ := q_192
          have hP : va_P (dC, dI) vwCl (rW g ty Y pa kp ks I tl ac 1 1) H := hP
          have hD : va_D A (rW g ty Y pa kp ks I tl ac 1 1) := hD
          refine cr_l (wo := fun u : rY × (Nat → Int32) × (Nat → Int32) × (Nat → Int32) × Int32 × Int32 => rW g ty u.1 u.2.1 u.2.2.1 ks I u.2.2.2.1 ac u.2.2.2.2.1 u.2.2.2.2.2) ((Y, pa, kp, tl, 1, 1)) hx hb hr hlk hS hP hD ?_ dX12_boxes_213
          exact ⟨0, Y, pa, kp, tl, 1, 1, rfl, rfl, (by exact ra_f (f := 1) rel hcnt htl (by decide))⟩
        · show _
          exact absurd (by assumption) f_191
      · show _
        exact absurd (g5.symm.trans f_185) (by simp)
    · show _
      exact absurd (g3.symm.trans f_171) (by simp)
  · show _
    have hza0 := rk_none rel g2 g3
    obtain ⟨n1q5, n2q5, n3q5⟩ := rk_some rel g4 g5
    have hneq5 := (i32_pos n1q5).2.1
    have thq5 := wf.1 _ _ g5
    have kq5 := cIs_3 (ki_14 wf thq5.1 thq5.2 g5x0)
    have hvq5 := rv_box rel n1q5 n2q5 n3q5 (by omega)
    have hl : lv_has ls 7 [(0, .ref (g 8)), (1, .int 11), (2, .int a0), (3, .int b0), (4, .int c0)] := hl
    refine lv_iload_n hx hb dX12_boxes_0 rfl (lv_at hl 1 rfl) ?_
    refine lv_tableIn (off := 143) (tgt := 144) hx hb dX12_boxes_1 (by decide) (by decide) (by decide) (by decide) ?_
    refine lv_aload_n hx hb dX12_boxes_144 rfl (lv_at hl 0 rfl) ?_
    refine lv_iload_n hx hb dX12_boxes_145 rfl (lv_at hl 2 rfl) ?_
    refine lv_iload_n hx hb dX12_boxes_146 rfl (lv_at hl 1 rfl) ?_
    refine lv_bipush (v := 10) hx hb dX12_boxes_147 (by decide) ?_
    refine lv_icmp_ne (tgt := 157) hx hb dX12_boxes_149 (by decide) (fun _ => ?_) (fun c9 => absurd c9 (by decide)) 
    refine lv_bipush (v := 11) hx hb dX12_boxes_157 (by decide) ?_
    refine cV_i (C := RX12) (n := 2) (rest := []) hx hb hml hown hg hT (c_X12_thing l dC dI g ty s.heap.size Y pa kp ks I tl ac wr tw ρ pl P a0 11 (by exact rel) (by exact wf) (by exact i32_in (by decide) (by decide))) (cv_of hg wM_X12_131 wN_X12_thing wL_X12_X12_thing wK_X12_thing wI_X12 (by decide +kernel) ⟨Nat.le_of_ble_eq_true rfl, Nat.le_of_ble_eq_true rfl⟩) hK hP hD hS hA (va_recv hK hP (ci := 14) (q0 := 0) rfl rfl) rfl hl.1 rfl (Nat.le_of_ble_eq_true rfl) dX12_boxes_159 ⟨Nat.le_of_ble_eq_true rfl, Nat.le_of_ble_eq_true rfl⟩ (fun r_196 u_197 H locs q_195 hP hD hS => ?_)
    rcases q_195 with ⟨rfl, rfl, f_198⟩ | ⟨t_199, rfl, rfl, f_200, f_201, f_202⟩ | ⟨rfl, rfl, f_203, f_204⟩ | ⟨t_205, rfl, rfl, f_206, f_207, f_208⟩
    · show _
      exact absurd (by assumption) f_198
    · show _
      exact absurd (g3.symm.trans f_201) (by simp)
    · show _
      have hP : va_P (dC, dI) vwCl (rW g ty Y pa kp ks I tl ac wr tw) H := hP
      have hD : va_D A (rW g ty Y pa kp ks I tl ac wr tw) := hD
      refine lv_if_eq (tgt := 209) hx hb dX12_boxes_162 (by decide) (fun c9 => absurd c9 (by decide)) (fun _ => ?_)
      refine lv_aload_n hx hb dX12_boxes_165 rfl (lv_at hl 0 rfl) ?_
      refine lv_iload hx hb dX12_boxes_166 (lv_at hl 4 rfl) ?_
      refine lv_iload_n hx hb dX12_boxes_168 rfl (lv_at hl 1 rfl) ?_
      refine lv_bipush (v := 10) hx hb dX12_boxes_169 (by decide) ?_
      refine lv_icmp_ne (tgt := 179) hx hb dX12_boxes_171 (by decide) (fun _ => ?_) (fun c9 => absurd c9 (by decide)) 
      refine lv_bipush (v := 14) hx hb dX12_boxes_179 (by decide) ?_
      refine cV_i (C := RX12) (n := 2) (rest := []) hx hb hml hown hg hT (c_X12_thing l dC dI g ty H.size Y pa kp ks I tl ac wr tw ρ pl P c0 14 (by exact rel) (by exact wf) (by exact i32_in (by decide) (by decide))) (cv_of hg wM_X12_131 wN_X12_thing wL_X12_X12_thing wK_X12_thing wI_X12 (by decide +kernel) ⟨Nat.le_of_ble_eq_true rfl, Nat.le_of_ble_eq_true rfl⟩) hK hP hD hS hA (va_recv hK hP (ci := 14) (q0 := 0) rfl rfl) rfl hl.1 rfl (Nat.le_of_ble_eq_true rfl) dX12_boxes_181 ⟨Nat.le_of_ble_eq_true rfl, Nat.le_of_ble_eq_true rfl⟩ (fun r_210 u_211 H locs q_209 hP hD hS => ?_)
      rcases q_209 with ⟨rfl, rfl, f_212⟩ | ⟨t_213, rfl, rfl, f_214, f_215, f_216⟩ | ⟨rfl, rfl, f_217, f_218⟩ | ⟨t_219, rfl, rfl, f_220, f_221, f_222⟩
      · show _
        exact absurd (by assumption) f_212
      · show _
        obtain rfl := Option.some.inj (g5.symm.trans f_215); exact absurd (g5x0.symm.trans f_216) (by decide)
      · show _
        exact absurd (g5.symm.trans f_218) (by simp)
      · show _
        obtain rfl := Option.some.inj (g5.symm.trans f_221)
        have hP : va_P (dC, dI) vwCl (rW g ty Y pa kp ks I tl ac wr tw) H := hP
        have hD : va_D A (rW g ty Y pa kp ks I tl ac wr tw) := hD
        refine lv_if_eq (tgt := 209) hx hb dX12_boxes_184 (by decide) (fun c9 => absurd c9 (by decide)) (fun _ => ?_)
        refine lv_aload_n hx hb dX12_boxes_187 rfl (lv_at hl 0 rfl) ?_
        refine lv_iload_n hx hb dX12_boxes_188 rfl (lv_at hl 2 rfl) ?_
        refine cV_i (C := RX12) (n := 1) (rest := []) hx hb hml hown hg hT (c_X12_need l dC dI g ty H.size Y pa kp ks I tl ac wr tw a0 (by assumption)) (cv_of hg wM_X12_134 wN_X12_need wL_X12_X12_need wK_X12_need wI_X12 (by decide +kernel) ⟨Nat.le_of_ble_eq_true rfl, Nat.le_of_ble_eq_true rfl⟩) hK hP hD hS hA (va_recv hK hP (ci := 14) (q0 := 0) rfl rfl) rfl hl.1 rfl (Nat.le_of_ble_eq_true rfl) dX12_boxes_189 ⟨Nat.le_of_ble_eq_true rfl, Nat.le_of_ble_eq_true rfl⟩ (fun r_224 u_225 H locs q_223 hP hD hS => ?_)
        rcases q_223 with ⟨rfl, rfl, f_226⟩ | ⟨rfl, rfl, f_227⟩
        · show _
          have hP : va_P (dC, dI) vwCl (rW g ty Y pa kp ks I tl ac 1 tw) H := hP
          have hD : va_D A (rW g ty Y pa kp ks I tl ac 1 tw) := hD
          refine lv_if_eq (tgt := 209) hx hb dX12_boxes_192 (by decide) (fun _ => ?_) (fun c9 => absurd (by decide) c9) 
          refine lv_aload_n hx hb dX12_boxes_209 rfl (lv_at hl 0 rfl) ?_
          refine cV_l (C := RX12) (n := 0) (rest := []) hx hb hml hown hg hT (c_X12_no l dC dI g ty H.size Y pa kp ks I tl ac 1 tw  ) (cv_of hg wM_X12_107 wN_X12_no wL_X12_X12_no wK_X12_no wI_X12 (by decide +kernel) ⟨Nat.le_of_ble_eq_true rfl, Nat.le_of_ble_eq_true rfl⟩) hK hP hD hS hA (va_recv hK hP (ci := 14) (q0 := 0) rfl rfl) rfl hl.1 rfl (Nat.le_of_ble_eq_true rfl) dX12_boxes_210 ⟨Nat.le_of_ble_eq_true rfl, Nat.le_of_ble_eq_true rfl⟩ (fun r_229 u_230 H locs q_228 hP hD hS => ?_)
          obtain ⟨rfl, rfl⟩ := q_228
          have hP : va_P (dC, dI) vwCl (rW g ty Y pa kp ks I tl ac 1 1) H := hP
          have hD : va_D A (rW g ty Y pa kp ks I tl ac 1 1) := hD
          refine cr_l (wo := fun u : rY × (Nat → Int32) × (Nat → Int32) × (Nat → Int32) × Int32 × Int32 => rW g ty u.1 u.2.1 u.2.2.1 ks I u.2.2.2.1 ac u.2.2.2.2.1 u.2.2.2.2.2) ((Y, pa, kp, tl, 1, 1)) hx hb hr hlk hS hP hD ?_ dX12_boxes_213
          exact ⟨0, Y, pa, kp, tl, 1, 1, rfl, rfl, (by exact ra_f (f := 1) rel hcnt htl (by decide))⟩
        · show _
          exact absurd (by assumption) f_227
    · show _
      exact absurd (g3.symm.trans f_207) (by simp)
  · show _
    obtain ⟨n1t, n2t, n3t⟩ := rk_some rel g2 g3
    have hnet := (i32_pos n1t).2.1
    have tht := wf.1 _ _ g3
    have hzc0 := rk_none rel g5 g6
    have kt := cIs_1 (ki_11 wf tht.1 tht.2 g4)
    have hvt := rv_shelf rel n1t n2t n3t kt g7
    have hsr := rv_sr rel n1t n2t n3t
    have hs11 : ¬ Y.1 (pa a0.toNatClampNeg).toNatClampNeg = 10 := by rw [sr_6 hsr kt (sh_11 wf g3 g4)]; decide
    have hl : lv_has ls 7 [(0, .ref (g 8)), (1, .int 11), (2, .int a0), (3, .int b0), (4, .int c0)] := hl
    refine lv_iload_n hx hb dX12_boxes_0 rfl (lv_at hl 1 rfl) ?_
    refine lv_tableIn (off := 143) (tgt := 144) hx hb dX12_boxes_1 (by decide) (by decide) (by decide) (by decide) ?_
    refine lv_aload_n hx hb dX12_boxes_144 rfl (lv_at hl 0 rfl) ?_
    refine lv_iload_n hx hb dX12_boxes_145 rfl (lv_at hl 2 rfl) ?_
    refine lv_iload_n hx hb dX12_boxes_146 rfl (lv_at hl 1 rfl) ?_
    refine lv_bipush (v := 10) hx hb dX12_boxes_147 (by decide) ?_
    refine lv_icmp_ne (tgt := 157) hx hb dX12_boxes_149 (by decide) (fun _ => ?_) (fun c9 => absurd c9 (by decide)) 
    refine lv_bipush (v := 11) hx hb dX12_boxes_157 (by decide) ?_
    refine cV_i (C := RX12) (n := 2) (rest := []) hx hb hml hown hg hT (c_X12_thing l dC dI g ty s.heap.size Y pa kp ks I tl ac wr tw ρ pl P a0 11 (by exact rel) (by exact wf) (by exact i32_in (by decide) (by decide))) (cv_of hg wM_X12_131 wN_X12_thing wL_X12_X12_thing wK_X12_thing wI_X12 (by decide +kernel) ⟨Nat.le_of_ble_eq_true rfl, Nat.le_of_ble_eq_true rfl⟩) hK hP hD hS hA (va_recv hK hP (ci := 14) (q0 := 0) rfl rfl) rfl hl.1 rfl (Nat.le_of_ble_eq_true rfl) dX12_boxes_159 ⟨Nat.le_of_ble_eq_true rfl, Nat.le_of_ble_eq_true rfl⟩ (fun r_232 u_233 H locs q_231 hP hD hS => ?_)
    rcases q_231 with ⟨rfl, rfl, f_234⟩ | ⟨t_235, rfl, rfl, f_236, f_237, f_238⟩ | ⟨rfl, rfl, f_239, f_240⟩ | ⟨t_241, rfl, rfl, f_242, f_243, f_244⟩
    · show _
      exact absurd (by assumption) f_234
    · show _
      obtain rfl := Option.some.inj (g3.symm.trans f_237); exact absurd (g4.symm.trans f_238) (by decide)
    · show _
      exact absurd (g3.symm.trans f_240) (by simp)
    · show _
      obtain rfl := Option.some.inj (g3.symm.trans f_243)
      have hP : va_P (dC, dI) vwCl (rW g ty Y pa kp ks I tl ac wr tw) H := hP
      have hD : va_D A (rW g ty Y pa kp ks I tl ac wr tw) := hD
      refine lv_if_eq (tgt := 209) hx hb dX12_boxes_162 (by decide) (fun c9 => absurd c9 (by decide)) (fun _ => ?_)
      refine lv_aload_n hx hb dX12_boxes_165 rfl (lv_at hl 0 rfl) ?_
      refine lv_iload hx hb dX12_boxes_166 (lv_at hl 4 rfl) ?_
      refine lv_iload_n hx hb dX12_boxes_168 rfl (lv_at hl 1 rfl) ?_
      refine lv_bipush (v := 10) hx hb dX12_boxes_169 (by decide) ?_
      refine lv_icmp_ne (tgt := 179) hx hb dX12_boxes_171 (by decide) (fun _ => ?_) (fun c9 => absurd c9 (by decide)) 
      refine lv_bipush (v := 14) hx hb dX12_boxes_179 (by decide) ?_
      refine cV_i (C := RX12) (n := 2) (rest := []) hx hb hml hown hg hT (c_X12_thing l dC dI g ty H.size Y pa kp ks I tl ac wr tw ρ pl P c0 14 (by exact rel) (by exact wf) (by exact i32_in (by decide) (by decide))) (cv_of hg wM_X12_131 wN_X12_thing wL_X12_X12_thing wK_X12_thing wI_X12 (by decide +kernel) ⟨Nat.le_of_ble_eq_true rfl, Nat.le_of_ble_eq_true rfl⟩) hK hP hD hS hA (va_recv hK hP (ci := 14) (q0 := 0) rfl rfl) rfl hl.1 rfl (Nat.le_of_ble_eq_true rfl) dX12_boxes_181 ⟨Nat.le_of_ble_eq_true rfl, Nat.le_of_ble_eq_true rfl⟩ (fun r_246 u_247 H locs q_245 hP hD hS => ?_)
      rcases q_245 with ⟨rfl, rfl, f_248⟩ | ⟨t_249, rfl, rfl, f_250, f_251, f_252⟩ | ⟨rfl, rfl, f_253, f_254⟩ | ⟨t_255, rfl, rfl, f_256, f_257, f_258⟩
      · show _
        exact absurd (by assumption) f_248
      · show _
        exact absurd (g6.symm.trans f_251) (by simp)
      · show _
        have hP : va_P (dC, dI) vwCl (rW g ty Y pa kp ks I tl ac wr tw) H := hP
        have hD : va_D A (rW g ty Y pa kp ks I tl ac wr tw) := hD
        refine lv_if_eq (tgt := 209) hx hb dX12_boxes_184 (by decide) (fun c9 => absurd c9 (by decide)) (fun _ => ?_)
        refine lv_aload_n hx hb dX12_boxes_187 rfl (lv_at hl 0 rfl) ?_
        refine lv_iload_n hx hb dX12_boxes_188 rfl (lv_at hl 2 rfl) ?_
        refine cV_i (C := RX12) (n := 1) (rest := []) hx hb hml hown hg hT (c_X12_need l dC dI g ty H.size Y pa kp ks I tl ac wr tw a0 (by assumption)) (cv_of hg wM_X12_134 wN_X12_need wL_X12_X12_need wK_X12_need wI_X12 (by decide +kernel) ⟨Nat.le_of_ble_eq_true rfl, Nat.le_of_ble_eq_true rfl⟩) hK hP hD hS hA (va_recv hK hP (ci := 14) (q0 := 0) rfl rfl) rfl hl.1 rfl (Nat.le_of_ble_eq_true rfl) dX12_boxes_189 ⟨Nat.le_of_ble_eq_true rfl, Nat.le_of_ble_eq_true rfl⟩ (fun r_260 u_261 H locs q_259 hP hD hS => ?_)
        rcases q_259 with ⟨rfl, rfl, f_262⟩ | ⟨rfl, rfl, f_263⟩
        · show _
          exact absurd f_262 (by assumption)
        · show _
          have hP : va_P (dC, dI) vwCl (rW g ty Y pa kp ks I tl ac wr tw) H := hP
          have hD : va_D A (rW g ty Y pa kp ks I tl ac wr tw) := hD
          refine lv_if_eq (tgt := 209) hx hb dX12_boxes_192 (by decide) (fun c9 => absurd c9 (by decide)) (fun _ => ?_)
          refine lv_aload_n hx hb dX12_boxes_195 rfl (lv_at hl 0 rfl) ?_
          refine lv_aload_n hx hb dX12_boxes_196 rfl (lv_at hl 0 rfl) ?_
          refine va_get (D := (dC, dI)) (ci := 14) (v := .ref (g 9)) (C := RX12) (T := TX12) (N := 21) hx hb hg inG12 hown hK hP 0 rfl rfl 8 (by decide) (hg _ wF_X12_34) (fun _ h9 => h9) rfl dX12_boxes_197 ?_
          refine lv_iload_n hx hb dX12_boxes_200 rfl (lv_at hl 2 rfl) ?_
          refine va_iald hx hb hK hP 7 0 rfl rfl (by assumption) dX12_boxes_201 ?_
          refine lv_iload_n hx hb dX12_boxes_202 rfl (lv_at hl 3 rfl) ?_
          refine cV_i (C := RX12) (n := 2) (rest := []) hx hb hml hown hg hT (c_X12_indexN l dC dI g ty H.size Y pa kp ks I tl ac wr tw (P.2.2.2.2.2.1 y) (pa a0.toNatClampNeg) b0 (by exact hvt.1) (by exact hvt.2.1) (by exact hvt.2.2.1)) (cv_of hg wM_X12_137 wN_X12_index wL_X12_X12_index wK_X12_index wI_X12 (by decide +kernel) ⟨Nat.le_of_ble_eq_true rfl, Nat.le_of_ble_eq_true rfl⟩) hK hP hD hS hA (va_recv hK hP (ci := 14) (q0 := 0) rfl rfl) rfl hl.1 rfl (Nat.le_of_ble_eq_true rfl) dX12_boxes_203 ⟨Nat.le_of_ble_eq_true rfl, Nat.le_of_ble_eq_true rfl⟩ (fun r_265 u_266 H locs q_264 hP hD hS => ?_)
          rcases q_264 with ⟨rfl, rfl, f_267⟩ | ⟨rfl, rfl, f_268⟩
          · show _
            have hP : va_P (dC, dI) vwCl (rW g ty Y pa kp ks I tl ac 2 tw) H := hP
            have hD : va_D A (rW g ty Y pa kp ks I tl ac 2 tw) := hD
            refine lv_if_ne (tgt := 214) hx hb dX12_boxes_206 (by decide) (fun c9 => absurd (by decide) c9) (fun _ => ?_)
            refine lv_aload_n hx hb dX12_boxes_209 rfl (lv_at hl 0 rfl) ?_
            refine cV_l (C := RX12) (n := 0) (rest := []) hx hb hml hown hg hT (c_X12_no l dC dI g ty H.size Y pa kp ks I tl ac 2 tw  ) (cv_of hg wM_X12_107 wN_X12_no wL_X12_X12_no wK_X12_no wI_X12 (by decide +kernel) ⟨Nat.le_of_ble_eq_true rfl, Nat.le_of_ble_eq_true rfl⟩) hK hP hD hS hA (va_recv hK hP (ci := 14) (q0 := 0) rfl rfl) rfl hl.1 rfl (Nat.le_of_ble_eq_true rfl) dX12_boxes_210 ⟨Nat.le_of_ble_eq_true rfl, Nat.le_of_ble_eq_true rfl⟩ (fun r_270 u_271 H locs q_269 hP hD hS => ?_)
            obtain ⟨rfl, rfl⟩ := q_269
            have hP : va_P (dC, dI) vwCl (rW g ty Y pa kp ks I tl ac 2 1) H := hP
            have hD : va_D A (rW g ty Y pa kp ks I tl ac 2 1) := hD
            refine cr_l (wo := fun u : rY × (Nat → Int32) × (Nat → Int32) × (Nat → Int32) × Int32 × Int32 => rW g ty u.1 u.2.1 u.2.2.1 ks I u.2.2.2.1 ac u.2.2.2.2.1 u.2.2.2.2.2) ((Y, pa, kp, tl, 2, 1)) hx hb hr hlk hS hP hD ?_ dX12_boxes_213
            exact ⟨0, Y, pa, kp, tl, 2, 1, rfl, rfl, (by exact ra_f (f := 2) rel hcnt htl (by decide))⟩
          · show _
            exact absurd f_268 (by assumption)
      · show _
        exact absurd (g6.symm.trans f_257) (by simp)
  · show _
    obtain ⟨n1t, n2t, n3t⟩ := rk_some rel g2 g3
    have hnet := (i32_pos n1t).2.1
    have tht := wf.1 _ _ g3
    obtain ⟨n1q6, n2q6, n3q6⟩ := rk_some rel g5 g6
    have hneq6 := (i32_pos n1q6).2.1
    have thq6 := wf.1 _ _ g6
    have kt := cIs_1 (ki_11 wf tht.1 tht.2 g4)
    have kq6 := cIs_3 (ki_14 wf thq6.1 thq6.2 g6x0)
    have hvt := rv_shelf rel n1t n2t n3t kt g7
    have hvq6 := rv_box rel n1q6 n2q6 n3q6 (by omega)
    have hsr := rv_sr rel n1t n2t n3t
    have hs11 : ¬ Y.1 (pa a0.toNatClampNeg).toNatClampNeg = 10 := by rw [sr_6 hsr kt (sh_11 wf g3 g4)]; decide
    have hl : lv_has ls 7 [(0, .ref (g 8)), (1, .int 11), (2, .int a0), (3, .int b0), (4, .int c0)] := hl
    refine lv_iload_n hx hb dX12_boxes_0 rfl (lv_at hl 1 rfl) ?_
    refine lv_tableIn (off := 143) (tgt := 144) hx hb dX12_boxes_1 (by decide) (by decide) (by decide) (by decide) ?_
    refine lv_aload_n hx hb dX12_boxes_144 rfl (lv_at hl 0 rfl) ?_
    refine lv_iload_n hx hb dX12_boxes_145 rfl (lv_at hl 2 rfl) ?_
    refine lv_iload_n hx hb dX12_boxes_146 rfl (lv_at hl 1 rfl) ?_
    refine lv_bipush (v := 10) hx hb dX12_boxes_147 (by decide) ?_
    refine lv_icmp_ne (tgt := 157) hx hb dX12_boxes_149 (by decide) (fun _ => ?_) (fun c9 => absurd c9 (by decide)) 
    refine lv_bipush (v := 11) hx hb dX12_boxes_157 (by decide) ?_
    refine cV_i (C := RX12) (n := 2) (rest := []) hx hb hml hown hg hT (c_X12_thing l dC dI g ty s.heap.size Y pa kp ks I tl ac wr tw ρ pl P a0 11 (by exact rel) (by exact wf) (by exact i32_in (by decide) (by decide))) (cv_of hg wM_X12_131 wN_X12_thing wL_X12_X12_thing wK_X12_thing wI_X12 (by decide +kernel) ⟨Nat.le_of_ble_eq_true rfl, Nat.le_of_ble_eq_true rfl⟩) hK hP hD hS hA (va_recv hK hP (ci := 14) (q0 := 0) rfl rfl) rfl hl.1 rfl (Nat.le_of_ble_eq_true rfl) dX12_boxes_159 ⟨Nat.le_of_ble_eq_true rfl, Nat.le_of_ble_eq_true rfl⟩ (fun r_273 u_274 H locs q_272 hP hD hS => ?_)
    rcases q_272 with ⟨rfl, rfl, f_275⟩ | ⟨t_276, rfl, rfl, f_277, f_278, f_279⟩ | ⟨rfl, rfl, f_280, f_281⟩ | ⟨t_282, rfl, rfl, f_283, f_284, f_285⟩
    · show _
      exact absurd (by assumption) f_275
    · show _
      obtain rfl := Option.some.inj (g3.symm.trans f_278); exact absurd (g4.symm.trans f_279) (by decide)
    · show _
      exact absurd (g3.symm.trans f_281) (by simp)
    · show _
      obtain rfl := Option.some.inj (g3.symm.trans f_284)
      have hP : va_P (dC, dI) vwCl (rW g ty Y pa kp ks I tl ac wr tw) H := hP
      have hD : va_D A (rW g ty Y pa kp ks I tl ac wr tw) := hD
      refine lv_if_eq (tgt := 209) hx hb dX12_boxes_162 (by decide) (fun c9 => absurd c9 (by decide)) (fun _ => ?_)
      refine lv_aload_n hx hb dX12_boxes_165 rfl (lv_at hl 0 rfl) ?_
      refine lv_iload hx hb dX12_boxes_166 (lv_at hl 4 rfl) ?_
      refine lv_iload_n hx hb dX12_boxes_168 rfl (lv_at hl 1 rfl) ?_
      refine lv_bipush (v := 10) hx hb dX12_boxes_169 (by decide) ?_
      refine lv_icmp_ne (tgt := 179) hx hb dX12_boxes_171 (by decide) (fun _ => ?_) (fun c9 => absurd c9 (by decide)) 
      refine lv_bipush (v := 14) hx hb dX12_boxes_179 (by decide) ?_
      refine cV_i (C := RX12) (n := 2) (rest := []) hx hb hml hown hg hT (c_X12_thing l dC dI g ty H.size Y pa kp ks I tl ac wr tw ρ pl P c0 14 (by exact rel) (by exact wf) (by exact i32_in (by decide) (by decide))) (cv_of hg wM_X12_131 wN_X12_thing wL_X12_X12_thing wK_X12_thing wI_X12 (by decide +kernel) ⟨Nat.le_of_ble_eq_true rfl, Nat.le_of_ble_eq_true rfl⟩) hK hP hD hS hA (va_recv hK hP (ci := 14) (q0 := 0) rfl rfl) rfl hl.1 rfl (Nat.le_of_ble_eq_true rfl) dX12_boxes_181 ⟨Nat.le_of_ble_eq_true rfl, Nat.le_of_ble_eq_true rfl⟩ (fun r_287 u_288 H locs q_286 hP hD hS => ?_)
      rcases q_286 with ⟨rfl, rfl, f_289⟩ | ⟨t_290, rfl, rfl, f_291, f_292, f_293⟩ | ⟨rfl, rfl, f_294, f_295⟩ | ⟨t_296, rfl, rfl, f_297, f_298, f_299⟩
      · show _
        exact absurd (by assumption) f_289
      · show _
        obtain rfl := Option.some.inj (g6.symm.trans f_292); exact absurd (g6x0.symm.trans f_293) (by decide)
      · show _
        exact absurd (g6.symm.trans f_295) (by simp)
      · show _
        obtain rfl := Option.some.inj (g6.symm.trans f_298)
        have hP : va_P (dC, dI) vwCl (rW g ty Y pa kp ks I tl ac wr tw) H := hP
        have hD : va_D A (rW g ty Y pa kp ks I tl ac wr tw) := hD
        refine lv_if_eq (tgt := 209) hx hb dX12_boxes_184 (by decide) (fun c9 => absurd c9 (by decide)) (fun _ => ?_)
        refine lv_aload_n hx hb dX12_boxes_187 rfl (lv_at hl 0 rfl) ?_
        refine lv_iload_n hx hb dX12_boxes_188 rfl (lv_at hl 2 rfl) ?_
        refine cV_i (C := RX12) (n := 1) (rest := []) hx hb hml hown hg hT (c_X12_need l dC dI g ty H.size Y pa kp ks I tl ac wr tw a0 (by assumption)) (cv_of hg wM_X12_134 wN_X12_need wL_X12_X12_need wK_X12_need wI_X12 (by decide +kernel) ⟨Nat.le_of_ble_eq_true rfl, Nat.le_of_ble_eq_true rfl⟩) hK hP hD hS hA (va_recv hK hP (ci := 14) (q0 := 0) rfl rfl) rfl hl.1 rfl (Nat.le_of_ble_eq_true rfl) dX12_boxes_189 ⟨Nat.le_of_ble_eq_true rfl, Nat.le_of_ble_eq_true rfl⟩ (fun r_301 u_302 H locs q_300 hP hD hS => ?_)
        rcases q_300 with ⟨rfl, rfl, f_303⟩ | ⟨rfl, rfl, f_304⟩
        · show _
          exact absurd f_303 (by assumption)
        · show _
          have hP : va_P (dC, dI) vwCl (rW g ty Y pa kp ks I tl ac wr tw) H := hP
          have hD : va_D A (rW g ty Y pa kp ks I tl ac wr tw) := hD
          refine lv_if_eq (tgt := 209) hx hb dX12_boxes_192 (by decide) (fun c9 => absurd c9 (by decide)) (fun _ => ?_)
          refine lv_aload_n hx hb dX12_boxes_195 rfl (lv_at hl 0 rfl) ?_
          refine lv_aload_n hx hb dX12_boxes_196 rfl (lv_at hl 0 rfl) ?_
          refine va_get (D := (dC, dI)) (ci := 14) (v := .ref (g 9)) (C := RX12) (T := TX12) (N := 21) hx hb hg inG12 hown hK hP 0 rfl rfl 8 (by decide) (hg _ wF_X12_34) (fun _ h9 => h9) rfl dX12_boxes_197 ?_
          refine lv_iload_n hx hb dX12_boxes_200 rfl (lv_at hl 2 rfl) ?_
          refine va_iald hx hb hK hP 7 0 rfl rfl (by assumption) dX12_boxes_201 ?_
          refine lv_iload_n hx hb dX12_boxes_202 rfl (lv_at hl 3 rfl) ?_
          refine cV_i (C := RX12) (n := 2) (rest := []) hx hb hml hown hg hT (c_X12_indexN l dC dI g ty H.size Y pa kp ks I tl ac wr tw (P.2.2.2.2.2.1 y) (pa a0.toNatClampNeg) b0 (by exact hvt.1) (by exact hvt.2.1) (by exact hvt.2.2.1)) (cv_of hg wM_X12_137 wN_X12_index wL_X12_X12_index wK_X12_index wI_X12 (by decide +kernel) ⟨Nat.le_of_ble_eq_true rfl, Nat.le_of_ble_eq_true rfl⟩) hK hP hD hS hA (va_recv hK hP (ci := 14) (q0 := 0) rfl rfl) rfl hl.1 rfl (Nat.le_of_ble_eq_true rfl) dX12_boxes_203 ⟨Nat.le_of_ble_eq_true rfl, Nat.le_of_ble_eq_true rfl⟩ (fun r_306 u_307 H locs q_305 hP hD hS => ?_)
          rcases q_305 with ⟨rfl, rfl, f_308⟩ | ⟨rfl, rfl, f_309⟩
          · show _
            have hP : va_P (dC, dI) vwCl (rW g ty Y pa kp ks I tl ac 2 tw) H := hP
            have hD : va_D A (rW g ty Y pa kp ks I tl ac 2 tw) := hD
            refine lv_if_ne (tgt := 214) hx hb dX12_boxes_206 (by decide) (fun c9 => absurd (by decide) c9) (fun _ => ?_)
            refine lv_aload_n hx hb dX12_boxes_209 rfl (lv_at hl 0 rfl) ?_
            refine cV_l (C := RX12) (n := 0) (rest := []) hx hb hml hown hg hT (c_X12_no l dC dI g ty H.size Y pa kp ks I tl ac 2 tw  ) (cv_of hg wM_X12_107 wN_X12_no wL_X12_X12_no wK_X12_no wI_X12 (by decide +kernel) ⟨Nat.le_of_ble_eq_true rfl, Nat.le_of_ble_eq_true rfl⟩) hK hP hD hS hA (va_recv hK hP (ci := 14) (q0 := 0) rfl rfl) rfl hl.1 rfl (Nat.le_of_ble_eq_true rfl) dX12_boxes_210 ⟨Nat.le_of_ble_eq_true rfl, Nat.le_of_ble_eq_true rfl⟩ (fun r_311 u_312 H locs q_310 hP hD hS => ?_)
            obtain ⟨rfl, rfl⟩ := q_310
            have hP : va_P (dC, dI) vwCl (rW g ty Y pa kp ks I tl ac 2 1) H := hP
            have hD : va_D A (rW g ty Y pa kp ks I tl ac 2 1) := hD
            refine cr_l (wo := fun u : rY × (Nat → Int32) × (Nat → Int32) × (Nat → Int32) × Int32 × Int32 => rW g ty u.1 u.2.1 u.2.2.1 ks I u.2.2.2.1 ac u.2.2.2.2.1 u.2.2.2.2.2) ((Y, pa, kp, tl, 2, 1)) hx hb hr hlk hS hP hD ?_ dX12_boxes_213
            exact ⟨0, Y, pa, kp, tl, 2, 1, rfl, rfl, (by exact ra_f (f := 2) rel hcnt htl (by decide))⟩
          · show _
            exact absurd f_309 (by assumption)
  · show _
    exact absurd (g9.symm.trans ((sh_rim wf g3 g4).2.1 rfl ▸ g10)) (by decide)
  · show _
    obtain ⟨n1t, n2t, n3t⟩ := rk_some rel g2 g3
    have hnet := (i32_pos n1t).2.1
    have tht := wf.1 _ _ g3
    have hzc0 := rk_none rel g5 g8
    have kt := cIs_1 (ki_11 wf tht.1 tht.2 g4)
    have hvt := rv_shelf rel n1t n2t n3t kt g6
    have hsr := rv_sr rel n1t n2t n3t
    have hs11 : ¬ Y.1 (pa a0.toNatClampNeg).toNatClampNeg = 10 := by rw [sr_6 hsr kt (sh_11 wf g3 g4)]; decide
    have hl : lv_has ls 7 [(0, .ref (g 8)), (1, .int 11), (2, .int a0), (3, .int b0), (4, .int c0)] := hl
    refine lv_iload_n hx hb dX12_boxes_0 rfl (lv_at hl 1 rfl) ?_
    refine lv_tableIn (off := 143) (tgt := 144) hx hb dX12_boxes_1 (by decide) (by decide) (by decide) (by decide) ?_
    refine lv_aload_n hx hb dX12_boxes_144 rfl (lv_at hl 0 rfl) ?_
    refine lv_iload_n hx hb dX12_boxes_145 rfl (lv_at hl 2 rfl) ?_
    refine lv_iload_n hx hb dX12_boxes_146 rfl (lv_at hl 1 rfl) ?_
    refine lv_bipush (v := 10) hx hb dX12_boxes_147 (by decide) ?_
    refine lv_icmp_ne (tgt := 157) hx hb dX12_boxes_149 (by decide) (fun _ => ?_) (fun c9 => absurd c9 (by decide)) 
    refine lv_bipush (v := 11) hx hb dX12_boxes_157 (by decide) ?_
    refine cV_i (C := RX12) (n := 2) (rest := []) hx hb hml hown hg hT (c_X12_thing l dC dI g ty s.heap.size Y pa kp ks I tl ac wr tw ρ pl P a0 11 (by exact rel) (by exact wf) (by exact i32_in (by decide) (by decide))) (cv_of hg wM_X12_131 wN_X12_thing wL_X12_X12_thing wK_X12_thing wI_X12 (by decide +kernel) ⟨Nat.le_of_ble_eq_true rfl, Nat.le_of_ble_eq_true rfl⟩) hK hP hD hS hA (va_recv hK hP (ci := 14) (q0 := 0) rfl rfl) rfl hl.1 rfl (Nat.le_of_ble_eq_true rfl) dX12_boxes_159 ⟨Nat.le_of_ble_eq_true rfl, Nat.le_of_ble_eq_true rfl⟩ (fun r_314 u_315 H locs q_313 hP hD hS => ?_)
    rcases q_313 with ⟨rfl, rfl, f_316⟩ | ⟨t_317, rfl, rfl, f_318, f_319, f_320⟩ | ⟨rfl, rfl, f_321, f_322⟩ | ⟨t_323, rfl, rfl, f_324, f_325, f_326⟩
    · show _
      exact absurd (by assumption) f_316
    · show _
      obtain rfl := Option.some.inj (g3.symm.trans f_319); exact absurd (g4.symm.trans f_320) (by decide)
    · show _
      exact absurd (g3.symm.trans f_322) (by simp)
    · show _
      obtain rfl := Option.some.inj (g3.symm.trans f_325)
      have hP : va_P (dC, dI) vwCl (rW g ty Y pa kp ks I tl ac wr tw) H := hP
      have hD : va_D A (rW g ty Y pa kp ks I tl ac wr tw) := hD
      refine lv_if_eq (tgt := 209) hx hb dX12_boxes_162 (by decide) (fun c9 => absurd c9 (by decide)) (fun _ => ?_)
      refine lv_aload_n hx hb dX12_boxes_165 rfl (lv_at hl 0 rfl) ?_
      refine lv_iload hx hb dX12_boxes_166 (lv_at hl 4 rfl) ?_
      refine lv_iload_n hx hb dX12_boxes_168 rfl (lv_at hl 1 rfl) ?_
      refine lv_bipush (v := 10) hx hb dX12_boxes_169 (by decide) ?_
      refine lv_icmp_ne (tgt := 179) hx hb dX12_boxes_171 (by decide) (fun _ => ?_) (fun c9 => absurd c9 (by decide)) 
      refine lv_bipush (v := 14) hx hb dX12_boxes_179 (by decide) ?_
      refine cV_i (C := RX12) (n := 2) (rest := []) hx hb hml hown hg hT (c_X12_thing l dC dI g ty H.size Y pa kp ks I tl ac wr tw ρ pl P c0 14 (by exact rel) (by exact wf) (by exact i32_in (by decide) (by decide))) (cv_of hg wM_X12_131 wN_X12_thing wL_X12_X12_thing wK_X12_thing wI_X12 (by decide +kernel) ⟨Nat.le_of_ble_eq_true rfl, Nat.le_of_ble_eq_true rfl⟩) hK hP hD hS hA (va_recv hK hP (ci := 14) (q0 := 0) rfl rfl) rfl hl.1 rfl (Nat.le_of_ble_eq_true rfl) dX12_boxes_181 ⟨Nat.le_of_ble_eq_true rfl, Nat.le_of_ble_eq_true rfl⟩ (fun r_328 u_329 H locs q_327 hP hD hS => ?_)
      rcases q_327 with ⟨rfl, rfl, f_330⟩ | ⟨t_331, rfl, rfl, f_332, f_333, f_334⟩ | ⟨rfl, rfl, f_335, f_336⟩ | ⟨t_337, rfl, rfl, f_338, f_339, f_340⟩
      · show _
        exact absurd (by assumption) f_330
      · show _
        exact absurd (g8.symm.trans f_333) (by simp)
      · show _
        have hP : va_P (dC, dI) vwCl (rW g ty Y pa kp ks I tl ac wr tw) H := hP
        have hD : va_D A (rW g ty Y pa kp ks I tl ac wr tw) := hD
        refine lv_if_eq (tgt := 209) hx hb dX12_boxes_184 (by decide) (fun c9 => absurd c9 (by decide)) (fun _ => ?_)
        refine lv_aload_n hx hb dX12_boxes_187 rfl (lv_at hl 0 rfl) ?_
        refine lv_iload_n hx hb dX12_boxes_188 rfl (lv_at hl 2 rfl) ?_
        refine cV_i (C := RX12) (n := 1) (rest := []) hx hb hml hown hg hT (c_X12_need l dC dI g ty H.size Y pa kp ks I tl ac wr tw a0 (by assumption)) (cv_of hg wM_X12_134 wN_X12_need wL_X12_X12_need wK_X12_need wI_X12 (by decide +kernel) ⟨Nat.le_of_ble_eq_true rfl, Nat.le_of_ble_eq_true rfl⟩) hK hP hD hS hA (va_recv hK hP (ci := 14) (q0 := 0) rfl rfl) rfl hl.1 rfl (Nat.le_of_ble_eq_true rfl) dX12_boxes_189 ⟨Nat.le_of_ble_eq_true rfl, Nat.le_of_ble_eq_true rfl⟩ (fun r_342 u_343 H locs q_341 hP hD hS => ?_)
        rcases q_341 with ⟨rfl, rfl, f_344⟩ | ⟨rfl, rfl, f_345⟩
        · show _
          exact absurd f_344 (by assumption)
        · show _
          have hP : va_P (dC, dI) vwCl (rW g ty Y pa kp ks I tl ac wr tw) H := hP
          have hD : va_D A (rW g ty Y pa kp ks I tl ac wr tw) := hD
          refine lv_if_eq (tgt := 209) hx hb dX12_boxes_192 (by decide) (fun c9 => absurd c9 (by decide)) (fun _ => ?_)
          refine lv_aload_n hx hb dX12_boxes_195 rfl (lv_at hl 0 rfl) ?_
          refine lv_aload_n hx hb dX12_boxes_196 rfl (lv_at hl 0 rfl) ?_
          refine va_get (D := (dC, dI)) (ci := 14) (v := .ref (g 9)) (C := RX12) (T := TX12) (N := 21) hx hb hg inG12 hown hK hP 0 rfl rfl 8 (by decide) (hg _ wF_X12_34) (fun _ h9 => h9) rfl dX12_boxes_197 ?_
          refine lv_iload_n hx hb dX12_boxes_200 rfl (lv_at hl 2 rfl) ?_
          refine va_iald hx hb hK hP 7 0 rfl rfl (by assumption) dX12_boxes_201 ?_
          refine lv_iload_n hx hb dX12_boxes_202 rfl (lv_at hl 3 rfl) ?_
          refine cV_i (C := RX12) (n := 2) (rest := []) hx hb hml hown hg hT (c_X12_indexN l dC dI g ty H.size Y pa kp ks I tl ac wr tw (P.2.2.2.2.2.1 y) (pa a0.toNatClampNeg) b0 (by exact hvt.1) (by exact hvt.2.1) (by exact hvt.2.2.1)) (cv_of hg wM_X12_137 wN_X12_index wL_X12_X12_index wK_X12_index wI_X12 (by decide +kernel) ⟨Nat.le_of_ble_eq_true rfl, Nat.le_of_ble_eq_true rfl⟩) hK hP hD hS hA (va_recv hK hP (ci := 14) (q0 := 0) rfl rfl) rfl hl.1 rfl (Nat.le_of_ble_eq_true rfl) dX12_boxes_203 ⟨Nat.le_of_ble_eq_true rfl, Nat.le_of_ble_eq_true rfl⟩ (fun r_347 u_348 H locs q_346 hP hD hS => ?_)
          rcases q_346 with ⟨rfl, rfl, f_349⟩ | ⟨rfl, rfl, f_350⟩
          · show _
            exact absurd (by assumption) f_349
          · show _
            have hP : va_P (dC, dI) vwCl (rW g ty Y pa kp ks I tl ac wr tw) H := hP
            have hD : va_D A (rW g ty Y pa kp ks I tl ac wr tw) := hD
            refine lv_if_ne (tgt := 214) hx hb dX12_boxes_206 (by decide) (fun _ => ?_) (fun c9 => absurd c9 (by decide)) 
            refine lv_aload_n hx hb dX12_boxes_214 rfl (lv_at hl 0 rfl) ?_
            refine va_get (D := (dC, dI)) (ci := 14) (v := .ref (Y.2.2.2.2.2.2.1 0)) (C := RX12) (T := TX12) (N := 21) hx hb hg inG12 hown hK hP 0 rfl rfl 0 (by decide) (hg _ wF_X12_7) (fun _ h9 => h9) rfl dX12_boxes_215 ?_
            refine lv_aload_n hx hb dX12_boxes_218 rfl (lv_at hl 0 rfl) ?_
            refine va_get (D := (dC, dI)) (ci := 14) (v := .ref (g 9)) (C := RX12) (T := TX12) (N := 21) hx hb hg inG12 hown hK hP 0 rfl rfl 8 (by decide) (hg _ wF_X12_34) (fun _ h9 => h9) rfl dX12_boxes_219 ?_
            refine lv_iload_n hx hb dX12_boxes_222 rfl (lv_at hl 2 rfl) ?_
            refine va_iald hx hb hK hP 7 0 rfl rfl (by assumption) dX12_boxes_223 ?_
            refine va_iald hx hb hK hP 1 0 rfl rfl (by exact hvt.1) dX12_boxes_224 ?_
            refine lv_bipush (v := 10) hx hb dX12_boxes_225 (by decide) ?_
            refine lv_icmp_ne (tgt := 267) hx hb dX12_boxes_227 (by decide) (fun _ => ?_) (fun c9 => absurd c9 hs11)
            refine lv_aload_n hx hb dX12_boxes_267 rfl (lv_at hl 0 rfl) ?_
            refine lv_aload_n hx hb dX12_boxes_268 rfl (lv_at hl 0 rfl) ?_
            refine va_get (D := (dC, dI)) (ci := 14) (v := .ref (g 9)) (C := RX12) (T := TX12) (N := 21) hx hb hg inG12 hown hK hP 0 rfl rfl 8 (by decide) (hg _ wF_X12_34) (fun _ h9 => h9) rfl dX12_boxes_269 ?_
            refine lv_iload_n hx hb dX12_boxes_272 rfl (lv_at hl 2 rfl) ?_
            refine va_iald hx hb hK hP 7 0 rfl rfl (by assumption) dX12_boxes_273 ?_
            refine lv_iload_n hx hb dX12_boxes_274 rfl (lv_at hl 3 rfl) ?_
            refine lv_aload_n hx hb dX12_boxes_275 rfl (lv_at hl 0 rfl) ?_
            refine va_get (D := (dC, dI)) (ci := 14) (v := .ref (g 9)) (C := RX12) (T := TX12) (N := 21) hx hb hg inG12 hown hK hP 0 rfl rfl 8 (by decide) (hg _ wF_X12_34) (fun _ h9 => h9) rfl dX12_boxes_276 ?_
            refine lv_iload hx hb dX12_boxes_279 (lv_at hl 4 rfl) ?_
            refine va_iald hx hb hK hP 7 0 rfl rfl (by assumption) dX12_boxes_281 ?_
            refine lv_i2l (v := ((pa c0.toNatClampNeg).toInt64)) hx hb dX12_boxes_282 rfl ?_
            refine cV_v (C := RX12) (n := 3) (rest := []) hx hb hml hown hg hT (c_X12_put l dC dI g ty H.size Y pa kp ks I tl ac wr tw (pa a0.toNatClampNeg) b0 ((pa c0.toNatClampNeg).toInt64) (by exact hvt.1) (by exact (hvt.2.2.2 _ (by assumption)).1)) (cv_of hg wM_X12_151 wN_X12_put wL_X12_X12_put wK_X12_put wI_X12 (by decide +kernel) ⟨Nat.le_of_ble_eq_true rfl, Nat.le_of_ble_eq_true rfl⟩) hK hP hD hS hA (va_recv hK hP (ci := 14) (q0 := 0) rfl rfl) rfl hl.1 rfl (Nat.le_of_ble_eq_true rfl) dX12_boxes_283 ⟨Nat.le_of_ble_eq_true rfl, Nat.le_of_ble_eq_true rfl⟩ (fun u_353 H locs q_351 hP hD hS => ?_)
            obtain rfl := q_351
            have hP : va_P (dC, dI) vwCl (rW g ty (Y.1, Y.2.1, Y.2.2.1, Y.2.2.2.1, Y.2.2.2.2.1, (vp_updL Y.2.2.2.2.2.1 (Y.2.1 (pa a0.toNatClampNeg).toNatClampNeg + b0).toNatClampNeg ((pa c0.toNatClampNeg).toInt64)), Y.2.2.2.2.2.2.1, Y.2.2.2.2.2.2.2.1, Y.2.2.2.2.2.2.2.2.1, Y.2.2.2.2.2.2.2.2.2.1, Y.2.2.2.2.2.2.2.2.2.2) pa kp ks I tl ac wr tw) H := hP
            have hD : va_D A (rW g ty (Y.1, Y.2.1, Y.2.2.1, Y.2.2.2.1, Y.2.2.2.2.1, (vp_updL Y.2.2.2.2.2.1 (Y.2.1 (pa a0.toNatClampNeg).toNatClampNeg + b0).toNatClampNeg ((pa c0.toNatClampNeg).toInt64)), Y.2.2.2.2.2.2.1, Y.2.2.2.2.2.2.2.1, Y.2.2.2.2.2.2.2.2.1, Y.2.2.2.2.2.2.2.2.2.1, Y.2.2.2.2.2.2.2.2.2.2) pa kp ks I tl ac wr tw) := hD
            refine lv_lconst (v := 0) hx hb dX12_boxes_286 (by decide) ?_
            refine cr_l (wo := fun u : rY × (Nat → Int32) × (Nat → Int32) × (Nat → Int32) × Int32 × Int32 => rW g ty u.1 u.2.1 u.2.2.1 ks I u.2.2.2.1 ac u.2.2.2.2.1 u.2.2.2.2.2) (((Y.1, Y.2.1, Y.2.2.1, Y.2.2.2.1, Y.2.2.2.2.1, (vp_updL Y.2.2.2.2.2.1 (Y.2.1 (pa a0.toNatClampNeg).toNatClampNeg + b0).toNatClampNeg ((pa c0.toNatClampNeg).toInt64)), Y.2.2.2.2.2.2.1, Y.2.2.2.2.2.2.2.1, Y.2.2.2.2.2.2.2.2.1, Y.2.2.2.2.2.2.2.2.2.1, Y.2.2.2.2.2.2.2.2.2.2), pa, kp, tl, wr, tw)) hx hb hr hlk hS hP hD ?_ dX12_boxes_287
            exact ⟨0, (Y.1, Y.2.1, Y.2.2.1, Y.2.2.2.1, Y.2.2.2.2.1, (vp_updL Y.2.2.2.2.2.1 (Y.2.1 (pa a0.toNatClampNeg).toNatClampNeg + b0).toNatClampNeg ((pa c0.toNatClampNeg).toInt64)), Y.2.2.2.2.2.2.1, Y.2.2.2.2.2.2.2.1, Y.2.2.2.2.2.2.2.2.1, Y.2.2.2.2.2.2.2.2.2.1, Y.2.2.2.2.2.2.2.2.2.2), pa, kp, tl, wr, tw, rfl, rfl, (by subst pre6; exact ra_w (rw_shelf wf rel n1t n2t n3t kt g6 f_350 (pl_ll rel f_335 f_336) rfl) ⟨rfl, rfl, rfl, rfl⟩ hcnt htl rfl)⟩
      · show _
        exact absurd (g8.symm.trans f_339) (by simp)
  · show _
    obtain ⟨n1t, n2t, n3t⟩ := rk_some rel g2 g3
    have hnet := (i32_pos n1t).2.1
    have tht := wf.1 _ _ g3
    obtain ⟨n1q9, n2q9, n3q9⟩ := rk_some rel g5 g8
    have hneq9 := (i32_pos n1q9).2.1
    have thq9 := wf.1 _ _ g8
    have kt := cIs_1 (ki_11 wf tht.1 tht.2 g4)
    have kq9 := cIs_3 (ki_14 wf thq9.1 thq9.2 g9x0)
    have hvt := rv_shelf rel n1t n2t n3t kt g6
    have hvq9 := rv_box rel n1q9 n2q9 n3q9 (by omega)
    have hsr := rv_sr rel n1t n2t n3t
    have hs11 : ¬ Y.1 (pa a0.toNatClampNeg).toNatClampNeg = 10 := by rw [sr_6 hsr kt (sh_11 wf g3 g4)]; decide
    have hl : lv_has ls 7 [(0, .ref (g 8)), (1, .int 11), (2, .int a0), (3, .int b0), (4, .int c0)] := hl
    refine lv_iload_n hx hb dX12_boxes_0 rfl (lv_at hl 1 rfl) ?_
    refine lv_tableIn (off := 143) (tgt := 144) hx hb dX12_boxes_1 (by decide) (by decide) (by decide) (by decide) ?_
    refine lv_aload_n hx hb dX12_boxes_144 rfl (lv_at hl 0 rfl) ?_
    refine lv_iload_n hx hb dX12_boxes_145 rfl (lv_at hl 2 rfl) ?_
    refine lv_iload_n hx hb dX12_boxes_146 rfl (lv_at hl 1 rfl) ?_
    refine lv_bipush (v := 10) hx hb dX12_boxes_147 (by decide) ?_
    refine lv_icmp_ne (tgt := 157) hx hb dX12_boxes_149 (by decide) (fun _ => ?_) (fun c9 => absurd c9 (by decide)) 
    refine lv_bipush (v := 11) hx hb dX12_boxes_157 (by decide) ?_
    refine cV_i (C := RX12) (n := 2) (rest := []) hx hb hml hown hg hT (c_X12_thing l dC dI g ty s.heap.size Y pa kp ks I tl ac wr tw ρ pl P a0 11 (by exact rel) (by exact wf) (by exact i32_in (by decide) (by decide))) (cv_of hg wM_X12_131 wN_X12_thing wL_X12_X12_thing wK_X12_thing wI_X12 (by decide +kernel) ⟨Nat.le_of_ble_eq_true rfl, Nat.le_of_ble_eq_true rfl⟩) hK hP hD hS hA (va_recv hK hP (ci := 14) (q0 := 0) rfl rfl) rfl hl.1 rfl (Nat.le_of_ble_eq_true rfl) dX12_boxes_159 ⟨Nat.le_of_ble_eq_true rfl, Nat.le_of_ble_eq_true rfl⟩ (fun r_355 u_356 H locs q_354 hP hD hS => ?_)
    rcases q_354 with ⟨rfl, rfl, f_357⟩ | ⟨t_358, rfl, rfl, f_359, f_360, f_361⟩ | ⟨rfl, rfl, f_362, f_363⟩ | ⟨t_364, rfl, rfl, f_365, f_366, f_367⟩
    · show _
      exact absurd (by assumption) f_357
    · show _
      obtain rfl := Option.some.inj (g3.symm.trans f_360); exact absurd (g4.symm.trans f_361) (by decide)
    · show _
      exact absurd (g3.symm.trans f_363) (by simp)
    · show _
      obtain rfl := Option.some.inj (g3.symm.trans f_366)
      have hP : va_P (dC, dI) vwCl (rW g ty Y pa kp ks I tl ac wr tw) H := hP
      have hD : va_D A (rW g ty Y pa kp ks I tl ac wr tw) := hD
      refine lv_if_eq (tgt := 209) hx hb dX12_boxes_162 (by decide) (fun c9 => absurd c9 (by decide)) (fun _ => ?_)
      refine lv_aload_n hx hb dX12_boxes_165 rfl (lv_at hl 0 rfl) ?_
      refine lv_iload hx hb dX12_boxes_166 (lv_at hl 4 rfl) ?_
      refine lv_iload_n hx hb dX12_boxes_168 rfl (lv_at hl 1 rfl) ?_
      refine lv_bipush (v := 10) hx hb dX12_boxes_169 (by decide) ?_
      refine lv_icmp_ne (tgt := 179) hx hb dX12_boxes_171 (by decide) (fun _ => ?_) (fun c9 => absurd c9 (by decide)) 
      refine lv_bipush (v := 14) hx hb dX12_boxes_179 (by decide) ?_
      refine cV_i (C := RX12) (n := 2) (rest := []) hx hb hml hown hg hT (c_X12_thing l dC dI g ty H.size Y pa kp ks I tl ac wr tw ρ pl P c0 14 (by exact rel) (by exact wf) (by exact i32_in (by decide) (by decide))) (cv_of hg wM_X12_131 wN_X12_thing wL_X12_X12_thing wK_X12_thing wI_X12 (by decide +kernel) ⟨Nat.le_of_ble_eq_true rfl, Nat.le_of_ble_eq_true rfl⟩) hK hP hD hS hA (va_recv hK hP (ci := 14) (q0 := 0) rfl rfl) rfl hl.1 rfl (Nat.le_of_ble_eq_true rfl) dX12_boxes_181 ⟨Nat.le_of_ble_eq_true rfl, Nat.le_of_ble_eq_true rfl⟩ (fun r_369 u_370 H locs q_368 hP hD hS => ?_)
      rcases q_368 with ⟨rfl, rfl, f_371⟩ | ⟨t_372, rfl, rfl, f_373, f_374, f_375⟩ | ⟨rfl, rfl, f_376, f_377⟩ | ⟨t_378, rfl, rfl, f_379, f_380, f_381⟩
      · show _
        exact absurd (by assumption) f_371
      · show _
        obtain rfl := Option.some.inj (g8.symm.trans f_374); exact absurd (g9x0.symm.trans f_375) (by decide)
      · show _
        exact absurd (g8.symm.trans f_377) (by simp)
      · show _
        obtain rfl := Option.some.inj (g8.symm.trans f_380)
        have hP : va_P (dC, dI) vwCl (rW g ty Y pa kp ks I tl ac wr tw) H := hP
        have hD : va_D A (rW g ty Y pa kp ks I tl ac wr tw) := hD
        refine lv_if_eq (tgt := 209) hx hb dX12_boxes_184 (by decide) (fun c9 => absurd c9 (by decide)) (fun _ => ?_)
        refine lv_aload_n hx hb dX12_boxes_187 rfl (lv_at hl 0 rfl) ?_
        refine lv_iload_n hx hb dX12_boxes_188 rfl (lv_at hl 2 rfl) ?_
        refine cV_i (C := RX12) (n := 1) (rest := []) hx hb hml hown hg hT (c_X12_need l dC dI g ty H.size Y pa kp ks I tl ac wr tw a0 (by assumption)) (cv_of hg wM_X12_134 wN_X12_need wL_X12_X12_need wK_X12_need wI_X12 (by decide +kernel) ⟨Nat.le_of_ble_eq_true rfl, Nat.le_of_ble_eq_true rfl⟩) hK hP hD hS hA (va_recv hK hP (ci := 14) (q0 := 0) rfl rfl) rfl hl.1 rfl (Nat.le_of_ble_eq_true rfl) dX12_boxes_189 ⟨Nat.le_of_ble_eq_true rfl, Nat.le_of_ble_eq_true rfl⟩ (fun r_383 u_384 H locs q_382 hP hD hS => ?_)
        rcases q_382 with ⟨rfl, rfl, f_385⟩ | ⟨rfl, rfl, f_386⟩
        · show _
          exact absurd f_385 (by assumption)
        · show _
          have hP : va_P (dC, dI) vwCl (rW g ty Y pa kp ks I tl ac wr tw) H := hP
          have hD : va_D A (rW g ty Y pa kp ks I tl ac wr tw) := hD
          refine lv_if_eq (tgt := 209) hx hb dX12_boxes_192 (by decide) (fun c9 => absurd c9 (by decide)) (fun _ => ?_)
          refine lv_aload_n hx hb dX12_boxes_195 rfl (lv_at hl 0 rfl) ?_
          refine lv_aload_n hx hb dX12_boxes_196 rfl (lv_at hl 0 rfl) ?_
          refine va_get (D := (dC, dI)) (ci := 14) (v := .ref (g 9)) (C := RX12) (T := TX12) (N := 21) hx hb hg inG12 hown hK hP 0 rfl rfl 8 (by decide) (hg _ wF_X12_34) (fun _ h9 => h9) rfl dX12_boxes_197 ?_
          refine lv_iload_n hx hb dX12_boxes_200 rfl (lv_at hl 2 rfl) ?_
          refine va_iald hx hb hK hP 7 0 rfl rfl (by assumption) dX12_boxes_201 ?_
          refine lv_iload_n hx hb dX12_boxes_202 rfl (lv_at hl 3 rfl) ?_
          refine cV_i (C := RX12) (n := 2) (rest := []) hx hb hml hown hg hT (c_X12_indexN l dC dI g ty H.size Y pa kp ks I tl ac wr tw (P.2.2.2.2.2.1 y) (pa a0.toNatClampNeg) b0 (by exact hvt.1) (by exact hvt.2.1) (by exact hvt.2.2.1)) (cv_of hg wM_X12_137 wN_X12_index wL_X12_X12_index wK_X12_index wI_X12 (by decide +kernel) ⟨Nat.le_of_ble_eq_true rfl, Nat.le_of_ble_eq_true rfl⟩) hK hP hD hS hA (va_recv hK hP (ci := 14) (q0 := 0) rfl rfl) rfl hl.1 rfl (Nat.le_of_ble_eq_true rfl) dX12_boxes_203 ⟨Nat.le_of_ble_eq_true rfl, Nat.le_of_ble_eq_true rfl⟩ (fun r_388 u_389 H locs q_387 hP hD hS => ?_)
          rcases q_387 with ⟨rfl, rfl, f_390⟩ | ⟨rfl, rfl, f_391⟩
          · show _
            exact absurd (by assumption) f_390
          · show _
            have hP : va_P (dC, dI) vwCl (rW g ty Y pa kp ks I tl ac wr tw) H := hP
            have hD : va_D A (rW g ty Y pa kp ks I tl ac wr tw) := hD
            refine lv_if_ne (tgt := 214) hx hb dX12_boxes_206 (by decide) (fun _ => ?_) (fun c9 => absurd c9 (by decide)) 
            refine lv_aload_n hx hb dX12_boxes_214 rfl (lv_at hl 0 rfl) ?_
            refine va_get (D := (dC, dI)) (ci := 14) (v := .ref (Y.2.2.2.2.2.2.1 0)) (C := RX12) (T := TX12) (N := 21) hx hb hg inG12 hown hK hP 0 rfl rfl 0 (by decide) (hg _ wF_X12_7) (fun _ h9 => h9) rfl dX12_boxes_215 ?_
            refine lv_aload_n hx hb dX12_boxes_218 rfl (lv_at hl 0 rfl) ?_
            refine va_get (D := (dC, dI)) (ci := 14) (v := .ref (g 9)) (C := RX12) (T := TX12) (N := 21) hx hb hg inG12 hown hK hP 0 rfl rfl 8 (by decide) (hg _ wF_X12_34) (fun _ h9 => h9) rfl dX12_boxes_219 ?_
            refine lv_iload_n hx hb dX12_boxes_222 rfl (lv_at hl 2 rfl) ?_
            refine va_iald hx hb hK hP 7 0 rfl rfl (by assumption) dX12_boxes_223 ?_
            refine va_iald hx hb hK hP 1 0 rfl rfl (by exact hvt.1) dX12_boxes_224 ?_
            refine lv_bipush (v := 10) hx hb dX12_boxes_225 (by decide) ?_
            refine lv_icmp_ne (tgt := 267) hx hb dX12_boxes_227 (by decide) (fun _ => ?_) (fun c9 => absurd c9 hs11)
            refine lv_aload_n hx hb dX12_boxes_267 rfl (lv_at hl 0 rfl) ?_
            refine lv_aload_n hx hb dX12_boxes_268 rfl (lv_at hl 0 rfl) ?_
            refine va_get (D := (dC, dI)) (ci := 14) (v := .ref (g 9)) (C := RX12) (T := TX12) (N := 21) hx hb hg inG12 hown hK hP 0 rfl rfl 8 (by decide) (hg _ wF_X12_34) (fun _ h9 => h9) rfl dX12_boxes_269 ?_
            refine lv_iload_n hx hb dX12_boxes_272 rfl (lv_at hl 2 rfl) ?_
            refine va_iald hx hb hK hP 7 0 rfl rfl (by assumption) dX12_boxes_273 ?_
            refine lv_iload_n hx hb dX12_boxes_274 rfl (lv_at hl 3 rfl) ?_
            refine lv_aload_n hx hb dX12_boxes_275 rfl (lv_at hl 0 rfl) ?_
            refine va_get (D := (dC, dI)) (ci := 14) (v := .ref (g 9)) (C := RX12) (T := TX12) (N := 21) hx hb hg inG12 hown hK hP 0 rfl rfl 8 (by decide) (hg _ wF_X12_34) (fun _ h9 => h9) rfl dX12_boxes_276 ?_
            refine lv_iload hx hb dX12_boxes_279 (lv_at hl 4 rfl) ?_
            refine va_iald hx hb hK hP 7 0 rfl rfl (by assumption) dX12_boxes_281 ?_
            refine lv_i2l (v := ((pa c0.toNatClampNeg).toInt64)) hx hb dX12_boxes_282 rfl ?_
            refine cV_v (C := RX12) (n := 3) (rest := []) hx hb hml hown hg hT (c_X12_put l dC dI g ty H.size Y pa kp ks I tl ac wr tw (pa a0.toNatClampNeg) b0 ((pa c0.toNatClampNeg).toInt64) (by exact hvt.1) (by exact (hvt.2.2.2 _ (by assumption)).1)) (cv_of hg wM_X12_151 wN_X12_put wL_X12_X12_put wK_X12_put wI_X12 (by decide +kernel) ⟨Nat.le_of_ble_eq_true rfl, Nat.le_of_ble_eq_true rfl⟩) hK hP hD hS hA (va_recv hK hP (ci := 14) (q0 := 0) rfl rfl) rfl hl.1 rfl (Nat.le_of_ble_eq_true rfl) dX12_boxes_283 ⟨Nat.le_of_ble_eq_true rfl, Nat.le_of_ble_eq_true rfl⟩ (fun u_394 H locs q_392 hP hD hS => ?_)
            obtain rfl := q_392
            have hP : va_P (dC, dI) vwCl (rW g ty (Y.1, Y.2.1, Y.2.2.1, Y.2.2.2.1, Y.2.2.2.2.1, (vp_updL Y.2.2.2.2.2.1 (Y.2.1 (pa a0.toNatClampNeg).toNatClampNeg + b0).toNatClampNeg ((pa c0.toNatClampNeg).toInt64)), Y.2.2.2.2.2.2.1, Y.2.2.2.2.2.2.2.1, Y.2.2.2.2.2.2.2.2.1, Y.2.2.2.2.2.2.2.2.2.1, Y.2.2.2.2.2.2.2.2.2.2) pa kp ks I tl ac wr tw) H := hP
            have hD : va_D A (rW g ty (Y.1, Y.2.1, Y.2.2.1, Y.2.2.2.1, Y.2.2.2.2.1, (vp_updL Y.2.2.2.2.2.1 (Y.2.1 (pa a0.toNatClampNeg).toNatClampNeg + b0).toNatClampNeg ((pa c0.toNatClampNeg).toInt64)), Y.2.2.2.2.2.2.1, Y.2.2.2.2.2.2.2.1, Y.2.2.2.2.2.2.2.2.1, Y.2.2.2.2.2.2.2.2.2.1, Y.2.2.2.2.2.2.2.2.2.2) pa kp ks I tl ac wr tw) := hD
            refine lv_lconst (v := 0) hx hb dX12_boxes_286 (by decide) ?_
            refine cr_l (wo := fun u : rY × (Nat → Int32) × (Nat → Int32) × (Nat → Int32) × Int32 × Int32 => rW g ty u.1 u.2.1 u.2.2.1 ks I u.2.2.2.1 ac u.2.2.2.2.1 u.2.2.2.2.2) (((Y.1, Y.2.1, Y.2.2.1, Y.2.2.2.1, Y.2.2.2.2.1, (vp_updL Y.2.2.2.2.2.1 (Y.2.1 (pa a0.toNatClampNeg).toNatClampNeg + b0).toNatClampNeg ((pa c0.toNatClampNeg).toInt64)), Y.2.2.2.2.2.2.1, Y.2.2.2.2.2.2.2.1, Y.2.2.2.2.2.2.2.2.1, Y.2.2.2.2.2.2.2.2.2.1, Y.2.2.2.2.2.2.2.2.2.2), pa, kp, tl, wr, tw)) hx hb hr hlk hS hP hD ?_ dX12_boxes_287
            exact ⟨0, (Y.1, Y.2.1, Y.2.2.1, Y.2.2.2.1, Y.2.2.2.2.1, (vp_updL Y.2.2.2.2.2.1 (Y.2.1 (pa a0.toNatClampNeg).toNatClampNeg + b0).toNatClampNeg ((pa c0.toNatClampNeg).toInt64)), Y.2.2.2.2.2.2.1, Y.2.2.2.2.2.2.2.1, Y.2.2.2.2.2.2.2.2.1, Y.2.2.2.2.2.2.2.2.2.1, Y.2.2.2.2.2.2.2.2.2.2), pa, kp, tl, wr, tw, rfl, rfl, (by subst pre6; exact ra_w (rw_shelf wf rel n1t n2t n3t kt g6 f_391 (pl_ll rel f_379 f_380) rfl) ⟨rfl, rfl, rfl, rfl⟩ hcnt htl rfl)⟩
set_option maxHeartbeats 800000 in
set_option maxRecDepth 100000 in
theorem c_X12_others_27 (l : Launch) (dC : Nat → ClassId) (dI : Nat → Nat → Nat) (g : Nat → Nat) (ty : Nat → ClassId) (sz : Nat) (Y : rY) (pa : Nat → Int32) (kp : Nat → Int32) (ks : Int32) (I : rI) (tl : Nat → Int32) (ac : Int64) (wr : Int32) (tw : Int32) (ρ : Nat → Nat) (pl : Nat → Option Nat) (P : cQ) (md : Int32) (Z : cZ) (rz9 : Int64) (u9 : Int32) (a0 : Int32) (b0 : Int32) (c0 : Int32) (pre0 : rR Y.2.2.2.2.2.2.2.2.2.1 Y pa ρ pl P) (pre1 : cWF pl P) (pre2 : ks = 0) (pre3 : rCnt Y md) (pre4 : tl 5 = md) (pre5 : 0 ≤ md ∧ md ≤ 6000) (pre6 : tw = 0) (pre7 : q_X11_holdsSort a0 b0 pl ac (-1) md Z P rz9 u9) : Met l yX12_others (Cond.code yX12_others cX12_others 5 (some .long) :: gT) ({ frames := 3, cells := 0, slots := 0, locals := 64 }) (cP (dC, dI) (rTy ty) (rW g ty Y pa kp ks I tl ac wr tw) sz [.ref (g 8), .int 27, .int a0, .int b0, .int c0]) (va_Ql (fun (rz : Int64) (u : rY × (Nat → Int32) × (Nat → Int32) × (Nat → Int32) × Int32 × Int32) => ∃ (r' : Int64) (Y' : rY) (pa' kp' tl' : Nat → Int32) (wr' tw' : Int32), r' = rz ∧ (Y', pa', kp', tl', wr', tw') = u ∧ rAns u9 rz9 pl P md tl Y r' Y' pa' tl' wr' tw') (cB (dC, dI) (fun u : rY × (Nat → Int32) × (Nat → Int32) × (Nat → Int32) × Int32 × Int32 => rW g ty u.1 u.2.1 u.2.2.1 ks I u.2.2.2.1 ac u.2.2.2.2.1 u.2.2.2.2.2) (va_A (rW g ty Y pa kp ks I tl ac wr tw) sz)) (va_A (rW g ty Y pa kp ks I tl ac wr tw) sz)) 0 0 (va_A (rW g ty Y pa kp ks I tl ac wr tw) sz) := by
  refine cc_of (Qa := fun A => va_Ql (fun (rz : Int64) (u : rY × (Nat → Int32) × (Nat → Int32) × (Nat → Int32) × Int32 × Int32) => ∃ (r' : Int64) (Y' : rY) (pa' kp' tl' : Nat → Int32) (wr' tw' : Int32), r' = rz ∧ (Y', pa', kp', tl', wr', tw') = u ∧ rAns u9 rz9 pl P md tl Y r' Y' pa' tl' wr' tw') (cB (dC, dI) (fun u : rY × (Nat → Int32) × (Nat → Int32) × (Nat → Int32) × Int32 × Int32 => rW g ty u.1 u.2.1 u.2.2.1 ks I u.2.2.2.1 ac u.2.2.2.2.1 u.2.2.2.2.2) A) A) (by decide) (Nat.le_of_ble_eq_true rfl) ?_
  intro p e s m below meth c A hx hb hr hml hown hg hlk hmn hP hK hD hT hS hA hsz ls hl
  have hown : s.vm.findClass RX12 = some m.cls := hown
  have rel := pre0
  have wf := pre1
  have hcnt := pre3
  have htl := pre4
  rcases pre7 with ⟨rfl, rfl, g2⟩ | ⟨rfl, rfl, g2, g3⟩ | ⟨t, rfl, rfl, g2, g3, g4⟩ | ⟨t, rfl, rfl, g2, g3, g4⟩
  · show _
    have hl : lv_has ls 5 [(0, .ref (g 8)), (1, .int 27), (2, .int a0), (3, .int b0), (4, .int c0)] := hl
    refine lv_iload_n hx hb dX12_others_0 rfl (lv_at hl 1 rfl) ?_
    refine lv_tableIn (off := 82) (tgt := 83) hx hb dX12_others_1 (by decide) (by decide) (by decide) (by decide) ?_
    refine lv_aload_n hx hb dX12_others_83 rfl (lv_at hl 0 rfl) ?_
    refine lv_iload_n hx hb dX12_others_84 rfl (lv_at hl 2 rfl) ?_
    refine cV_i (C := RX12) (n := 1) (rest := []) hx hb hml hown hg hT (c_X12_place l dC dI g ty s.heap.size Y pa kp ks I tl ac wr tw a0 ) (cv_of hg wM_X12_83 wN_X12_place wL_X12_X12_place wK_X12_place wI_X12 (by decide +kernel) ⟨Nat.le_of_ble_eq_true rfl, Nat.le_of_ble_eq_true rfl⟩) hK hP hD hS hA (va_recv hK hP (ci := 14) (q0 := 0) rfl rfl) rfl hl.1 rfl (Nat.le_of_ble_eq_true rfl) dX12_others_85 ⟨Nat.le_of_ble_eq_true rfl, Nat.le_of_ble_eq_true rfl⟩ (fun r_2 u_3 H locs q_1 hP hD hS => ?_)
    rcases q_1 with ⟨rfl, rfl, f_4⟩ | ⟨rfl, rfl, f_5⟩
    · show _
      have hP : va_P (dC, dI) vwCl (rW g ty Y pa kp ks I tl ac 2 tw) H := hP
      have hD : va_D A (rW g ty Y pa kp ks I tl ac 2 tw) := hD
      refine lv_if_ne (tgt := 96) hx hb dX12_others_88 (by decide) (fun c9 => absurd (by decide) c9) (fun _ => ?_)
      refine lv_aload_n hx hb dX12_others_91 rfl (lv_at hl 0 rfl) ?_
      refine cV_l (C := RX12) (n := 0) (rest := []) hx hb hml hown hg hT (c_X12_no l dC dI g ty H.size Y pa kp ks I tl ac 2 tw  ) (cv_of hg wM_X12_107 wN_X12_no wL_X12_X12_no wK_X12_no wI_X12 (by decide +kernel) ⟨Nat.le_of_ble_eq_true rfl, Nat.le_of_ble_eq_true rfl⟩) hK hP hD hS hA (va_recv hK hP (ci := 14) (q0 := 0) rfl rfl) rfl hl.1 rfl (Nat.le_of_ble_eq_true rfl) dX12_others_92 ⟨Nat.le_of_ble_eq_true rfl, Nat.le_of_ble_eq_true rfl⟩ (fun r_7 u_8 H locs q_6 hP hD hS => ?_)
      obtain ⟨rfl, rfl⟩ := q_6
      have hP : va_P (dC, dI) vwCl (rW g ty Y pa kp ks I tl ac 2 1) H := hP
      have hD : va_D A (rW g ty Y pa kp ks I tl ac 2 1) := hD
      refine cr_l (wo := fun u : rY × (Nat → Int32) × (Nat → Int32) × (Nat → Int32) × Int32 × Int32 => rW g ty u.1 u.2.1 u.2.2.1 ks I u.2.2.2.1 ac u.2.2.2.2.1 u.2.2.2.2.2) ((Y, pa, kp, tl, 2, 1)) hx hb hr hlk hS hP hD ?_ dX12_others_95
      exact ⟨0, Y, pa, kp, tl, 2, 1, rfl, rfl, (by exact ra_f (f := 2) rel hcnt htl (by decide))⟩
    · show _
      exact absurd f_5 (by assumption)
  · show _
    have hza0 := rk_none rel g2 g3
    have hi9 : (if (pa a0.toNatClampNeg) = 0 then 0 else rIs (Y.1 (pa a0.toNatClampNeg).toNatClampNeg) (b0 &&& 15)) = 0 := is_n hza0
    have hl : lv_has ls 5 [(0, .ref (g 8)), (1, .int 27), (2, .int a0), (3, .int b0), (4, .int c0)] := hl
    refine lv_iload_n hx hb dX12_others_0 rfl (lv_at hl 1 rfl) ?_
    refine lv_tableIn (off := 82) (tgt := 83) hx hb dX12_others_1 (by decide) (by decide) (by decide) (by decide) ?_
    refine lv_aload_n hx hb dX12_others_83 rfl (lv_at hl 0 rfl) ?_
    refine lv_iload_n hx hb dX12_others_84 rfl (lv_at hl 2 rfl) ?_
    refine cV_i (C := RX12) (n := 1) (rest := []) hx hb hml hown hg hT (c_X12_place l dC dI g ty s.heap.size Y pa kp ks I tl ac wr tw a0 ) (cv_of hg wM_X12_83 wN_X12_place wL_X12_X12_place wK_X12_place wI_X12 (by decide +kernel) ⟨Nat.le_of_ble_eq_true rfl, Nat.le_of_ble_eq_true rfl⟩) hK hP hD hS hA (va_recv hK hP (ci := 14) (q0 := 0) rfl rfl) rfl hl.1 rfl (Nat.le_of_ble_eq_true rfl) dX12_others_85 ⟨Nat.le_of_ble_eq_true rfl, Nat.le_of_ble_eq_true rfl⟩ (fun r_10 u_11 H locs q_9 hP hD hS => ?_)
    rcases q_9 with ⟨rfl, rfl, f_12⟩ | ⟨rfl, rfl, f_13⟩
    · show _
      exact absurd (by assumption) f_12
    · show _
      have hP : va_P (dC, dI) vwCl (rW g ty Y pa kp ks I tl ac wr tw) H := hP
      have hD : va_D A (rW g ty Y pa kp ks I tl ac wr tw) := hD
      refine lv_if_ne (tgt := 96) hx hb dX12_others_88 (by decide) (fun _ => ?_) (fun c9 => absurd c9 (by decide)) 
      refine lv_aload_n hx hb dX12_others_96 rfl (lv_at hl 0 rfl) ?_
      refine lv_aload_n hx hb dX12_others_97 rfl (lv_at hl 0 rfl) ?_
      refine va_get (D := (dC, dI)) (ci := 14) (v := .ref (g 9)) (C := RX12) (T := TX12) (N := 21) hx hb hg inG12 hown hK hP 0 rfl rfl 8 (by decide) (hg _ wF_X12_34) (fun _ h9 => h9) rfl dX12_others_98 ?_
      refine lv_iload_n hx hb dX12_others_101 rfl (lv_at hl 2 rfl) ?_
      refine va_iald hx hb hK hP 7 0 rfl rfl (by assumption) dX12_others_102 ?_
      refine lv_iload_n hx hb dX12_others_103 rfl (lv_at hl 3 rfl) ?_
      refine lv_bipush (v := 15) hx hb dX12_others_104 (by decide) ?_
      refine lv_iand hx hb dX12_others_106 ?_
      refine cV_i (C := RX12) (n := 2) (rest := []) hx hb hml hown hg hT (c_X12_is l dC dI g ty H.size Y pa kp ks I tl ac wr tw (pa a0.toNatClampNeg) (b0 &&& 15) (by exact rk_vin rel (by assumption))) (cv_of hg wM_X12_86 wN_X12_is wL_X12_X12_is wK_X12_is wI_X12 (by decide +kernel) ⟨Nat.le_of_ble_eq_true rfl, Nat.le_of_ble_eq_true rfl⟩) hK hP hD hS hA (va_recv hK hP (ci := 14) (q0 := 0) rfl rfl) rfl hl.1 rfl (Nat.le_of_ble_eq_true rfl) dX12_others_107 ⟨Nat.le_of_ble_eq_true rfl, Nat.le_of_ble_eq_true rfl⟩ (fun r_15 u_16 H locs q_14 hP hD hS => ?_)
      obtain rfl := q_14
      have hP : va_P (dC, dI) vwCl (rW g ty Y pa kp ks I tl ac wr tw) H := hP
      have hD : va_D A (rW g ty Y pa kp ks I tl ac wr tw) := hD
      refine lv_if_eq (tgt := 117) hx hb dX12_others_110 (by decide) (fun _ => ?_) (fun c9 => absurd hi9 c9)
      refine lv_lconst (v := 0) hx hb dX12_others_117 (by decide) ?_
      refine cr_l (wo := fun u : rY × (Nat → Int32) × (Nat → Int32) × (Nat → Int32) × Int32 × Int32 => rW g ty u.1 u.2.1 u.2.2.1 ks I u.2.2.2.1 ac u.2.2.2.2.1 u.2.2.2.2.2) ((Y, pa, kp, tl, wr, tw)) hx hb hr hlk hS hP hD ?_ dX12_others_118
      exact ⟨0, Y, pa, kp, tl, wr, tw, rfl, rfl, (by subst pre6; exact ra_ok rel hcnt htl rfl)⟩
  · show _
    obtain ⟨n1t, n2t, n3t⟩ := rk_some rel g2 g3
    have hnet := (i32_pos n1t).2.1
    have tht := wf.1 _ _ g3
    have hi9 : ¬ (if (pa a0.toNatClampNeg) = 0 then 0 else rIs (Y.1 (pa a0.toNatClampNeg).toNatClampNeg) (b0 &&& 15)) = 0 := is_1 rel wf g2 (sb15 _) g3 g4
    have hl : lv_has ls 5 [(0, .ref (g 8)), (1, .int 27), (2, .int a0), (3, .int b0), (4, .int c0)] := hl
    refine lv_iload_n hx hb dX12_others_0 rfl (lv_at hl 1 rfl) ?_
    refine lv_tableIn (off := 82) (tgt := 83) hx hb dX12_others_1 (by decide) (by decide) (by decide) (by decide) ?_
    refine lv_aload_n hx hb dX12_others_83 rfl (lv_at hl 0 rfl) ?_
    refine lv_iload_n hx hb dX12_others_84 rfl (lv_at hl 2 rfl) ?_
    refine cV_i (C := RX12) (n := 1) (rest := []) hx hb hml hown hg hT (c_X12_place l dC dI g ty s.heap.size Y pa kp ks I tl ac wr tw a0 ) (cv_of hg wM_X12_83 wN_X12_place wL_X12_X12_place wK_X12_place wI_X12 (by decide +kernel) ⟨Nat.le_of_ble_eq_true rfl, Nat.le_of_ble_eq_true rfl⟩) hK hP hD hS hA (va_recv hK hP (ci := 14) (q0 := 0) rfl rfl) rfl hl.1 rfl (Nat.le_of_ble_eq_true rfl) dX12_others_85 ⟨Nat.le_of_ble_eq_true rfl, Nat.le_of_ble_eq_true rfl⟩ (fun r_18 u_19 H locs q_17 hP hD hS => ?_)
    rcases q_17 with ⟨rfl, rfl, f_20⟩ | ⟨rfl, rfl, f_21⟩
    · show _
      exact absurd (by assumption) f_20
    · show _
      have hP : va_P (dC, dI) vwCl (rW g ty Y pa kp ks I tl ac wr tw) H := hP
      have hD : va_D A (rW g ty Y pa kp ks I tl ac wr tw) := hD
      refine lv_if_ne (tgt := 96) hx hb dX12_others_88 (by decide) (fun _ => ?_) (fun c9 => absurd c9 (by decide)) 
      refine lv_aload_n hx hb dX12_others_96 rfl (lv_at hl 0 rfl) ?_
      refine lv_aload_n hx hb dX12_others_97 rfl (lv_at hl 0 rfl) ?_
      refine va_get (D := (dC, dI)) (ci := 14) (v := .ref (g 9)) (C := RX12) (T := TX12) (N := 21) hx hb hg inG12 hown hK hP 0 rfl rfl 8 (by decide) (hg _ wF_X12_34) (fun _ h9 => h9) rfl dX12_others_98 ?_
      refine lv_iload_n hx hb dX12_others_101 rfl (lv_at hl 2 rfl) ?_
      refine va_iald hx hb hK hP 7 0 rfl rfl (by assumption) dX12_others_102 ?_
      refine lv_iload_n hx hb dX12_others_103 rfl (lv_at hl 3 rfl) ?_
      refine lv_bipush (v := 15) hx hb dX12_others_104 (by decide) ?_
      refine lv_iand hx hb dX12_others_106 ?_
      refine cV_i (C := RX12) (n := 2) (rest := []) hx hb hml hown hg hT (c_X12_is l dC dI g ty H.size Y pa kp ks I tl ac wr tw (pa a0.toNatClampNeg) (b0 &&& 15) (by exact rk_vin rel (by assumption))) (cv_of hg wM_X12_86 wN_X12_is wL_X12_X12_is wK_X12_is wI_X12 (by decide +kernel) ⟨Nat.le_of_ble_eq_true rfl, Nat.le_of_ble_eq_true rfl⟩) hK hP hD hS hA (va_recv hK hP (ci := 14) (q0 := 0) rfl rfl) rfl hl.1 rfl (Nat.le_of_ble_eq_true rfl) dX12_others_107 ⟨Nat.le_of_ble_eq_true rfl, Nat.le_of_ble_eq_true rfl⟩ (fun r_23 u_24 H locs q_22 hP hD hS => ?_)
      obtain rfl := q_22
      have hP : va_P (dC, dI) vwCl (rW g ty Y pa kp ks I tl ac wr tw) H := hP
      have hD : va_D A (rW g ty Y pa kp ks I tl ac wr tw) := hD
      refine lv_if_eq (tgt := 117) hx hb dX12_others_110 (by decide) (fun c9 => absurd c9 hi9) (fun _ => ?_)
      refine lv_lconst (v := 1) hx hb dX12_others_113 (by decide) ?_
      refine lv_goto (tgt := 118) hx hb dX12_others_114 (by decide) ?_
      refine cr_l (wo := fun u : rY × (Nat → Int32) × (Nat → Int32) × (Nat → Int32) × Int32 × Int32 => rW g ty u.1 u.2.1 u.2.2.1 ks I u.2.2.2.1 ac u.2.2.2.2.1 u.2.2.2.2.2) ((Y, pa, kp, tl, wr, tw)) hx hb hr hlk hS hP hD ?_ dX12_others_118
      exact ⟨1, Y, pa, kp, tl, wr, tw, rfl, rfl, (by subst pre6; exact ra_ok rel hcnt htl rfl)⟩
  · show _
    obtain ⟨n1t, n2t, n3t⟩ := rk_some rel g2 g3
    have hnet := (i32_pos n1t).2.1
    have tht := wf.1 _ _ g3
    have hi9 : (if (pa a0.toNatClampNeg) = 0 then 0 else rIs (Y.1 (pa a0.toNatClampNeg).toNatClampNeg) (b0 &&& 15)) = 0 := is_0 rel wf g2 (sb15 _) g3 g4
    have hl : lv_has ls 5 [(0, .ref (g 8)), (1, .int 27), (2, .int a0), (3, .int b0), (4, .int c0)] := hl
    refine lv_iload_n hx hb dX12_others_0 rfl (lv_at hl 1 rfl) ?_
    refine lv_tableIn (off := 82) (tgt := 83) hx hb dX12_others_1 (by decide) (by decide) (by decide) (by decide) ?_
    refine lv_aload_n hx hb dX12_others_83 rfl (lv_at hl 0 rfl) ?_
    refine lv_iload_n hx hb dX12_others_84 rfl (lv_at hl 2 rfl) ?_
    refine cV_i (C := RX12) (n := 1) (rest := []) hx hb hml hown hg hT (c_X12_place l dC dI g ty s.heap.size Y pa kp ks I tl ac wr tw a0 ) (cv_of hg wM_X12_83 wN_X12_place wL_X12_X12_place wK_X12_place wI_X12 (by decide +kernel) ⟨Nat.le_of_ble_eq_true rfl, Nat.le_of_ble_eq_true rfl⟩) hK hP hD hS hA (va_recv hK hP (ci := 14) (q0 := 0) rfl rfl) rfl hl.1 rfl (Nat.le_of_ble_eq_true rfl) dX12_others_85 ⟨Nat.le_of_ble_eq_true rfl, Nat.le_of_ble_eq_true rfl⟩ (fun r_26 u_27 H locs q_25 hP hD hS => ?_)
    rcases q_25 with ⟨rfl, rfl, f_28⟩ | ⟨rfl, rfl, f_29⟩
    · show _
      exact absurd (by assumption) f_28
    · show _
      have hP : va_P (dC, dI) vwCl (rW g ty Y pa kp ks I tl ac wr tw) H := hP
      have hD : va_D A (rW g ty Y pa kp ks I tl ac wr tw) := hD
      refine lv_if_ne (tgt := 96) hx hb dX12_others_88 (by decide) (fun _ => ?_) (fun c9 => absurd c9 (by decide)) 
      refine lv_aload_n hx hb dX12_others_96 rfl (lv_at hl 0 rfl) ?_
      refine lv_aload_n hx hb dX12_others_97 rfl (lv_at hl 0 rfl) ?_
      refine va_get (D := (dC, dI)) (ci := 14) (v := .ref (g 9)) (C := RX12) (T := TX12) (N := 21) hx hb hg inG12 hown hK hP 0 rfl rfl 8 (by decide) (hg _ wF_X12_34) (fun _ h9 => h9) rfl dX12_others_98 ?_
      refine lv_iload_n hx hb dX12_others_101 rfl (lv_at hl 2 rfl) ?_
      refine va_iald hx hb hK hP 7 0 rfl rfl (by assumption) dX12_others_102 ?_
      refine lv_iload_n hx hb dX12_others_103 rfl (lv_at hl 3 rfl) ?_
      refine lv_bipush (v := 15) hx hb dX12_others_104 (by decide) ?_
      refine lv_iand hx hb dX12_others_106 ?_
      refine cV_i (C := RX12) (n := 2) (rest := []) hx hb hml hown hg hT (c_X12_is l dC dI g ty H.size Y pa kp ks I tl ac wr tw (pa a0.toNatClampNeg) (b0 &&& 15) (by exact rk_vin rel (by assumption))) (cv_of hg wM_X12_86 wN_X12_is wL_X12_X12_is wK_X12_is wI_X12 (by decide +kernel) ⟨Nat.le_of_ble_eq_true rfl, Nat.le_of_ble_eq_true rfl⟩) hK hP hD hS hA (va_recv hK hP (ci := 14) (q0 := 0) rfl rfl) rfl hl.1 rfl (Nat.le_of_ble_eq_true rfl) dX12_others_107 ⟨Nat.le_of_ble_eq_true rfl, Nat.le_of_ble_eq_true rfl⟩ (fun r_31 u_32 H locs q_30 hP hD hS => ?_)
      obtain rfl := q_30
      have hP : va_P (dC, dI) vwCl (rW g ty Y pa kp ks I tl ac wr tw) H := hP
      have hD : va_D A (rW g ty Y pa kp ks I tl ac wr tw) := hD
      refine lv_if_eq (tgt := 117) hx hb dX12_others_110 (by decide) (fun _ => ?_) (fun c9 => absurd hi9 c9)
      refine lv_lconst (v := 0) hx hb dX12_others_117 (by decide) ?_
      refine cr_l (wo := fun u : rY × (Nat → Int32) × (Nat → Int32) × (Nat → Int32) × Int32 × Int32 => rW g ty u.1 u.2.1 u.2.2.1 ks I u.2.2.2.1 ac u.2.2.2.2.1 u.2.2.2.2.2) ((Y, pa, kp, tl, wr, tw)) hx hb hr hlk hS hP hD ?_ dX12_others_118
      exact ⟨0, Y, pa, kp, tl, wr, tw, rfl, rfl, (by subst pre6; exact ra_ok rel hcnt htl rfl)⟩
set_option maxHeartbeats 800000 in
set_option maxRecDepth 100000 in
theorem c_X12_divides_22 (l : Launch) (dC : Nat → ClassId) (dI : Nat → Nat → Nat) (g : Nat → Nat) (ty : Nat → ClassId) (sz : Nat) (Y : rY) (pa : Nat → Int32) (kp : Nat → Int32) (ks : Int32) (I : rI) (tl : Nat → Int32) (ac : Int64) (wr : Int32) (tw : Int32) (ρ : Nat → Nat) (pl : Nat → Option Nat) (P : cQ) (md : Int32) (Z : cZ) (rz9 : Int64) (u9 : Int32) (b0 : Int32) (pre0 : rR Y.2.2.2.2.2.2.2.2.2.1 Y pa ρ pl P) (pre1 : cWF pl P) (pre2 : ks = 0) (pre3 : rCnt Y md) (pre4 : tl 5 = md) (pre5 : 0 ≤ md ∧ md ≤ 6000) (pre6 : tw = 0) (pre7 : q_X11_o22 b0 pl ac (-1) md Z P rz9 u9) : Met l yX12_divides (Cond.code yX12_divides cX12_divides 7 (some .long) :: gT) ({ frames := 1, cells := 0, slots := 0, locals := 21 }) (cP (dC, dI) (rTy ty) (rW g ty Y pa kp ks I tl ac wr tw) sz [.ref (g 8), .int 22, .int b0]) (va_Ql (fun (rz : Int64) (u : rY × (Nat → Int32) × (Nat → Int32) × (Nat → Int32) × Int32 × Int32) => ∃ (r' : Int64) (Y' : rY) (pa' kp' tl' : Nat → Int32) (wr' tw' : Int32), r' = rz ∧ (Y', pa', kp', tl', wr', tw') = u ∧ rAns u9 rz9 pl P md tl Y r' Y' pa' tl' wr' tw') (cB (dC, dI) (fun u : rY × (Nat → Int32) × (Nat → Int32) × (Nat → Int32) × Int32 × Int32 => rW g ty u.1 u.2.1 u.2.2.1 ks I u.2.2.2.1 ac u.2.2.2.2.1 u.2.2.2.2.2) (va_A (rW g ty Y pa kp ks I tl ac wr tw) sz)) (va_A (rW g ty Y pa kp ks I tl ac wr tw) sz)) 0 0 (va_A (rW g ty Y pa kp ks I tl ac wr tw) sz) := by
  refine cc_of (Qa := fun A => va_Ql (fun (rz : Int64) (u : rY × (Nat → Int32) × (Nat → Int32) × (Nat → Int32) × Int32 × Int32) => ∃ (r' : Int64) (Y' : rY) (pa' kp' tl' : Nat → Int32) (wr' tw' : Int32), r' = rz ∧ (Y', pa', kp', tl', wr', tw') = u ∧ rAns u9 rz9 pl P md tl Y r' Y' pa' tl' wr' tw') (cB (dC, dI) (fun u : rY × (Nat → Int32) × (Nat → Int32) × (Nat → Int32) × Int32 × Int32 => rW g ty u.1 u.2.1 u.2.2.1 ks I u.2.2.2.1 ac u.2.2.2.2.1 u.2.2.2.2.2) A) A) (by decide) (Nat.le_of_ble_eq_true rfl) ?_
  intro p e s m below meth c A hx hb hr hml hown hg hlk hmn hP hK hD hT hS hA hsz ls hl
  have hown : s.vm.findClass RX12 = some m.cls := hown
  have rel := pre0
  have wf := pre1
  have hcnt := pre3
  have htl := pre4
  rcases pre7 with ⟨rfl, rfl, g2⟩ | ⟨rfl, rfl, g2⟩
  · show _
    have hl : lv_has ls 7 [(0, .ref (g 8)), (1, .int 22), (2, .int b0)] := hl
    refine lv_iload_n hx hb dX12_divides_0 rfl (lv_at hl 2 rfl) ?_
    refine lv_if_ne (tgt := 15) hx hb dX12_divides_1 (by decide) (fun c9 => absurd g2 c9) (fun _ => ?_)
    refine lv_aload_n hx hb dX12_divides_4 rfl (lv_at hl 0 rfl) ?_
    refine lv_iconst (v := 0) hx hb dX12_divides_5 (by decide) ?_
    refine cV_i (C := RX12) (n := 1) (rest := []) hx hb hml hown hg hT (c_X12_fails l dC dI g ty s.heap.size Y pa kp ks I tl ac wr tw 0 ) (cv_of hg wM_X12_79 wN_X12_fails wL_X12_X12_fails wK_X12_fails wI_X12 (by decide +kernel) ⟨Nat.le_of_ble_eq_true rfl, Nat.le_of_ble_eq_true rfl⟩) hK hP hD hS hA (va_recv hK hP (ci := 14) (q0 := 0) rfl rfl) rfl hl.1 rfl (Nat.le_of_ble_eq_true rfl) dX12_divides_6 ⟨Nat.le_of_ble_eq_true rfl, Nat.le_of_ble_eq_true rfl⟩ (fun r_2 u_3 H locs q_1 hP hD hS => ?_)
    obtain ⟨rfl, rfl⟩ := q_1
    have hP : va_P (dC, dI) vwCl (rW g ty Y pa kp ks I tl ac 0 tw) H := hP
    have hD : va_D A (rW g ty Y pa kp ks I tl ac 0 tw) := hD
    refine lv_pop hx hb dX12_divides_9 rfl ?_
    refine lv_aload_n hx hb dX12_divides_10 rfl (lv_at hl 0 rfl) ?_
    refine cV_l (C := RX12) (n := 0) (rest := []) hx hb hml hown hg hT (c_X12_no l dC dI g ty H.size Y pa kp ks I tl ac 0 tw  ) (cv_of hg wM_X12_107 wN_X12_no wL_X12_X12_no wK_X12_no wI_X12 (by decide +kernel) ⟨Nat.le_of_ble_eq_true rfl, Nat.le_of_ble_eq_true rfl⟩) hK hP hD hS hA (va_recv hK hP (ci := 14) (q0 := 0) rfl rfl) rfl hl.1 rfl (Nat.le_of_ble_eq_true rfl) dX12_divides_11 ⟨Nat.le_of_ble_eq_true rfl, Nat.le_of_ble_eq_true rfl⟩ (fun r_5 u_6 H locs q_4 hP hD hS => ?_)
    obtain ⟨rfl, rfl⟩ := q_4
    have hP : va_P (dC, dI) vwCl (rW g ty Y pa kp ks I tl ac 0 1) H := hP
    have hD : va_D A (rW g ty Y pa kp ks I tl ac 0 1) := hD
    refine cr_l (wo := fun u : rY × (Nat → Int32) × (Nat → Int32) × (Nat → Int32) × Int32 × Int32 => rW g ty u.1 u.2.1 u.2.2.1 ks I u.2.2.2.1 ac u.2.2.2.2.1 u.2.2.2.2.2) ((Y, pa, kp, tl, 0, 1)) hx hb hr hlk hS hP hD ?_ dX12_divides_14
    exact ⟨0, Y, pa, kp, tl, 0, 1, rfl, rfl, (by exact ra_f (f := 0) rel hcnt htl (by decide))⟩
  · show _
    have hl : lv_has ls 7 [(0, .ref (g 8)), (1, .int 22), (2, .int b0)] := hl
    refine lv_iload_n hx hb dX12_divides_0 rfl (lv_at hl 2 rfl) ?_
    refine lv_if_ne (tgt := 15) hx hb dX12_divides_1 (by decide) (fun _ => ?_) (fun c9 => absurd c9 g2)
    refine lv_iload_n hx hb dX12_divides_15 rfl (lv_at hl 1 rfl) ?_
    refine lv_bipush (v := 23) hx hb dX12_divides_16 (by decide) ?_
    refine lv_icmp_gt (tgt := 30) hx hb dX12_divides_18 (by decide) (fun c9 => absurd c9 (by decide)) (fun _ => ?_)
    refine lv_aload_n hx hb dX12_divides_21 rfl (lv_at hl 0 rfl) ?_
    refine va_get (D := (dC, dI)) (ci := 14) (v := .long ac) (C := RX12) (T := TX12) (N := 21) hx hb hg inG12 hown hK hP 0 rfl rfl 13 (by decide) (hg _ wF_X12_143) (fun _ h9 => h9) rfl dX12_divides_22 ?_
    refine lv_l2i (v := (ac.toInt32)) hx hb dX12_divides_25 rfl ?_
    refine lv_i2l (v := ((ac.toInt32).toInt64)) hx hb dX12_divides_26 rfl ?_
    refine lv_goto (tgt := 34) hx hb dX12_divides_27 (by decide) ?_
    refine lv_lstore_n (lv' := [(3, .long ((ac.toInt32).toInt64)), (0, .ref (g 8)), (1, .int 22), (2, .int b0)]) hx hb dX12_divides_34 rfl hl (by decide) rfl (fun ls hl => ?_)
    refine lv_iload_n hx hb dX12_divides_35 rfl (lv_at hl 3 rfl) ?_
    refine lv_iconst (v := (-1)) hx hb dX12_divides_36 (by decide) ?_
    refine lv_icmp_ne (tgt := 45) hx hb dX12_divides_37 (by decide) (fun c_7 => ?_) (fun c_7 => ?_)
    · show _
      refine lv_lload_n hx hb dX12_divides_45 rfl (lv_at hl 0 rfl) ?_
      refine lv_iload_n hx hb dX12_divides_46 rfl (lv_at hl 3 rfl) ?_
      refine lv_i2l (v := (b0.toInt64)) hx hb dX12_divides_47 rfl ?_
      refine lv_ldiv hx hb dX12_divides_48 (by first | assumption | exact i64_ne (by assumption) | decide) ?_
      refine lv_lstore (lv' := [(5, .long (((ac.toInt32).toInt64) / (b0.toInt64))), (3, .long ((ac.toInt32).toInt64)), (0, .ref (g 8)), (1, .int 22), (2, .int b0)]) hx hb dX12_divides_49 hl (by decide) rfl (fun ls hl => ?_)
      refine lv_iload_n hx hb dX12_divides_51 rfl (lv_at hl 3 rfl) ?_
      refine lv_iconst (v := 1) hx hb dX12_divides_52 (by decide) ?_
      refine lv_iand hx hb dX12_divides_53 ?_
      refine lv_topi (fun y_8 ey_8 => ?_)
      obtain rfl : y_8 = 0 := ey_8.trans (by decide)
      refine lv_iconst (v := 1) hx hb dX12_divides_54 (by decide) ?_
      refine lv_icmp_ne (tgt := 66) hx hb dX12_divides_55 (by decide) (fun _ => ?_) (fun c9 => absurd c9 (by decide)) 
      refine lv_iload_n hx hb dX12_divides_66 rfl (lv_at hl 3 rfl) ?_
      refine lv_bipush (v := 22) hx hb dX12_divides_67 (by decide) ?_
      refine lv_icmp_ne (tgt := 79) hx hb dX12_divides_69 (by decide) (fun c9 => absurd (by decide) c9) (fun _ => ?_)
      refine lv_lload hx hb dX12_divides_72 (lv_at hl 0 rfl) ?_
      refine lv_l2i (v := ((((ac.toInt32).toInt64) / (b0.toInt64)).toInt32)) hx hb dX12_divides_74 rfl ?_
      refine lv_i2l (v := (((((ac.toInt32).toInt64) / (b0.toInt64)).toInt32).toInt64)) hx hb dX12_divides_75 rfl ?_
      refine lv_goto (tgt := 81) hx hb dX12_divides_76 (by decide) ?_
      refine cr_l (wo := fun u : rY × (Nat → Int32) × (Nat → Int32) × (Nat → Int32) × Int32 × Int32 => rW g ty u.1 u.2.1 u.2.2.1 ks I u.2.2.2.1 ac u.2.2.2.2.1 u.2.2.2.2.2) ((Y, pa, kp, tl, wr, tw)) hx hb hr hlk hS hP hD ?_ dX12_divides_81
      exact ⟨(((((ac.toInt32).toInt64) / (b0.toInt64)).toInt32).toInt64), Y, pa, kp, tl, wr, tw, rfl, rfl, (by subst pre6; exact ra_ok rel hcnt htl (congrArg Int32.toInt64 dv_q))⟩
    · show _
      refine lv_lload_n hx hb dX12_divides_40 rfl (lv_at hl 0 rfl) ?_
      refine lv_lneg hx hb dX12_divides_41 ?_
      refine lv_goto (tgt := 49) hx hb dX12_divides_42 (by decide) ?_
      refine lv_lstore (lv' := [(5, .long (-((ac.toInt32).toInt64))), (3, .long ((ac.toInt32).toInt64)), (0, .ref (g 8)), (1, .int 22), (2, .int b0)]) hx hb dX12_divides_49 hl (by decide) rfl (fun ls hl => ?_)
      refine lv_iload_n hx hb dX12_divides_51 rfl (lv_at hl 3 rfl) ?_
      refine lv_iconst (v := 1) hx hb dX12_divides_52 (by decide) ?_
      refine lv_iand hx hb dX12_divides_53 ?_
      refine lv_topi (fun y_9 ey_9 => ?_)
      obtain rfl : y_9 = 0 := ey_9.trans (by decide)
      refine lv_iconst (v := 1) hx hb dX12_divides_54 (by decide) ?_
      refine lv_icmp_ne (tgt := 66) hx hb dX12_divides_55 (by decide) (fun _ => ?_) (fun c9 => absurd c9 (by decide)) 
      refine lv_iload_n hx hb dX12_divides_66 rfl (lv_at hl 3 rfl) ?_
      refine lv_bipush (v := 22) hx hb dX12_divides_67 (by decide) ?_
      refine lv_icmp_ne (tgt := 79) hx hb dX12_divides_69 (by decide) (fun c9 => absurd (by decide) c9) (fun _ => ?_)
      refine lv_lload hx hb dX12_divides_72 (lv_at hl 0 rfl) ?_
      refine lv_l2i (v := ((-((ac.toInt32).toInt64)).toInt32)) hx hb dX12_divides_74 rfl ?_
      refine lv_i2l (v := (((-((ac.toInt32).toInt64)).toInt32).toInt64)) hx hb dX12_divides_75 rfl ?_
      refine lv_goto (tgt := 81) hx hb dX12_divides_76 (by decide) ?_
      refine cr_l (wo := fun u : rY × (Nat → Int32) × (Nat → Int32) × (Nat → Int32) × Int32 × Int32 => rW g ty u.1 u.2.1 u.2.2.1 ks I u.2.2.2.1 ac u.2.2.2.2.1 u.2.2.2.2.2) ((Y, pa, kp, tl, wr, tw)) hx hb hr hlk hS hP hD ?_ dX12_divides_81
      exact ⟨(((-((ac.toInt32).toInt64)).toInt32).toInt64), Y, pa, kp, tl, wr, tw, rfl, rfl, (by subst pre6; exact ra_ok rel hcnt htl (congrArg Int32.toInt64 (dv_n c_7)))⟩
set_option maxHeartbeats 800000 in
set_option maxRecDepth 100000 in
theorem c_X12_divides_23 (l : Launch) (dC : Nat → ClassId) (dI : Nat → Nat → Nat) (g : Nat → Nat) (ty : Nat → ClassId) (sz : Nat) (Y : rY) (pa : Nat → Int32) (kp : Nat → Int32) (ks : Int32) (I : rI) (tl : Nat → Int32) (ac : Int64) (wr : Int32) (tw : Int32) (ρ : Nat → Nat) (pl : Nat → Option Nat) (P : cQ) (md : Int32) (Z : cZ) (rz9 : Int64) (u9 : Int32) (b0 : Int32) (pre0 : rR Y.2.2.2.2.2.2.2.2.2.1 Y pa ρ pl P) (pre1 : cWF pl P) (pre2 : ks = 0) (pre3 : rCnt Y md) (pre4 : tl 5 = md) (pre5 : 0 ≤ md ∧ md ≤ 6000) (pre6 : tw = 0) (pre7 : q_X11_o23 b0 pl ac (-1) md Z P rz9 u9) : Met l yX12_divides (Cond.code yX12_divides cX12_divides 7 (some .long) :: gT) ({ frames := 1, cells := 0, slots := 0, locals := 21 }) (cP (dC, dI) (rTy ty) (rW g ty Y pa kp ks I tl ac wr tw) sz [.ref (g 8), .int 23, .int b0]) (va_Ql (fun (rz : Int64) (u : rY × (Nat → Int32) × (Nat → Int32) × (Nat → Int32) × Int32 × Int32) => ∃ (r' : Int64) (Y' : rY) (pa' kp' tl' : Nat → Int32) (wr' tw' : Int32), r' = rz ∧ (Y', pa', kp', tl', wr', tw') = u ∧ rAns u9 rz9 pl P md tl Y r' Y' pa' tl' wr' tw') (cB (dC, dI) (fun u : rY × (Nat → Int32) × (Nat → Int32) × (Nat → Int32) × Int32 × Int32 => rW g ty u.1 u.2.1 u.2.2.1 ks I u.2.2.2.1 ac u.2.2.2.2.1 u.2.2.2.2.2) (va_A (rW g ty Y pa kp ks I tl ac wr tw) sz)) (va_A (rW g ty Y pa kp ks I tl ac wr tw) sz)) 0 0 (va_A (rW g ty Y pa kp ks I tl ac wr tw) sz) := by
  refine cc_of (Qa := fun A => va_Ql (fun (rz : Int64) (u : rY × (Nat → Int32) × (Nat → Int32) × (Nat → Int32) × Int32 × Int32) => ∃ (r' : Int64) (Y' : rY) (pa' kp' tl' : Nat → Int32) (wr' tw' : Int32), r' = rz ∧ (Y', pa', kp', tl', wr', tw') = u ∧ rAns u9 rz9 pl P md tl Y r' Y' pa' tl' wr' tw') (cB (dC, dI) (fun u : rY × (Nat → Int32) × (Nat → Int32) × (Nat → Int32) × Int32 × Int32 => rW g ty u.1 u.2.1 u.2.2.1 ks I u.2.2.2.1 ac u.2.2.2.2.1 u.2.2.2.2.2) A) A) (by decide) (Nat.le_of_ble_eq_true rfl) ?_
  intro p e s m below meth c A hx hb hr hml hown hg hlk hmn hP hK hD hT hS hA hsz ls hl
  have hown : s.vm.findClass RX12 = some m.cls := hown
  have rel := pre0
  have wf := pre1
  have hcnt := pre3
  have htl := pre4
  rcases pre7 with ⟨rfl, rfl, g2⟩ | ⟨rfl, rfl, g2⟩
  · show _
    have hl : lv_has ls 7 [(0, .ref (g 8)), (1, .int 23), (2, .int b0)] := hl
    refine lv_iload_n hx hb dX12_divides_0 rfl (lv_at hl 2 rfl) ?_
    refine lv_if_ne (tgt := 15) hx hb dX12_divides_1 (by decide) (fun c9 => absurd g2 c9) (fun _ => ?_)
    refine lv_aload_n hx hb dX12_divides_4 rfl (lv_at hl 0 rfl) ?_
    refine lv_iconst (v := 0) hx hb dX12_divides_5 (by decide) ?_
    refine cV_i (C := RX12) (n := 1) (rest := []) hx hb hml hown hg hT (c_X12_fails l dC dI g ty s.heap.size Y pa kp ks I tl ac wr tw 0 ) (cv_of hg wM_X12_79 wN_X12_fails wL_X12_X12_fails wK_X12_fails wI_X12 (by decide +kernel) ⟨Nat.le_of_ble_eq_true rfl, Nat.le_of_ble_eq_true rfl⟩) hK hP hD hS hA (va_recv hK hP (ci := 14) (q0 := 0) rfl rfl) rfl hl.1 rfl (Nat.le_of_ble_eq_true rfl) dX12_divides_6 ⟨Nat.le_of_ble_eq_true rfl, Nat.le_of_ble_eq_true rfl⟩ (fun r_2 u_3 H locs q_1 hP hD hS => ?_)
    obtain ⟨rfl, rfl⟩ := q_1
    have hP : va_P (dC, dI) vwCl (rW g ty Y pa kp ks I tl ac 0 tw) H := hP
    have hD : va_D A (rW g ty Y pa kp ks I tl ac 0 tw) := hD
    refine lv_pop hx hb dX12_divides_9 rfl ?_
    refine lv_aload_n hx hb dX12_divides_10 rfl (lv_at hl 0 rfl) ?_
    refine cV_l (C := RX12) (n := 0) (rest := []) hx hb hml hown hg hT (c_X12_no l dC dI g ty H.size Y pa kp ks I tl ac 0 tw  ) (cv_of hg wM_X12_107 wN_X12_no wL_X12_X12_no wK_X12_no wI_X12 (by decide +kernel) ⟨Nat.le_of_ble_eq_true rfl, Nat.le_of_ble_eq_true rfl⟩) hK hP hD hS hA (va_recv hK hP (ci := 14) (q0 := 0) rfl rfl) rfl hl.1 rfl (Nat.le_of_ble_eq_true rfl) dX12_divides_11 ⟨Nat.le_of_ble_eq_true rfl, Nat.le_of_ble_eq_true rfl⟩ (fun r_5 u_6 H locs q_4 hP hD hS => ?_)
    obtain ⟨rfl, rfl⟩ := q_4
    have hP : va_P (dC, dI) vwCl (rW g ty Y pa kp ks I tl ac 0 1) H := hP
    have hD : va_D A (rW g ty Y pa kp ks I tl ac 0 1) := hD
    refine cr_l (wo := fun u : rY × (Nat → Int32) × (Nat → Int32) × (Nat → Int32) × Int32 × Int32 => rW g ty u.1 u.2.1 u.2.2.1 ks I u.2.2.2.1 ac u.2.2.2.2.1 u.2.2.2.2.2) ((Y, pa, kp, tl, 0, 1)) hx hb hr hlk hS hP hD ?_ dX12_divides_14
    exact ⟨0, Y, pa, kp, tl, 0, 1, rfl, rfl, (by exact ra_f (f := 0) rel hcnt htl (by decide))⟩
  · show _
    have hl : lv_has ls 7 [(0, .ref (g 8)), (1, .int 23), (2, .int b0)] := hl
    refine lv_iload_n hx hb dX12_divides_0 rfl (lv_at hl 2 rfl) ?_
    refine lv_if_ne (tgt := 15) hx hb dX12_divides_1 (by decide) (fun _ => ?_) (fun c9 => absurd c9 g2)
    refine lv_iload_n hx hb dX12_divides_15 rfl (lv_at hl 1 rfl) ?_
    refine lv_bipush (v := 23) hx hb dX12_divides_16 (by decide) ?_
    refine lv_icmp_gt (tgt := 30) hx hb dX12_divides_18 (by decide) (fun c9 => absurd c9 (by decide)) (fun _ => ?_)
    refine lv_aload_n hx hb dX12_divides_21 rfl (lv_at hl 0 rfl) ?_
    refine va_get (D := (dC, dI)) (ci := 14) (v := .long ac) (C := RX12) (T := TX12) (N := 21) hx hb hg inG12 hown hK hP 0 rfl rfl 13 (by decide) (hg _ wF_X12_143) (fun _ h9 => h9) rfl dX12_divides_22 ?_
    refine lv_l2i (v := (ac.toInt32)) hx hb dX12_divides_25 rfl ?_
    refine lv_i2l (v := ((ac.toInt32).toInt64)) hx hb dX12_divides_26 rfl ?_
    refine lv_goto (tgt := 34) hx hb dX12_divides_27 (by decide) ?_
    refine lv_lstore_n (lv' := [(3, .long ((ac.toInt32).toInt64)), (0, .ref (g 8)), (1, .int 23), (2, .int b0)]) hx hb dX12_divides_34 rfl hl (by decide) rfl (fun ls hl => ?_)
    refine lv_iload_n hx hb dX12_divides_35 rfl (lv_at hl 3 rfl) ?_
    refine lv_iconst (v := (-1)) hx hb dX12_divides_36 (by decide) ?_
    refine lv_icmp_ne (tgt := 45) hx hb dX12_divides_37 (by decide) (fun c_7 => ?_) (fun c_7 => ?_)
    · show _
      refine lv_lload_n hx hb dX12_divides_45 rfl (lv_at hl 0 rfl) ?_
      refine lv_iload_n hx hb dX12_divides_46 rfl (lv_at hl 3 rfl) ?_
      refine lv_i2l (v := (b0.toInt64)) hx hb dX12_divides_47 rfl ?_
      refine lv_ldiv hx hb dX12_divides_48 (by first | assumption | exact i64_ne (by assumption) | decide) ?_
      refine lv_lstore (lv' := [(5, .long (((ac.toInt32).toInt64) / (b0.toInt64))), (3, .long ((ac.toInt32).toInt64)), (0, .ref (g 8)), (1, .int 23), (2, .int b0)]) hx hb dX12_divides_49 hl (by decide) rfl (fun ls hl => ?_)
      refine lv_iload_n hx hb dX12_divides_51 rfl (lv_at hl 3 rfl) ?_
      refine lv_iconst (v := 1) hx hb dX12_divides_52 (by decide) ?_
      refine lv_iand hx hb dX12_divides_53 ?_
      refine lv_topi (fun y_8 ey_8 => ?_)
      obtain rfl : y_8 = 1 := ey_8.trans (by decide)
      refine lv_iconst (v := 1) hx hb dX12_divides_54 (by decide) ?_
      refine lv_icmp_ne (tgt := 66) hx hb dX12_divides_55 (by decide) (fun c9 => absurd (by decide) c9) (fun _ => ?_)
      refine lv_lload_n hx hb dX12_divides_58 rfl (lv_at hl 1 rfl) ?_
      refine lv_lload hx hb dX12_divides_59 (lv_at hl 0 rfl) ?_
      refine lv_iload_n hx hb dX12_divides_61 rfl (lv_at hl 4 rfl) ?_
      refine lv_i2l (v := (b0.toInt64)) hx hb dX12_divides_62 rfl ?_
      refine lv_lmul hx hb dX12_divides_63 ?_
      refine lv_lsub hx hb dX12_divides_64 ?_
      refine cr_l (wo := fun u : rY × (Nat → Int32) × (Nat → Int32) × (Nat → Int32) × Int32 × Int32 => rW g ty u.1 u.2.1 u.2.2.1 ks I u.2.2.2.1 ac u.2.2.2.2.1 u.2.2.2.2.2) ((Y, pa, kp, tl, wr, tw)) hx hb hr hlk hS hP hD ?_ dX12_divides_65
      exact ⟨(((ac.toInt32).toInt64) - ((((ac.toInt32).toInt64) / (b0.toInt64)) * (b0.toInt64))), Y, pa, kp, tl, wr, tw, rfl, rfl, (by subst pre6; exact ra_ok rel hcnt htl (dv_r))⟩
    · show _
      refine lv_lload_n hx hb dX12_divides_40 rfl (lv_at hl 0 rfl) ?_
      refine lv_lneg hx hb dX12_divides_41 ?_
      refine lv_goto (tgt := 49) hx hb dX12_divides_42 (by decide) ?_
      refine lv_lstore (lv' := [(5, .long (-((ac.toInt32).toInt64))), (3, .long ((ac.toInt32).toInt64)), (0, .ref (g 8)), (1, .int 23), (2, .int b0)]) hx hb dX12_divides_49 hl (by decide) rfl (fun ls hl => ?_)
      refine lv_iload_n hx hb dX12_divides_51 rfl (lv_at hl 3 rfl) ?_
      refine lv_iconst (v := 1) hx hb dX12_divides_52 (by decide) ?_
      refine lv_iand hx hb dX12_divides_53 ?_
      refine lv_topi (fun y_9 ey_9 => ?_)
      obtain rfl : y_9 = 1 := ey_9.trans (by decide)
      refine lv_iconst (v := 1) hx hb dX12_divides_54 (by decide) ?_
      refine lv_icmp_ne (tgt := 66) hx hb dX12_divides_55 (by decide) (fun c9 => absurd (by decide) c9) (fun _ => ?_)
      refine lv_lload_n hx hb dX12_divides_58 rfl (lv_at hl 1 rfl) ?_
      refine lv_lload hx hb dX12_divides_59 (lv_at hl 0 rfl) ?_
      refine lv_iload_n hx hb dX12_divides_61 rfl (lv_at hl 4 rfl) ?_
      refine lv_i2l (v := (b0.toInt64)) hx hb dX12_divides_62 rfl ?_
      refine lv_lmul hx hb dX12_divides_63 ?_
      refine lv_lsub hx hb dX12_divides_64 ?_
      refine cr_l (wo := fun u : rY × (Nat → Int32) × (Nat → Int32) × (Nat → Int32) × Int32 × Int32 => rW g ty u.1 u.2.1 u.2.2.1 ks I u.2.2.2.1 ac u.2.2.2.2.1 u.2.2.2.2.2) ((Y, pa, kp, tl, wr, tw)) hx hb hr hlk hS hP hD ?_ dX12_divides_65
      exact ⟨(((ac.toInt32).toInt64) - ((-((ac.toInt32).toInt64)) * (b0.toInt64))), Y, pa, kp, tl, wr, tw, rfl, rfl, (by subst pre6; exact ra_ok rel hcnt htl (dv_rn c_7))⟩
set_option maxHeartbeats 800000 in
set_option maxRecDepth 100000 in
theorem c_X12_divides_24 (l : Launch) (dC : Nat → ClassId) (dI : Nat → Nat → Nat) (g : Nat → Nat) (ty : Nat → ClassId) (sz : Nat) (Y : rY) (pa : Nat → Int32) (kp : Nat → Int32) (ks : Int32) (I : rI) (tl : Nat → Int32) (ac : Int64) (wr : Int32) (tw : Int32) (ρ : Nat → Nat) (pl : Nat → Option Nat) (P : cQ) (md : Int32) (Z : cZ) (rz9 : Int64) (u9 : Int32) (b0 : Int32) (pre0 : rR Y.2.2.2.2.2.2.2.2.2.1 Y pa ρ pl P) (pre1 : cWF pl P) (pre2 : ks = 0) (pre3 : rCnt Y md) (pre4 : tl 5 = md) (pre5 : 0 ≤ md ∧ md ≤ 6000) (pre6 : tw = 0) (pre7 : q_X11_o24 b0 pl ac (-1) md Z P rz9 u9) : Met l yX12_divides (Cond.code yX12_divides cX12_divides 7 (some .long) :: gT) ({ frames := 1, cells := 0, slots := 0, locals := 21 }) (cP (dC, dI) (rTy ty) (rW g ty Y pa kp ks I tl ac wr tw) sz [.ref (g 8), .int 24, .int b0]) (va_Ql (fun (rz : Int64) (u : rY × (Nat → Int32) × (Nat → Int32) × (Nat → Int32) × Int32 × Int32) => ∃ (r' : Int64) (Y' : rY) (pa' kp' tl' : Nat → Int32) (wr' tw' : Int32), r' = rz ∧ (Y', pa', kp', tl', wr', tw') = u ∧ rAns u9 rz9 pl P md tl Y r' Y' pa' tl' wr' tw') (cB (dC, dI) (fun u : rY × (Nat → Int32) × (Nat → Int32) × (Nat → Int32) × Int32 × Int32 => rW g ty u.1 u.2.1 u.2.2.1 ks I u.2.2.2.1 ac u.2.2.2.2.1 u.2.2.2.2.2) (va_A (rW g ty Y pa kp ks I tl ac wr tw) sz)) (va_A (rW g ty Y pa kp ks I tl ac wr tw) sz)) 0 0 (va_A (rW g ty Y pa kp ks I tl ac wr tw) sz) := by
  refine cc_of (Qa := fun A => va_Ql (fun (rz : Int64) (u : rY × (Nat → Int32) × (Nat → Int32) × (Nat → Int32) × Int32 × Int32) => ∃ (r' : Int64) (Y' : rY) (pa' kp' tl' : Nat → Int32) (wr' tw' : Int32), r' = rz ∧ (Y', pa', kp', tl', wr', tw') = u ∧ rAns u9 rz9 pl P md tl Y r' Y' pa' tl' wr' tw') (cB (dC, dI) (fun u : rY × (Nat → Int32) × (Nat → Int32) × (Nat → Int32) × Int32 × Int32 => rW g ty u.1 u.2.1 u.2.2.1 ks I u.2.2.2.1 ac u.2.2.2.2.1 u.2.2.2.2.2) A) A) (by decide) (Nat.le_of_ble_eq_true rfl) ?_
  intro p e s m below meth c A hx hb hr hml hown hg hlk hmn hP hK hD hT hS hA hsz ls hl
  have hown : s.vm.findClass RX12 = some m.cls := hown
  have rel := pre0
  have wf := pre1
  have hcnt := pre3
  have htl := pre4
  rcases pre7 with ⟨rfl, rfl, g2⟩ | ⟨rfl, rfl, g2⟩
  · show _
    have hl : lv_has ls 7 [(0, .ref (g 8)), (1, .int 24), (2, .int b0)] := hl
    refine lv_iload_n hx hb dX12_divides_0 rfl (lv_at hl 2 rfl) ?_
    refine lv_if_ne (tgt := 15) hx hb dX12_divides_1 (by decide) (fun c9 => absurd g2 c9) (fun _ => ?_)
    refine lv_aload_n hx hb dX12_divides_4 rfl (lv_at hl 0 rfl) ?_
    refine lv_iconst (v := 0) hx hb dX12_divides_5 (by decide) ?_
    refine cV_i (C := RX12) (n := 1) (rest := []) hx hb hml hown hg hT (c_X12_fails l dC dI g ty s.heap.size Y pa kp ks I tl ac wr tw 0 ) (cv_of hg wM_X12_79 wN_X12_fails wL_X12_X12_fails wK_X12_fails wI_X12 (by decide +kernel) ⟨Nat.le_of_ble_eq_true rfl, Nat.le_of_ble_eq_true rfl⟩) hK hP hD hS hA (va_recv hK hP (ci := 14) (q0 := 0) rfl rfl) rfl hl.1 rfl (Nat.le_of_ble_eq_true rfl) dX12_divides_6 ⟨Nat.le_of_ble_eq_true rfl, Nat.le_of_ble_eq_true rfl⟩ (fun r_2 u_3 H locs q_1 hP hD hS => ?_)
    obtain ⟨rfl, rfl⟩ := q_1
    have hP : va_P (dC, dI) vwCl (rW g ty Y pa kp ks I tl ac 0 tw) H := hP
    have hD : va_D A (rW g ty Y pa kp ks I tl ac 0 tw) := hD
    refine lv_pop hx hb dX12_divides_9 rfl ?_
    refine lv_aload_n hx hb dX12_divides_10 rfl (lv_at hl 0 rfl) ?_
    refine cV_l (C := RX12) (n := 0) (rest := []) hx hb hml hown hg hT (c_X12_no l dC dI g ty H.size Y pa kp ks I tl ac 0 tw  ) (cv_of hg wM_X12_107 wN_X12_no wL_X12_X12_no wK_X12_no wI_X12 (by decide +kernel) ⟨Nat.le_of_ble_eq_true rfl, Nat.le_of_ble_eq_true rfl⟩) hK hP hD hS hA (va_recv hK hP (ci := 14) (q0 := 0) rfl rfl) rfl hl.1 rfl (Nat.le_of_ble_eq_true rfl) dX12_divides_11 ⟨Nat.le_of_ble_eq_true rfl, Nat.le_of_ble_eq_true rfl⟩ (fun r_5 u_6 H locs q_4 hP hD hS => ?_)
    obtain ⟨rfl, rfl⟩ := q_4
    have hP : va_P (dC, dI) vwCl (rW g ty Y pa kp ks I tl ac 0 1) H := hP
    have hD : va_D A (rW g ty Y pa kp ks I tl ac 0 1) := hD
    refine cr_l (wo := fun u : rY × (Nat → Int32) × (Nat → Int32) × (Nat → Int32) × Int32 × Int32 => rW g ty u.1 u.2.1 u.2.2.1 ks I u.2.2.2.1 ac u.2.2.2.2.1 u.2.2.2.2.2) ((Y, pa, kp, tl, 0, 1)) hx hb hr hlk hS hP hD ?_ dX12_divides_14
    exact ⟨0, Y, pa, kp, tl, 0, 1, rfl, rfl, (by exact ra_f (f := 0) rel hcnt htl (by decide))⟩
  · show _
    have hl : lv_has ls 7 [(0, .ref (g 8)), (1, .int 24), (2, .int b0)] := hl
    refine lv_iload_n hx hb dX12_divides_0 rfl (lv_at hl 2 rfl) ?_
    refine lv_if_ne (tgt := 15) hx hb dX12_divides_1 (by decide) (fun _ => ?_) (fun c9 => absurd c9 g2)
    refine lv_iload_n hx hb dX12_divides_15 rfl (lv_at hl 1 rfl) ?_
    refine lv_bipush (v := 23) hx hb dX12_divides_16 (by decide) ?_
    refine lv_icmp_gt (tgt := 30) hx hb dX12_divides_18 (by decide) (fun _ => ?_) (fun c9 => absurd (by decide) c9) 
    refine lv_aload_n hx hb dX12_divides_30 rfl (lv_at hl 0 rfl) ?_
    refine va_get (D := (dC, dI)) (ci := 14) (v := .long ac) (C := RX12) (T := TX12) (N := 21) hx hb hg inG12 hown hK hP 0 rfl rfl 13 (by decide) (hg _ wF_X12_143) (fun _ h9 => h9) rfl dX12_divides_31 ?_
    refine lv_lstore_n (lv' := [(3, .long ac), (0, .ref (g 8)), (1, .int 24), (2, .int b0)]) hx hb dX12_divides_34 rfl hl (by decide) rfl (fun ls hl => ?_)
    refine lv_iload_n hx hb dX12_divides_35 rfl (lv_at hl 3 rfl) ?_
    refine lv_iconst (v := (-1)) hx hb dX12_divides_36 (by decide) ?_
    refine lv_icmp_ne (tgt := 45) hx hb dX12_divides_37 (by decide) (fun c_7 => ?_) (fun c_7 => ?_)
    · show _
      refine lv_lload_n hx hb dX12_divides_45 rfl (lv_at hl 0 rfl) ?_
      refine lv_iload_n hx hb dX12_divides_46 rfl (lv_at hl 3 rfl) ?_
      refine lv_i2l (v := (b0.toInt64)) hx hb dX12_divides_47 rfl ?_
      refine lv_ldiv hx hb dX12_divides_48 (by first | assumption | exact i64_ne (by assumption) | decide) ?_
      refine lv_lstore (lv' := [(5, .long (ac / (b0.toInt64))), (3, .long ac), (0, .ref (g 8)), (1, .int 24), (2, .int b0)]) hx hb dX12_divides_49 hl (by decide) rfl (fun ls hl => ?_)
      refine lv_iload_n hx hb dX12_divides_51 rfl (lv_at hl 3 rfl) ?_
      refine lv_iconst (v := 1) hx hb dX12_divides_52 (by decide) ?_
      refine lv_iand hx hb dX12_divides_53 ?_
      refine lv_topi (fun y_8 ey_8 => ?_)
      obtain rfl : y_8 = 0 := ey_8.trans (by decide)
      refine lv_iconst (v := 1) hx hb dX12_divides_54 (by decide) ?_
      refine lv_icmp_ne (tgt := 66) hx hb dX12_divides_55 (by decide) (fun _ => ?_) (fun c9 => absurd c9 (by decide)) 
      refine lv_iload_n hx hb dX12_divides_66 rfl (lv_at hl 3 rfl) ?_
      refine lv_bipush (v := 22) hx hb dX12_divides_67 (by decide) ?_
      refine lv_icmp_ne (tgt := 79) hx hb dX12_divides_69 (by decide) (fun _ => ?_) (fun c9 => absurd c9 (by decide)) 
      refine lv_lload hx hb dX12_divides_79 (lv_at hl 0 rfl) ?_
      refine cr_l (wo := fun u : rY × (Nat → Int32) × (Nat → Int32) × (Nat → Int32) × Int32 × Int32 => rW g ty u.1 u.2.1 u.2.2.1 ks I u.2.2.2.1 ac u.2.2.2.2.1 u.2.2.2.2.2) ((Y, pa, kp, tl, wr, tw)) hx hb hr hlk hS hP hD ?_ dX12_divides_81
      exact ⟨(ac / (b0.toInt64)), Y, pa, kp, tl, wr, tw, rfl, rfl, (by subst pre6; exact ra_ok rel hcnt htl (rfl))⟩
    · show _
      refine lv_lload_n hx hb dX12_divides_40 rfl (lv_at hl 0 rfl) ?_
      refine lv_lneg hx hb dX12_divides_41 ?_
      refine lv_goto (tgt := 49) hx hb dX12_divides_42 (by decide) ?_
      refine lv_lstore (lv' := [(5, .long (-ac)), (3, .long ac), (0, .ref (g 8)), (1, .int 24), (2, .int b0)]) hx hb dX12_divides_49 hl (by decide) rfl (fun ls hl => ?_)
      refine lv_iload_n hx hb dX12_divides_51 rfl (lv_at hl 3 rfl) ?_
      refine lv_iconst (v := 1) hx hb dX12_divides_52 (by decide) ?_
      refine lv_iand hx hb dX12_divides_53 ?_
      refine lv_topi (fun y_9 ey_9 => ?_)
      obtain rfl : y_9 = 0 := ey_9.trans (by decide)
      refine lv_iconst (v := 1) hx hb dX12_divides_54 (by decide) ?_
      refine lv_icmp_ne (tgt := 66) hx hb dX12_divides_55 (by decide) (fun _ => ?_) (fun c9 => absurd c9 (by decide)) 
      refine lv_iload_n hx hb dX12_divides_66 rfl (lv_at hl 3 rfl) ?_
      refine lv_bipush (v := 22) hx hb dX12_divides_67 (by decide) ?_
      refine lv_icmp_ne (tgt := 79) hx hb dX12_divides_69 (by decide) (fun _ => ?_) (fun c9 => absurd c9 (by decide)) 
      refine lv_lload hx hb dX12_divides_79 (lv_at hl 0 rfl) ?_
      refine cr_l (wo := fun u : rY × (Nat → Int32) × (Nat → Int32) × (Nat → Int32) × Int32 × Int32 => rW g ty u.1 u.2.1 u.2.2.1 ks I u.2.2.2.1 ac u.2.2.2.2.1 u.2.2.2.2.2) ((Y, pa, kp, tl, wr, tw)) hx hb hr hlk hS hP hD ?_ dX12_divides_81
      exact ⟨(-ac), Y, pa, kp, tl, wr, tw, rfl, rfl, (by subst pre6; exact ra_ok rel hcnt htl (dv_L c_7))⟩
set_option maxHeartbeats 800000 in
set_option maxRecDepth 100000 in
theorem c_X12_divides_25 (l : Launch) (dC : Nat → ClassId) (dI : Nat → Nat → Nat) (g : Nat → Nat) (ty : Nat → ClassId) (sz : Nat) (Y : rY) (pa : Nat → Int32) (kp : Nat → Int32) (ks : Int32) (I : rI) (tl : Nat → Int32) (ac : Int64) (wr : Int32) (tw : Int32) (ρ : Nat → Nat) (pl : Nat → Option Nat) (P : cQ) (md : Int32) (Z : cZ) (rz9 : Int64) (u9 : Int32) (b0 : Int32) (pre0 : rR Y.2.2.2.2.2.2.2.2.2.1 Y pa ρ pl P) (pre1 : cWF pl P) (pre2 : ks = 0) (pre3 : rCnt Y md) (pre4 : tl 5 = md) (pre5 : 0 ≤ md ∧ md ≤ 6000) (pre6 : tw = 0) (pre7 : q_X11_o25 b0 pl ac (-1) md Z P rz9 u9) : Met l yX12_divides (Cond.code yX12_divides cX12_divides 7 (some .long) :: gT) ({ frames := 1, cells := 0, slots := 0, locals := 21 }) (cP (dC, dI) (rTy ty) (rW g ty Y pa kp ks I tl ac wr tw) sz [.ref (g 8), .int 25, .int b0]) (va_Ql (fun (rz : Int64) (u : rY × (Nat → Int32) × (Nat → Int32) × (Nat → Int32) × Int32 × Int32) => ∃ (r' : Int64) (Y' : rY) (pa' kp' tl' : Nat → Int32) (wr' tw' : Int32), r' = rz ∧ (Y', pa', kp', tl', wr', tw') = u ∧ rAns u9 rz9 pl P md tl Y r' Y' pa' tl' wr' tw') (cB (dC, dI) (fun u : rY × (Nat → Int32) × (Nat → Int32) × (Nat → Int32) × Int32 × Int32 => rW g ty u.1 u.2.1 u.2.2.1 ks I u.2.2.2.1 ac u.2.2.2.2.1 u.2.2.2.2.2) (va_A (rW g ty Y pa kp ks I tl ac wr tw) sz)) (va_A (rW g ty Y pa kp ks I tl ac wr tw) sz)) 0 0 (va_A (rW g ty Y pa kp ks I tl ac wr tw) sz) := by
  refine cc_of (Qa := fun A => va_Ql (fun (rz : Int64) (u : rY × (Nat → Int32) × (Nat → Int32) × (Nat → Int32) × Int32 × Int32) => ∃ (r' : Int64) (Y' : rY) (pa' kp' tl' : Nat → Int32) (wr' tw' : Int32), r' = rz ∧ (Y', pa', kp', tl', wr', tw') = u ∧ rAns u9 rz9 pl P md tl Y r' Y' pa' tl' wr' tw') (cB (dC, dI) (fun u : rY × (Nat → Int32) × (Nat → Int32) × (Nat → Int32) × Int32 × Int32 => rW g ty u.1 u.2.1 u.2.2.1 ks I u.2.2.2.1 ac u.2.2.2.2.1 u.2.2.2.2.2) A) A) (by decide) (Nat.le_of_ble_eq_true rfl) ?_
  intro p e s m below meth c A hx hb hr hml hown hg hlk hmn hP hK hD hT hS hA hsz ls hl
  have hown : s.vm.findClass RX12 = some m.cls := hown
  have rel := pre0
  have wf := pre1
  have hcnt := pre3
  have htl := pre4
  rcases pre7 with ⟨rfl, rfl, g2⟩ | ⟨rfl, rfl, g2⟩
  · show _
    have hl : lv_has ls 7 [(0, .ref (g 8)), (1, .int 25), (2, .int b0)] := hl
    refine lv_iload_n hx hb dX12_divides_0 rfl (lv_at hl 2 rfl) ?_
    refine lv_if_ne (tgt := 15) hx hb dX12_divides_1 (by decide) (fun c9 => absurd g2 c9) (fun _ => ?_)
    refine lv_aload_n hx hb dX12_divides_4 rfl (lv_at hl 0 rfl) ?_
    refine lv_iconst (v := 0) hx hb dX12_divides_5 (by decide) ?_
    refine cV_i (C := RX12) (n := 1) (rest := []) hx hb hml hown hg hT (c_X12_fails l dC dI g ty s.heap.size Y pa kp ks I tl ac wr tw 0 ) (cv_of hg wM_X12_79 wN_X12_fails wL_X12_X12_fails wK_X12_fails wI_X12 (by decide +kernel) ⟨Nat.le_of_ble_eq_true rfl, Nat.le_of_ble_eq_true rfl⟩) hK hP hD hS hA (va_recv hK hP (ci := 14) (q0 := 0) rfl rfl) rfl hl.1 rfl (Nat.le_of_ble_eq_true rfl) dX12_divides_6 ⟨Nat.le_of_ble_eq_true rfl, Nat.le_of_ble_eq_true rfl⟩ (fun r_2 u_3 H locs q_1 hP hD hS => ?_)
    obtain ⟨rfl, rfl⟩ := q_1
    have hP : va_P (dC, dI) vwCl (rW g ty Y pa kp ks I tl ac 0 tw) H := hP
    have hD : va_D A (rW g ty Y pa kp ks I tl ac 0 tw) := hD
    refine lv_pop hx hb dX12_divides_9 rfl ?_
    refine lv_aload_n hx hb dX12_divides_10 rfl (lv_at hl 0 rfl) ?_
    refine cV_l (C := RX12) (n := 0) (rest := []) hx hb hml hown hg hT (c_X12_no l dC dI g ty H.size Y pa kp ks I tl ac 0 tw  ) (cv_of hg wM_X12_107 wN_X12_no wL_X12_X12_no wK_X12_no wI_X12 (by decide +kernel) ⟨Nat.le_of_ble_eq_true rfl, Nat.le_of_ble_eq_true rfl⟩) hK hP hD hS hA (va_recv hK hP (ci := 14) (q0 := 0) rfl rfl) rfl hl.1 rfl (Nat.le_of_ble_eq_true rfl) dX12_divides_11 ⟨Nat.le_of_ble_eq_true rfl, Nat.le_of_ble_eq_true rfl⟩ (fun r_5 u_6 H locs q_4 hP hD hS => ?_)
    obtain ⟨rfl, rfl⟩ := q_4
    have hP : va_P (dC, dI) vwCl (rW g ty Y pa kp ks I tl ac 0 1) H := hP
    have hD : va_D A (rW g ty Y pa kp ks I tl ac 0 1) := hD
    refine cr_l (wo := fun u : rY × (Nat → Int32) × (Nat → Int32) × (Nat → Int32) × Int32 × Int32 => rW g ty u.1 u.2.1 u.2.2.1 ks I u.2.2.2.1 ac u.2.2.2.2.1 u.2.2.2.2.2) ((Y, pa, kp, tl, 0, 1)) hx hb hr hlk hS hP hD ?_ dX12_divides_14
    exact ⟨0, Y, pa, kp, tl, 0, 1, rfl, rfl, (by exact ra_f (f := 0) rel hcnt htl (by decide))⟩
  · show _
    have hl : lv_has ls 7 [(0, .ref (g 8)), (1, .int 25), (2, .int b0)] := hl
    refine lv_iload_n hx hb dX12_divides_0 rfl (lv_at hl 2 rfl) ?_
    refine lv_if_ne (tgt := 15) hx hb dX12_divides_1 (by decide) (fun _ => ?_) (fun c9 => absurd c9 g2)
    refine lv_iload_n hx hb dX12_divides_15 rfl (lv_at hl 1 rfl) ?_
    refine lv_bipush (v := 23) hx hb dX12_divides_16 (by decide) ?_
    refine lv_icmp_gt (tgt := 30) hx hb dX12_divides_18 (by decide) (fun _ => ?_) (fun c9 => absurd (by decide) c9) 
    refine lv_aload_n hx hb dX12_divides_30 rfl (lv_at hl 0 rfl) ?_
    refine va_get (D := (dC, dI)) (ci := 14) (v := .long ac) (C := RX12) (T := TX12) (N := 21) hx hb hg inG12 hown hK hP 0 rfl rfl 13 (by decide) (hg _ wF_X12_143) (fun _ h9 => h9) rfl dX12_divides_31 ?_
    refine lv_lstore_n (lv' := [(3, .long ac), (0, .ref (g 8)), (1, .int 25), (2, .int b0)]) hx hb dX12_divides_34 rfl hl (by decide) rfl (fun ls hl => ?_)
    refine lv_iload_n hx hb dX12_divides_35 rfl (lv_at hl 3 rfl) ?_
    refine lv_iconst (v := (-1)) hx hb dX12_divides_36 (by decide) ?_
    refine lv_icmp_ne (tgt := 45) hx hb dX12_divides_37 (by decide) (fun c_7 => ?_) (fun c_7 => ?_)
    · show _
      refine lv_lload_n hx hb dX12_divides_45 rfl (lv_at hl 0 rfl) ?_
      refine lv_iload_n hx hb dX12_divides_46 rfl (lv_at hl 3 rfl) ?_
      refine lv_i2l (v := (b0.toInt64)) hx hb dX12_divides_47 rfl ?_
      refine lv_ldiv hx hb dX12_divides_48 (by first | assumption | exact i64_ne (by assumption) | decide) ?_
      refine lv_lstore (lv' := [(5, .long (ac / (b0.toInt64))), (3, .long ac), (0, .ref (g 8)), (1, .int 25), (2, .int b0)]) hx hb dX12_divides_49 hl (by decide) rfl (fun ls hl => ?_)
      refine lv_iload_n hx hb dX12_divides_51 rfl (lv_at hl 3 rfl) ?_
      refine lv_iconst (v := 1) hx hb dX12_divides_52 (by decide) ?_
      refine lv_iand hx hb dX12_divides_53 ?_
      refine lv_topi (fun y_8 ey_8 => ?_)
      obtain rfl : y_8 = 1 := ey_8.trans (by decide)
      refine lv_iconst (v := 1) hx hb dX12_divides_54 (by decide) ?_
      refine lv_icmp_ne (tgt := 66) hx hb dX12_divides_55 (by decide) (fun c9 => absurd (by decide) c9) (fun _ => ?_)
      refine lv_lload_n hx hb dX12_divides_58 rfl (lv_at hl 1 rfl) ?_
      refine lv_lload hx hb dX12_divides_59 (lv_at hl 0 rfl) ?_
      refine lv_iload_n hx hb dX12_divides_61 rfl (lv_at hl 4 rfl) ?_
      refine lv_i2l (v := (b0.toInt64)) hx hb dX12_divides_62 rfl ?_
      refine lv_lmul hx hb dX12_divides_63 ?_
      refine lv_lsub hx hb dX12_divides_64 ?_
      refine cr_l (wo := fun u : rY × (Nat → Int32) × (Nat → Int32) × (Nat → Int32) × Int32 × Int32 => rW g ty u.1 u.2.1 u.2.2.1 ks I u.2.2.2.1 ac u.2.2.2.2.1 u.2.2.2.2.2) ((Y, pa, kp, tl, wr, tw)) hx hb hr hlk hS hP hD ?_ dX12_divides_65
      exact ⟨(ac - ((ac / (b0.toInt64)) * (b0.toInt64))), Y, pa, kp, tl, wr, tw, rfl, rfl, (by subst pre6; exact ra_ok rel hcnt htl (rfl))⟩
    · show _
      refine lv_lload_n hx hb dX12_divides_40 rfl (lv_at hl 0 rfl) ?_
      refine lv_lneg hx hb dX12_divides_41 ?_
      refine lv_goto (tgt := 49) hx hb dX12_divides_42 (by decide) ?_
      refine lv_lstore (lv' := [(5, .long (-ac)), (3, .long ac), (0, .ref (g 8)), (1, .int 25), (2, .int b0)]) hx hb dX12_divides_49 hl (by decide) rfl (fun ls hl => ?_)
      refine lv_iload_n hx hb dX12_divides_51 rfl (lv_at hl 3 rfl) ?_
      refine lv_iconst (v := 1) hx hb dX12_divides_52 (by decide) ?_
      refine lv_iand hx hb dX12_divides_53 ?_
      refine lv_topi (fun y_9 ey_9 => ?_)
      obtain rfl : y_9 = 1 := ey_9.trans (by decide)
      refine lv_iconst (v := 1) hx hb dX12_divides_54 (by decide) ?_
      refine lv_icmp_ne (tgt := 66) hx hb dX12_divides_55 (by decide) (fun c9 => absurd (by decide) c9) (fun _ => ?_)
      refine lv_lload_n hx hb dX12_divides_58 rfl (lv_at hl 1 rfl) ?_
      refine lv_lload hx hb dX12_divides_59 (lv_at hl 0 rfl) ?_
      refine lv_iload_n hx hb dX12_divides_61 rfl (lv_at hl 4 rfl) ?_
      refine lv_i2l (v := (b0.toInt64)) hx hb dX12_divides_62 rfl ?_
      refine lv_lmul hx hb dX12_divides_63 ?_
      refine lv_lsub hx hb dX12_divides_64 ?_
      refine cr_l (wo := fun u : rY × (Nat → Int32) × (Nat → Int32) × (Nat → Int32) × Int32 × Int32 => rW g ty u.1 u.2.1 u.2.2.1 ks I u.2.2.2.1 ac u.2.2.2.2.1 u.2.2.2.2.2) ((Y, pa, kp, tl, wr, tw)) hx hb hr hlk hS hP hD ?_ dX12_divides_65
      exact ⟨(ac - ((-ac) * (b0.toInt64))), Y, pa, kp, tl, wr, tw, rfl, rfl, (by subst pre6; exact ra_ok rel hcnt htl (dv_rL c_7))⟩

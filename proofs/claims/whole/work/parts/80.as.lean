theorem chr_eq (v : Int64) : v &&& 65535 = (v.toInt32.toUInt32 % 65536).toInt32.toInt64 := by
  apply Int64.toInt_inj.mp
  have hm : v.toBitVec.toNat % 65536 < 65536 := Nat.mod_lt _ (by decide)
  have hN : (v &&& 65535).toBitVec.toNat = v.toBitVec.toNat % 65536 := by
    show (v.toBitVec &&& (65535 : Int64).toBitVec).toNat = _
    rw [BitVec.toNat_and]
    exact Nat.and_two_pow_sub_one_eq_mod _ 16
  have hL : (v &&& 65535).toInt = ((v.toBitVec.toNat % 65536 : Nat) : Int) := by
    show (v &&& 65535).toBitVec.toInt = _
    rw [BitVec.toInt_eq_toNat_of_lt (by rw [hN]; omega), hN]
  have hU : (v.toInt32.toUInt32 % 65536).toNat = v.toBitVec.toNat % 65536 := by
    rw [UInt32.toNat_mod]
    have e : v.toInt32.toUInt32.toNat = v.toBitVec.toNat % 2 ^ 32 := by
      show (v.toBitVec.signExtend 32).toNat = _
      rw [BitVec.toNat_signExtend]
      simp
    rw [e]
    show v.toBitVec.toNat % 2 ^ 32 % 65536 = _
    omega
  rw [hL, Int32.toInt_toInt64]
  show _ = (v.toInt32.toUInt32 % 65536).toBitVec.toInt
  rw [BitVec.toInt_eq_toNat_of_lt]
  · show _ = ((v.toInt32.toUInt32 % 65536).toNat : Int)
    rw [hU]
  · show 2 * (v.toInt32.toUInt32 % 65536).toNat < 2 ^ 32
    rw [hU]; omega
/-- what the rounding in longs must be: held against the machine's own floats and doubles -/
def rNr : Prop := (∀ (v r : Int64), rNe v 24 r → r = FP.f2l (FP.l2f v)) ∧ (∀ (v r : Int64), rNe v 53 r → r = FP.d2l (FP.l2d v))
theorem aC_1 (v : Int64) : aCell 1 v = v := by unfold aCell; rw [if_neg (by decide), if_pos rfl]
theorem aC_2 (v : Int64) : aCell 2 v = v.toInt32.toInt16.toInt32.toInt64 := by unfold aCell; rw [if_neg (by decide), if_neg (by decide), if_pos rfl]
theorem aC_3 (v : Int64) : aCell 3 v = v.toInt32.toInt8.toInt32.toInt64 := by unfold aCell; rw [if_neg (by decide), if_neg (by decide), if_neg (by decide), if_pos rfl]
theorem aC_4 (v : Int64) : aCell 4 v = v &&& 65535 := by unfold aCell; rw [if_neg (by decide), if_neg (by decide), if_neg (by decide), if_neg (by decide), if_pos rfl, chr_eq]
theorem aC_5 (v : Int64) : aCell 5 v = if lg_cmp v 0 = 0 then 0 else 1 := by unfold aCell; rw [if_neg (by decide), if_neg (by decide), if_neg (by decide), if_neg (by decide), if_neg (by decide), if_pos rfl]
theorem aC_6 (v : Int64) : aCell 6 v = FP.f2l (FP.l2f v) := by unfold aCell; rw [if_neg (by decide), if_neg (by decide), if_neg (by decide), if_neg (by decide), if_neg (by decide), if_neg (by decide), if_pos rfl]
theorem aC_7 (v : Int64) : aCell 7 v = FP.d2l (FP.l2d v) := by unfold aCell; rw [if_neg (by decide), if_neg (by decide), if_neg (by decide), if_neg (by decide), if_neg (by decide), if_neg (by decide), if_neg (by decide)]
theorem k8_no {k : Int32} (h : vp_in k 8) (h0 : ¬ k = 0) (h1 : ¬ k = 1) (h2 : ¬ k = 2) (h3 : ¬ k = 3) (h4 : ¬ k = 4) (h5 : ¬ k = 5) (h6 : ¬ k = 6) (h7 : ¬ k = 7) : False := by
  obtain ⟨e, hl⟩ := i32_nI h
  generalize k.toNatClampNeg = m at e hl
  subst e
  rcases (show m = 0 ∨ m = 1 ∨ m = 2 ∨ m = 3 ∨ m = 4 ∨ m = 5 ∨ m = 6 ∨ m = 7 by omega) with rfl | rfl | rfl | rfl | rfl | rfl | rfl | rfl
  · exact h0 rfl
  · exact h1 rfl
  · exact h2 rfl
  · exact h3 rfl
  · exact h4 rfl
  · exact h5 rfl
  · exact h6 rfl
  · exact h7 rfl
set_option maxHeartbeats 800000 in
set_option maxRecDepth 100000 in
theorem c_X12_as (l : Launch) (dC : Nat → ClassId) (dI : Nat → Nat → Nat) (g : Nat → Nat) (ty : Nat → ClassId) (sz : Nat) (Y : rY) (pa : Nat → Int32) (kp : Nat → Int32) (ks : Int32) (I : rI) (tl : Nat → Int32) (ac : Int64) (wr : Int32) (tw : Int32) (k0 : Int32) (v0 : Int64) (pre0 : rNr) (pre1 : vp_in k0 8) : Met l yX12_as (Cond.code yX12_as cX12_as 3 (some .long) :: gT) ({ frames := 1, cells := 0, slots := 0, locals := 31 }) (cP (dC, dI) (rTy ty) (rW g ty Y pa kp ks I tl ac wr tw) sz [.int k0, .long v0]) (va_Ql (fun (rz : Int64) (u : Unit) => (aCell k0 v0) = rz) (cB (dC, dI) (fun u : Unit => rW g ty Y pa kp ks I tl ac wr tw) (va_A (rW g ty Y pa kp ks I tl ac wr tw) sz)) (va_A (rW g ty Y pa kp ks I tl ac wr tw) sz)) 0 0 (va_A (rW g ty Y pa kp ks I tl ac wr tw) sz) := by
  refine cc_of (Qa := fun A => va_Ql (fun (rz : Int64) (u : Unit) => (aCell k0 v0) = rz) (cB (dC, dI) (fun u : Unit => rW g ty Y pa kp ks I tl ac wr tw) A) A) (by decide) (Nat.le_of_ble_eq_true rfl) ?_
  intro p e s m below meth c A hx hb hr hml hown hg hlk hmn hP hK hD hT hS hA hsz ls hl
  have hown : s.vm.findClass RX12 = some m.cls := hown
  have hl : lv_has ls 3 [(0, .int k0), (1, .long v0)] := hl
  refine lv_iload_n hx hb dX12_as_0 rfl (lv_at hl 0 rfl) ?_
  by_cases e_1 : k0 = 0
  · show _
    refine lv_tableIn (off := 47) (tgt := 48) hx hb dX12_as_1 (by rw [e_1]; decide) (by rw [e_1]; decide) (by rw [e_1]; decide) (by decide) ?_
    refine lv_lload_n hx hb dX12_as_48 rfl (lv_at hl 1 rfl) ?_
    refine lv_l2i (v := (v0.toInt32)) hx hb dX12_as_49 rfl ?_
    refine lv_i2l (v := ((v0.toInt32).toInt64)) hx hb dX12_as_50 rfl ?_
    refine cr_l (wo := fun u : Unit => rW g ty Y pa kp ks I tl ac wr tw) (()) hx hb hr hlk hS hP hD ?_ dX12_as_51
    exact (by rw [e_1, aCell_0])
  · show _
    by_cases e_2 : k0 = 1
    · show _
      refine lv_tableIn (off := 93) (tgt := 94) hx hb dX12_as_1 (by rw [e_2]; decide) (by rw [e_2]; decide) (by rw [e_2]; decide) (by decide) ?_
      refine lv_lload_n hx hb dX12_as_94 rfl (lv_at hl 1 rfl) ?_
      refine cr_l (wo := fun u : Unit => rW g ty Y pa kp ks I tl ac wr tw) (()) hx hb hr hlk hS hP hD ?_ dX12_as_95
      exact (by rw [e_2, aC_1])
    · show _
      by_cases e_3 : k0 = 2
      · show _
        refine lv_tableIn (off := 51) (tgt := 52) hx hb dX12_as_1 (by rw [e_3]; decide) (by rw [e_3]; decide) (by rw [e_3]; decide) (by decide) ?_
        refine lv_lload_n hx hb dX12_as_52 rfl (lv_at hl 1 rfl) ?_
        refine lv_l2i (v := (v0.toInt32)) hx hb dX12_as_53 rfl ?_
        refine lv_i2s (v := ((v0.toInt32).toInt16.toInt32)) hx hb dX12_as_54 rfl ?_
        refine lv_i2l (v := (((v0.toInt32).toInt16.toInt32).toInt64)) hx hb dX12_as_55 rfl ?_
        refine cr_l (wo := fun u : Unit => rW g ty Y pa kp ks I tl ac wr tw) (()) hx hb hr hlk hS hP hD ?_ dX12_as_56
        exact (by rw [e_3, aC_2])
      · show _
        by_cases e_4 : k0 = 3
        · show _
          refine lv_tableIn (off := 56) (tgt := 57) hx hb dX12_as_1 (by rw [e_4]; decide) (by rw [e_4]; decide) (by rw [e_4]; decide) (by decide) ?_
          refine lv_lload_n hx hb dX12_as_57 rfl (lv_at hl 1 rfl) ?_
          refine lv_l2i (v := (v0.toInt32)) hx hb dX12_as_58 rfl ?_
          refine lv_i2b (v := ((v0.toInt32).toInt8.toInt32)) hx hb dX12_as_59 rfl ?_
          refine lv_i2l (v := (((v0.toInt32).toInt8.toInt32).toInt64)) hx hb dX12_as_60 rfl ?_
          refine cr_l (wo := fun u : Unit => rW g ty Y pa kp ks I tl ac wr tw) (()) hx hb hr hlk hS hP hD ?_ dX12_as_61
          exact (by rw [e_4, aC_3])
        · show _
          by_cases e_5 : k0 = 4
          · show _
            refine lv_tableIn (off := 61) (tgt := 62) hx hb dX12_as_1 (by rw [e_5]; decide) (by rw [e_5]; decide) (by rw [e_5]; decide) (by decide) ?_
            refine lv_lload_n hx hb dX12_as_62 rfl (lv_at hl 1 rfl) ?_
            refine lv_ldc2 (v := (65535)) hx hb hown (hg _ wQ_X12_95) dX12_as_63 ?_
            refine lv_land hx hb dX12_as_66 ?_
            refine cr_l (wo := fun u : Unit => rW g ty Y pa kp ks I tl ac wr tw) (()) hx hb hr hlk hS hP hD ?_ dX12_as_67
            exact (by rw [e_5, aC_4])
          · show _
            by_cases e_6 : k0 = 5
            · show _
              refine lv_tableIn (off := 67) (tgt := 68) hx hb dX12_as_1 (by rw [e_6]; decide) (by rw [e_6]; decide) (by rw [e_6]; decide) (by decide) ?_
              refine lv_lload_n hx hb dX12_as_68 rfl (lv_at hl 1 rfl) ?_
              refine lv_lconst (v := 0) hx hb dX12_as_69 (by decide) ?_
              refine W.lcmp hx hb dX12_as_70 ?_
              refine lv_if_eq (tgt := 78) hx hb dX12_as_71 (by decide) (fun c_7 => ?_) (fun c_7 => ?_)
              · show _
                refine lv_lconst (v := 0) hx hb dX12_as_78 (by decide) ?_
                refine cr_l (wo := fun u : Unit => rW g ty Y pa kp ks I tl ac wr tw) (()) hx hb hr hlk hS hP hD ?_ dX12_as_79
                exact (by rw [e_6, aC_5, if_pos c_7])
              · show _
                refine lv_lconst (v := 1) hx hb dX12_as_74 (by decide) ?_
                refine lv_goto (tgt := 79) hx hb dX12_as_75 (by decide) ?_
                refine cr_l (wo := fun u : Unit => rW g ty Y pa kp ks I tl ac wr tw) (()) hx hb hr hlk hS hP hD ?_ dX12_as_79
                exact (by rw [e_6, aC_5, if_neg c_7])
            · show _
              by_cases e_8 : k0 = 6
              · show _
                refine lv_tableIn (off := 79) (tgt := 80) hx hb dX12_as_1 (by rw [e_8]; decide) (by rw [e_8]; decide) (by rw [e_8]; decide) (by decide) ?_
                refine lv_lload_n hx hb dX12_as_80 rfl (lv_at hl 1 rfl) ?_
                refine lv_bipush (v := 24) hx hb dX12_as_81 (by decide) ?_
                refine cS_l (n := 2) (rest := []) hx hb hml hown hg hT (c_X12_nearest l dC dI g ty s.heap.size Y pa kp ks I tl ac wr tw v0 24 (by decide)) (cb_of hg wM_X12_97 wK_X12_nearest wI_X12 (by decide +kernel) ⟨Nat.le_of_ble_eq_true rfl, Nat.le_of_ble_eq_true rfl⟩) wS_X12_nearest hK hP hD hS hA rfl hl.1 rfl (Nat.le_of_ble_eq_true rfl) dX12_as_83 ⟨Nat.le_of_ble_eq_true rfl, Nat.le_of_ble_eq_true rfl⟩ (fun r_10 u_11 H locs q_9 hP hD hS => ?_)
                obtain ⟨r'_12, rfl, f_13⟩ := q_9
                have hP : va_P (dC, dI) vwCl (rW g ty Y pa kp ks I tl ac wr tw) H := hP
                have hD : va_D A (rW g ty Y pa kp ks I tl ac wr tw) := hD
                refine cr_l (wo := fun u : Unit => rW g ty Y pa kp ks I tl ac wr tw) (()) hx hb hr hlk hS hP hD ?_ dX12_as_86
                exact (by rw [e_8, aC_6]; exact (pre0.1 _ _ f_13).symm)
              · show _
                by_cases e_14 : k0 = 7
                · show _
                  refine lv_tableIn (off := 86) (tgt := 87) hx hb dX12_as_1 (by rw [e_14]; decide) (by rw [e_14]; decide) (by rw [e_14]; decide) (by decide) ?_
                  refine lv_lload_n hx hb dX12_as_87 rfl (lv_at hl 1 rfl) ?_
                  refine lv_bipush (v := 53) hx hb dX12_as_88 (by decide) ?_
                  refine cS_l (n := 2) (rest := []) hx hb hml hown hg hT (c_X12_nearest l dC dI g ty s.heap.size Y pa kp ks I tl ac wr tw v0 53 (by decide)) (cb_of hg wM_X12_97 wK_X12_nearest wI_X12 (by decide +kernel) ⟨Nat.le_of_ble_eq_true rfl, Nat.le_of_ble_eq_true rfl⟩) wS_X12_nearest hK hP hD hS hA rfl hl.1 rfl (Nat.le_of_ble_eq_true rfl) dX12_as_90 ⟨Nat.le_of_ble_eq_true rfl, Nat.le_of_ble_eq_true rfl⟩ (fun r_16 u_17 H locs q_15 hP hD hS => ?_)
                  obtain ⟨r'_18, rfl, f_19⟩ := q_15
                  have hP : va_P (dC, dI) vwCl (rW g ty Y pa kp ks I tl ac wr tw) H := hP
                  have hD : va_D A (rW g ty Y pa kp ks I tl ac wr tw) := hD
                  refine cr_l (wo := fun u : Unit => rW g ty Y pa kp ks I tl ac wr tw) (()) hx hb hr hlk hS hP hD ?_ dX12_as_93
                  exact (by rw [e_14, aC_7]; exact (pre0.2 _ _ f_19).symm)
                · show _
                  refine lv_tableOut (tgt := 94) hx hb dX12_as_1 (by have q0 := lv_neT e_1 (a := 0) rfl; have q1 := lv_neT e_2 (a := 1) rfl; have q2 := lv_neT e_3 (a := 2) rfl; have q3 := lv_neT e_4 (a := 3) rfl; have q4 := lv_neT e_5 (a := 4) rfl; have q5 := lv_neT e_6 (a := 5) rfl; have q6 := lv_neT e_8 (a := 6) rfl; have q7 := lv_neT e_14 (a := 7) rfl; omega) (by decide) ?_
                  refine lv_lload_n hx hb dX12_as_94 rfl (lv_at hl 1 rfl) ?_
                  refine cr_l (wo := fun u : Unit => rW g ty Y pa kp ks I tl ac wr tw) (()) hx hb hr hlk hS hP hD ?_ dX12_as_95
                  exact (by exact (k8_no pre1 e_1 e_2 e_3 e_4 e_5 e_6 e_8 e_14).elim)
set_option maxHeartbeats 800000 in
set_option maxRecDepth 100000 in
theorem c_X12_rows_2 (l : Launch) (dC : Nat → ClassId) (dI : Nat → Nat → Nat) (g : Nat → Nat) (ty : Nat → ClassId) (sz : Nat) (Y : rY) (pa : Nat → Int32) (kp : Nat → Int32) (ks : Int32) (I : rI) (tl : Nat → Int32) (ac : Int64) (wr : Int32) (tw : Int32) (ρ : Nat → Nat) (pl : Nat → Option Nat) (P : cQ) (md : Int32) (Z : cZ) (rz9 : Int64) (u9 : Int32 × cQ) (a0 : Int32) (b0 : Int32) (c0 : Int32) (pre0 : rR Y.2.2.2.2.2.2.2.2.2.1 Y pa ρ pl P) (pre1 : cWF pl P) (pre2 : ks = 0) (pre3 : rCnt Y md) (pre4 : tl 5 = md) (pre5 : 0 ≤ md ∧ md ≤ 6000) (pre6 : tw = 0) (pre7 : q_X11_setRowCell a0 b0 c0 pl ac (-1) md Z P rz9 u9) (pre8 : rNr) : Met l yX12_rows (Cond.code yX12_rows cX12_rows 8 (some .long) :: gT) ({ frames := 3, cells := 0, slots := 0, locals := 82 }) (cP (dC, dI) (rTy ty) (rW g ty Y pa kp ks I tl ac wr tw) sz [.ref (g 8), .int 2, .int a0, .int b0, .int c0]) (va_Ql (fun (rz : Int64) (u : rY × (Nat → Int32) × (Nat → Int32) × (Nat → Int32) × Int32 × Int32) => ∃ (r' : Int64) (Y' : rY) (pa' kp' tl' : Nat → Int32) (wr' tw' : Int32), r' = rz ∧ (Y', pa', kp', tl', wr', tw') = u ∧ rAns u9.1 rz9 pl u9.2 md tl Y r' Y' pa' tl' wr' tw') (cB (dC, dI) (fun u : rY × (Nat → Int32) × (Nat → Int32) × (Nat → Int32) × Int32 × Int32 => rW g ty u.1 u.2.1 u.2.2.1 ks I u.2.2.2.1 ac u.2.2.2.2.1 u.2.2.2.2.2) (va_A (rW g ty Y pa kp ks I tl ac wr tw) sz)) (va_A (rW g ty Y pa kp ks I tl ac wr tw) sz)) 0 0 (va_A (rW g ty Y pa kp ks I tl ac wr tw) sz) := by
  refine cc_of (Qa := fun A => va_Ql (fun (rz : Int64) (u : rY × (Nat → Int32) × (Nat → Int32) × (Nat → Int32) × Int32 × Int32) => ∃ (r' : Int64) (Y' : rY) (pa' kp' tl' : Nat → Int32) (wr' tw' : Int32), r' = rz ∧ (Y', pa', kp', tl', wr', tw') = u ∧ rAns u9.1 rz9 pl u9.2 md tl Y r' Y' pa' tl' wr' tw') (cB (dC, dI) (fun u : rY × (Nat → Int32) × (Nat → Int32) × (Nat → Int32) × Int32 × Int32 => rW g ty u.1 u.2.1 u.2.2.1 ks I u.2.2.2.1 ac u.2.2.2.2.1 u.2.2.2.2.2) A) A) (by decide) (Nat.le_of_ble_eq_true rfl) ?_
  intro p e s m below meth c A hx hb hr hml hown hg hlk hmn hP hK hD hT hS hA hsz ls hl
  have hown : s.vm.findClass RX12 = some m.cls := hown
  have rel := pre0
  have wf := pre1
  have hcnt := pre3
  have htl := pre4
  rcases pre7 with ⟨rfl, rfl, g2⟩ | ⟨t, rfl, rfl, g2, g3, g4⟩ | ⟨rfl, rfl, g2, g3⟩ | ⟨t, r, rfl, rfl, g2, g3, g4, g5, g6⟩ | ⟨t, r, rfl, rfl, g2, g3, g4, g5, g6⟩
  · show _
    have hl : lv_has ls 8 [(0, .ref (g 8)), (1, .int 2), (2, .int a0), (3, .int b0), (4, .int c0)] := hl
    refine lv_iload_n hx hb dX12_rows_0 rfl (lv_at hl 3 rfl) ?_
    refine lv_bipush (v := 7) hx hb dX12_rows_1 (by decide) ?_
    refine lv_iand hx hb dX12_rows_3 ?_
    refine lv_istore (lv' := [(5, .int (b0 &&& 7)), (0, .ref (g 8)), (1, .int 2), (2, .int a0), (3, .int b0), (4, .int c0)]) hx hb dX12_rows_4 hl (by decide) rfl (fun ls hl => ?_)
    refine lv_iload_n hx hb dX12_rows_6 rfl (lv_at hl 2 rfl) ?_
    refine lv_tableIn (off := 110) (tgt := 117) hx hb dX12_rows_7 (by decide) (by decide) (by decide) (by decide) ?_
    refine lv_aload_n hx hb dX12_rows_117 rfl (lv_at hl 1 rfl) ?_
    refine lv_iload_n hx hb dX12_rows_118 rfl (lv_at hl 3 rfl) ?_
    refine lv_iload hx hb dX12_rows_119 (lv_at hl 0 rfl) ?_
    refine cV_i (C := RX12) (n := 2) (rest := []) hx hb hml hown hg hT (c_X12_thing l dC dI g ty s.heap.size Y pa kp ks I tl ac wr tw ρ pl P a0 (b0 &&& 7) (by exact rel) (by exact wf) (by exact sb7 _)) (cv_of hg wM_X12_131 wN_X12_thing wL_X12_X12_thing wK_X12_thing wI_X12 (by decide +kernel) ⟨Nat.le_of_ble_eq_true rfl, Nat.le_of_ble_eq_true rfl⟩) hK hP hD hS hA (va_recv hK hP (ci := 14) (q0 := 0) rfl rfl) rfl hl.1 rfl (Nat.le_of_ble_eq_true rfl) dX12_rows_121 ⟨Nat.le_of_ble_eq_true rfl, Nat.le_of_ble_eq_true rfl⟩ (fun r_2 u_3 H locs q_1 hP hD hS => ?_)
    rcases q_1 with ⟨rfl, rfl, f_4⟩ | ⟨t_5, rfl, rfl, f_6, f_7, f_8⟩ | ⟨rfl, rfl, f_9, f_10⟩ | ⟨t_11, rfl, rfl, f_12, f_13, f_14⟩
    · show _
      have hP : va_P (dC, dI) vwCl (rW g ty Y pa kp ks I tl ac 2 tw) H := hP
      have hD : va_D A (rW g ty Y pa kp ks I tl ac 2 tw) := hD
      refine lv_if_eq (tgt := 150) hx hb dX12_rows_124 (by decide) (fun _ => ?_) (fun c9 => absurd (by decide) c9) 
      refine lv_aload_n hx hb dX12_rows_150 rfl (lv_at hl 1 rfl) ?_
      refine cV_l (C := RX12) (n := 0) (rest := []) hx hb hml hown hg hT (c_X12_no l dC dI g ty H.size Y pa kp ks I tl ac 2 tw  ) (cv_of hg wM_X12_107 wN_X12_no wL_X12_X12_no wK_X12_no wI_X12 (by decide +kernel) ⟨Nat.le_of_ble_eq_true rfl, Nat.le_of_ble_eq_true rfl⟩) hK hP hD hS hA (va_recv hK hP (ci := 14) (q0 := 0) rfl rfl) rfl hl.1 rfl (Nat.le_of_ble_eq_true rfl) dX12_rows_151 ⟨Nat.le_of_ble_eq_true rfl, Nat.le_of_ble_eq_true rfl⟩ (fun r_16 u_17 H locs q_15 hP hD hS => ?_)
      obtain ⟨rfl, rfl⟩ := q_15
      have hP : va_P (dC, dI) vwCl (rW g ty Y pa kp ks I tl ac 2 1) H := hP
      have hD : va_D A (rW g ty Y pa kp ks I tl ac 2 1) := hD
      refine cr_l (wo := fun u : rY × (Nat → Int32) × (Nat → Int32) × (Nat → Int32) × Int32 × Int32 => rW g ty u.1 u.2.1 u.2.2.1 ks I u.2.2.2.1 ac u.2.2.2.2.1 u.2.2.2.2.2) ((Y, pa, kp, tl, 2, 1)) hx hb hr hlk hS hP hD ?_ dX12_rows_154
      exact ⟨0, Y, pa, kp, tl, 2, 1, rfl, rfl, (by exact ra_f (f := 2) rel hcnt htl (by decide))⟩
    · show _
      exact absurd f_6 (by assumption)
    · show _
      exact absurd f_9 (by assumption)
    · show _
      exact absurd f_12 (by assumption)
  · show _
    obtain ⟨n1t, n2t, n3t⟩ := rk_some rel g2 g3
    have hnet := (i32_pos n1t).2.1
    have tht := wf.1 _ _ g3
    have hl : lv_has ls 8 [(0, .ref (g 8)), (1, .int 2), (2, .int a0), (3, .int b0), (4, .int c0)] := hl
    refine lv_iload_n hx hb dX12_rows_0 rfl (lv_at hl 3 rfl) ?_
    refine lv_bipush (v := 7) hx hb dX12_rows_1 (by decide) ?_
    refine lv_iand hx hb dX12_rows_3 ?_
    refine lv_istore (lv' := [(5, .int (b0 &&& 7)), (0, .ref (g 8)), (1, .int 2), (2, .int a0), (3, .int b0), (4, .int c0)]) hx hb dX12_rows_4 hl (by decide) rfl (fun ls hl => ?_)
    refine lv_iload_n hx hb dX12_rows_6 rfl (lv_at hl 2 rfl) ?_
    refine lv_tableIn (off := 110) (tgt := 117) hx hb dX12_rows_7 (by decide) (by decide) (by decide) (by decide) ?_
    refine lv_aload_n hx hb dX12_rows_117 rfl (lv_at hl 1 rfl) ?_
    refine lv_iload_n hx hb dX12_rows_118 rfl (lv_at hl 3 rfl) ?_
    refine lv_iload hx hb dX12_rows_119 (lv_at hl 0 rfl) ?_
    refine cV_i (C := RX12) (n := 2) (rest := []) hx hb hml hown hg hT (c_X12_thing l dC dI g ty s.heap.size Y pa kp ks I tl ac wr tw ρ pl P a0 (b0 &&& 7) (by exact rel) (by exact wf) (by exact sb7 _)) (cv_of hg wM_X12_131 wN_X12_thing wL_X12_X12_thing wK_X12_thing wI_X12 (by decide +kernel) ⟨Nat.le_of_ble_eq_true rfl, Nat.le_of_ble_eq_true rfl⟩) hK hP hD hS hA (va_recv hK hP (ci := 14) (q0 := 0) rfl rfl) rfl hl.1 rfl (Nat.le_of_ble_eq_true rfl) dX12_rows_121 ⟨Nat.le_of_ble_eq_true rfl, Nat.le_of_ble_eq_true rfl⟩ (fun r_19 u_20 H locs q_18 hP hD hS => ?_)
    rcases q_18 with ⟨rfl, rfl, f_21⟩ | ⟨t_22, rfl, rfl, f_23, f_24, f_25⟩ | ⟨rfl, rfl, f_26, f_27⟩ | ⟨t_28, rfl, rfl, f_29, f_30, f_31⟩
    · show _
      exact absurd (by assumption) f_21
    · show _
      obtain rfl := Option.some.inj (g3.symm.trans f_24)
      have hP : va_P (dC, dI) vwCl (rW g ty Y pa kp ks I tl ac 3 tw) H := hP
      have hD : va_D A (rW g ty Y pa kp ks I tl ac 3 tw) := hD
      refine lv_if_eq (tgt := 150) hx hb dX12_rows_124 (by decide) (fun _ => ?_) (fun c9 => absurd (by decide) c9) 
      refine lv_aload_n hx hb dX12_rows_150 rfl (lv_at hl 1 rfl) ?_
      refine cV_l (C := RX12) (n := 0) (rest := []) hx hb hml hown hg hT (c_X12_no l dC dI g ty H.size Y pa kp ks I tl ac 3 tw  ) (cv_of hg wM_X12_107 wN_X12_no wL_X12_X12_no wK_X12_no wI_X12 (by decide +kernel) ⟨Nat.le_of_ble_eq_true rfl, Nat.le_of_ble_eq_true rfl⟩) hK hP hD hS hA (va_recv hK hP (ci := 14) (q0 := 0) rfl rfl) rfl hl.1 rfl (Nat.le_of_ble_eq_true rfl) dX12_rows_151 ⟨Nat.le_of_ble_eq_true rfl, Nat.le_of_ble_eq_true rfl⟩ (fun r_33 u_34 H locs q_32 hP hD hS => ?_)
      obtain ⟨rfl, rfl⟩ := q_32
      have hP : va_P (dC, dI) vwCl (rW g ty Y pa kp ks I tl ac 3 1) H := hP
      have hD : va_D A (rW g ty Y pa kp ks I tl ac 3 1) := hD
      refine cr_l (wo := fun u : rY × (Nat → Int32) × (Nat → Int32) × (Nat → Int32) × Int32 × Int32 => rW g ty u.1 u.2.1 u.2.2.1 ks I u.2.2.2.1 ac u.2.2.2.2.1 u.2.2.2.2.2) ((Y, pa, kp, tl, 3, 1)) hx hb hr hlk hS hP hD ?_ dX12_rows_154
      exact ⟨0, Y, pa, kp, tl, 3, 1, rfl, rfl, (by exact ra_f (f := 3) rel hcnt htl (by decide))⟩
    · show _
      exact absurd (g3.symm.trans f_27) (by simp)
    · show _
      obtain rfl := Option.some.inj (g3.symm.trans f_30); exact absurd (g4.symm.trans f_31) (by decide)
  · show _
    have hza0 := rk_none rel g2 g3
    have hl : lv_has ls 8 [(0, .ref (g 8)), (1, .int 2), (2, .int a0), (3, .int b0), (4, .int c0)] := hl
    refine lv_iload_n hx hb dX12_rows_0 rfl (lv_at hl 3 rfl) ?_
    refine lv_bipush (v := 7) hx hb dX12_rows_1 (by decide) ?_
    refine lv_iand hx hb dX12_rows_3 ?_
    refine lv_istore (lv' := [(5, .int (b0 &&& 7)), (0, .ref (g 8)), (1, .int 2), (2, .int a0), (3, .int b0), (4, .int c0)]) hx hb dX12_rows_4 hl (by decide) rfl (fun ls hl => ?_)
    refine lv_iload_n hx hb dX12_rows_6 rfl (lv_at hl 2 rfl) ?_
    refine lv_tableIn (off := 110) (tgt := 117) hx hb dX12_rows_7 (by decide) (by decide) (by decide) (by decide) ?_
    refine lv_aload_n hx hb dX12_rows_117 rfl (lv_at hl 1 rfl) ?_
    refine lv_iload_n hx hb dX12_rows_118 rfl (lv_at hl 3 rfl) ?_
    refine lv_iload hx hb dX12_rows_119 (lv_at hl 0 rfl) ?_
    refine cV_i (C := RX12) (n := 2) (rest := []) hx hb hml hown hg hT (c_X12_thing l dC dI g ty s.heap.size Y pa kp ks I tl ac wr tw ρ pl P a0 (b0 &&& 7) (by exact rel) (by exact wf) (by exact sb7 _)) (cv_of hg wM_X12_131 wN_X12_thing wL_X12_X12_thing wK_X12_thing wI_X12 (by decide +kernel) ⟨Nat.le_of_ble_eq_true rfl, Nat.le_of_ble_eq_true rfl⟩) hK hP hD hS hA (va_recv hK hP (ci := 14) (q0 := 0) rfl rfl) rfl hl.1 rfl (Nat.le_of_ble_eq_true rfl) dX12_rows_121 ⟨Nat.le_of_ble_eq_true rfl, Nat.le_of_ble_eq_true rfl⟩ (fun r_36 u_37 H locs q_35 hP hD hS => ?_)
    rcases q_35 with ⟨rfl, rfl, f_38⟩ | ⟨t_39, rfl, rfl, f_40, f_41, f_42⟩ | ⟨rfl, rfl, f_43, f_44⟩ | ⟨t_45, rfl, rfl, f_46, f_47, f_48⟩
    · show _
      exact absurd (by assumption) f_38
    · show _
      exact absurd (g3.symm.trans f_41) (by simp)
    · show _
      have hP : va_P (dC, dI) vwCl (rW g ty Y pa kp ks I tl ac wr tw) H := hP
      have hD : va_D A (rW g ty Y pa kp ks I tl ac wr tw) := hD
      refine lv_if_eq (tgt := 150) hx hb dX12_rows_124 (by decide) (fun c9 => absurd c9 (by decide)) (fun _ => ?_)
      refine lv_aload_n hx hb dX12_rows_127 rfl (lv_at hl 1 rfl) ?_
      refine lv_iload_n hx hb dX12_rows_128 rfl (lv_at hl 3 rfl) ?_
      refine cV_i (C := RX12) (n := 1) (rest := []) hx hb hml hown hg hT (c_X12_need l dC dI g ty H.size Y pa kp ks I tl ac wr tw a0 (by assumption)) (cv_of hg wM_X12_134 wN_X12_need wL_X12_X12_need wK_X12_need wI_X12 (by decide +kernel) ⟨Nat.le_of_ble_eq_true rfl, Nat.le_of_ble_eq_true rfl⟩) hK hP hD hS hA (va_recv hK hP (ci := 14) (q0 := 0) rfl rfl) rfl hl.1 rfl (Nat.le_of_ble_eq_true rfl) dX12_rows_129 ⟨Nat.le_of_ble_eq_true rfl, Nat.le_of_ble_eq_true rfl⟩ (fun r_50 u_51 H locs q_49 hP hD hS => ?_)
      rcases q_49 with ⟨rfl, rfl, f_52⟩ | ⟨rfl, rfl, f_53⟩
      · show _
        have hP : va_P (dC, dI) vwCl (rW g ty Y pa kp ks I tl ac 1 tw) H := hP
        have hD : va_D A (rW g ty Y pa kp ks I tl ac 1 tw) := hD
        refine lv_if_eq (tgt := 150) hx hb dX12_rows_132 (by decide) (fun _ => ?_) (fun c9 => absurd (by decide) c9) 
        refine lv_aload_n hx hb dX12_rows_150 rfl (lv_at hl 1 rfl) ?_
        refine cV_l (C := RX12) (n := 0) (rest := []) hx hb hml hown hg hT (c_X12_no l dC dI g ty H.size Y pa kp ks I tl ac 1 tw  ) (cv_of hg wM_X12_107 wN_X12_no wL_X12_X12_no wK_X12_no wI_X12 (by decide +kernel) ⟨Nat.le_of_ble_eq_true rfl, Nat.le_of_ble_eq_true rfl⟩) hK hP hD hS hA (va_recv hK hP (ci := 14) (q0 := 0) rfl rfl) rfl hl.1 rfl (Nat.le_of_ble_eq_true rfl) dX12_rows_151 ⟨Nat.le_of_ble_eq_true rfl, Nat.le_of_ble_eq_true rfl⟩ (fun r_55 u_56 H locs q_54 hP hD hS => ?_)
        obtain ⟨rfl, rfl⟩ := q_54
        have hP : va_P (dC, dI) vwCl (rW g ty Y pa kp ks I tl ac 1 1) H := hP
        have hD : va_D A (rW g ty Y pa kp ks I tl ac 1 1) := hD
        refine cr_l (wo := fun u : rY × (Nat → Int32) × (Nat → Int32) × (Nat → Int32) × Int32 × Int32 => rW g ty u.1 u.2.1 u.2.2.1 ks I u.2.2.2.1 ac u.2.2.2.2.1 u.2.2.2.2.2) ((Y, pa, kp, tl, 1, 1)) hx hb hr hlk hS hP hD ?_ dX12_rows_154
        exact ⟨0, Y, pa, kp, tl, 1, 1, rfl, rfl, (by exact ra_f (f := 1) rel hcnt htl (by decide))⟩
      · show _
        exact absurd (by assumption) f_53
    · show _
      exact absurd (g3.symm.trans f_47) (by simp)
  · show _
    obtain ⟨n1t, n2t, n3t⟩ := rk_some rel g2 g3
    have hnet := (i32_pos n1t).2.1
    have tht := wf.1 _ _ g3
    have kt := cIs_0 (ki_row wf tht.1 tht.2 g4)
    have hvt := rv_row rel n1t n2t n3t kt g5
    have hl : lv_has ls 8 [(0, .ref (g 8)), (1, .int 2), (2, .int a0), (3, .int b0), (4, .int c0)] := hl
    refine lv_iload_n hx hb dX12_rows_0 rfl (lv_at hl 3 rfl) ?_
    refine lv_bipush (v := 7) hx hb dX12_rows_1 (by decide) ?_
    refine lv_iand hx hb dX12_rows_3 ?_
    refine lv_istore (lv' := [(5, .int (b0 &&& 7)), (0, .ref (g 8)), (1, .int 2), (2, .int a0), (3, .int b0), (4, .int c0)]) hx hb dX12_rows_4 hl (by decide) rfl (fun ls hl => ?_)
    refine lv_iload_n hx hb dX12_rows_6 rfl (lv_at hl 2 rfl) ?_
    refine lv_tableIn (off := 110) (tgt := 117) hx hb dX12_rows_7 (by decide) (by decide) (by decide) (by decide) ?_
    refine lv_aload_n hx hb dX12_rows_117 rfl (lv_at hl 1 rfl) ?_
    refine lv_iload_n hx hb dX12_rows_118 rfl (lv_at hl 3 rfl) ?_
    refine lv_iload hx hb dX12_rows_119 (lv_at hl 0 rfl) ?_
    refine cV_i (C := RX12) (n := 2) (rest := []) hx hb hml hown hg hT (c_X12_thing l dC dI g ty s.heap.size Y pa kp ks I tl ac wr tw ρ pl P a0 (b0 &&& 7) (by exact rel) (by exact wf) (by exact sb7 _)) (cv_of hg wM_X12_131 wN_X12_thing wL_X12_X12_thing wK_X12_thing wI_X12 (by decide +kernel) ⟨Nat.le_of_ble_eq_true rfl, Nat.le_of_ble_eq_true rfl⟩) hK hP hD hS hA (va_recv hK hP (ci := 14) (q0 := 0) rfl rfl) rfl hl.1 rfl (Nat.le_of_ble_eq_true rfl) dX12_rows_121 ⟨Nat.le_of_ble_eq_true rfl, Nat.le_of_ble_eq_true rfl⟩ (fun r_58 u_59 H locs q_57 hP hD hS => ?_)
    rcases q_57 with ⟨rfl, rfl, f_60⟩ | ⟨t_61, rfl, rfl, f_62, f_63, f_64⟩ | ⟨rfl, rfl, f_65, f_66⟩ | ⟨t_67, rfl, rfl, f_68, f_69, f_70⟩
    · show _
      exact absurd (by assumption) f_60
    · show _
      obtain rfl := Option.some.inj (g3.symm.trans f_63); exact absurd (g4.symm.trans f_64) (by decide)
    · show _
      exact absurd (g3.symm.trans f_66) (by simp)
    · show _
      obtain rfl := Option.some.inj (g3.symm.trans f_69)
      have hP : va_P (dC, dI) vwCl (rW g ty Y pa kp ks I tl ac wr tw) H := hP
      have hD : va_D A (rW g ty Y pa kp ks I tl ac wr tw) := hD
      refine lv_if_eq (tgt := 150) hx hb dX12_rows_124 (by decide) (fun c9 => absurd c9 (by decide)) (fun _ => ?_)
      refine lv_aload_n hx hb dX12_rows_127 rfl (lv_at hl 1 rfl) ?_
      refine lv_iload_n hx hb dX12_rows_128 rfl (lv_at hl 3 rfl) ?_
      refine cV_i (C := RX12) (n := 1) (rest := []) hx hb hml hown hg hT (c_X12_need l dC dI g ty H.size Y pa kp ks I tl ac wr tw a0 (by assumption)) (cv_of hg wM_X12_134 wN_X12_need wL_X12_X12_need wK_X12_need wI_X12 (by decide +kernel) ⟨Nat.le_of_ble_eq_true rfl, Nat.le_of_ble_eq_true rfl⟩) hK hP hD hS hA (va_recv hK hP (ci := 14) (q0 := 0) rfl rfl) rfl hl.1 rfl (Nat.le_of_ble_eq_true rfl) dX12_rows_129 ⟨Nat.le_of_ble_eq_true rfl, Nat.le_of_ble_eq_true rfl⟩ (fun r_72 u_73 H locs q_71 hP hD hS => ?_)
      rcases q_71 with ⟨rfl, rfl, f_74⟩ | ⟨rfl, rfl, f_75⟩
      · show _
        exact absurd f_74 (by assumption)
      · show _
        have hP : va_P (dC, dI) vwCl (rW g ty Y pa kp ks I tl ac wr tw) H := hP
        have hD : va_D A (rW g ty Y pa kp ks I tl ac wr tw) := hD
        refine lv_if_eq (tgt := 150) hx hb dX12_rows_132 (by decide) (fun c9 => absurd c9 (by decide)) (fun _ => ?_)
        refine lv_aload_n hx hb dX12_rows_135 rfl (lv_at hl 1 rfl) ?_
        refine lv_aload_n hx hb dX12_rows_136 rfl (lv_at hl 1 rfl) ?_
        refine va_get (D := (dC, dI)) (ci := 14) (v := .ref (g 9)) (C := RX12) (T := TX12) (N := 21) hx hb hg inG12 hown hK hP 0 rfl rfl 8 (by decide) (hg _ wF_X12_34) (fun _ h9 => h9) rfl dX12_rows_137 ?_
        refine lv_iload_n hx hb dX12_rows_140 rfl (lv_at hl 3 rfl) ?_
        refine va_iald hx hb hK hP 7 0 rfl rfl (by assumption) dX12_rows_141 ?_
        refine lv_iload hx hb dX12_rows_142 (lv_at hl 5 rfl) ?_
        refine cV_i (C := RX12) (n := 2) (rest := []) hx hb hml hown hg hT (c_X12_indexN l dC dI g ty H.size Y pa kp ks I tl ac wr tw (P.2.2.2.2.2.1 r) (pa a0.toNatClampNeg) c0 (by exact hvt.1) (by exact hvt.2.1) (by exact hvt.2.2.1)) (cv_of hg wM_X12_137 wN_X12_index wL_X12_X12_index wK_X12_index wI_X12 (by decide +kernel) ⟨Nat.le_of_ble_eq_true rfl, Nat.le_of_ble_eq_true rfl⟩) hK hP hD hS hA (va_recv hK hP (ci := 14) (q0 := 0) rfl rfl) rfl hl.1 rfl (Nat.le_of_ble_eq_true rfl) dX12_rows_144 ⟨Nat.le_of_ble_eq_true rfl, Nat.le_of_ble_eq_true rfl⟩ (fun r_77 u_78 H locs q_76 hP hD hS => ?_)
        rcases q_76 with ⟨rfl, rfl, f_79⟩ | ⟨rfl, rfl, f_80⟩
        · show _
          have hP : va_P (dC, dI) vwCl (rW g ty Y pa kp ks I tl ac 2 tw) H := hP
          have hD : va_D A (rW g ty Y pa kp ks I tl ac 2 tw) := hD
          refine lv_if_ne (tgt := 155) hx hb dX12_rows_147 (by decide) (fun c9 => absurd (by decide) c9) (fun _ => ?_)
          refine lv_aload_n hx hb dX12_rows_150 rfl (lv_at hl 1 rfl) ?_
          refine cV_l (C := RX12) (n := 0) (rest := []) hx hb hml hown hg hT (c_X12_no l dC dI g ty H.size Y pa kp ks I tl ac 2 tw  ) (cv_of hg wM_X12_107 wN_X12_no wL_X12_X12_no wK_X12_no wI_X12 (by decide +kernel) ⟨Nat.le_of_ble_eq_true rfl, Nat.le_of_ble_eq_true rfl⟩) hK hP hD hS hA (va_recv hK hP (ci := 14) (q0 := 0) rfl rfl) rfl hl.1 rfl (Nat.le_of_ble_eq_true rfl) dX12_rows_151 ⟨Nat.le_of_ble_eq_true rfl, Nat.le_of_ble_eq_true rfl⟩ (fun r_82 u_83 H locs q_81 hP hD hS => ?_)
          obtain ⟨rfl, rfl⟩ := q_81
          have hP : va_P (dC, dI) vwCl (rW g ty Y pa kp ks I tl ac 2 1) H := hP
          have hD : va_D A (rW g ty Y pa kp ks I tl ac 2 1) := hD
          refine cr_l (wo := fun u : rY × (Nat → Int32) × (Nat → Int32) × (Nat → Int32) × Int32 × Int32 => rW g ty u.1 u.2.1 u.2.2.1 ks I u.2.2.2.1 ac u.2.2.2.2.1 u.2.2.2.2.2) ((Y, pa, kp, tl, 2, 1)) hx hb hr hlk hS hP hD ?_ dX12_rows_154
          exact ⟨0, Y, pa, kp, tl, 2, 1, rfl, rfl, (by exact ra_f (f := 2) rel hcnt htl (by decide))⟩
        · show _
          exact absurd f_80 (by assumption)
  · show _
    obtain ⟨n1t, n2t, n3t⟩ := rk_some rel g2 g3
    have hnet := (i32_pos n1t).2.1
    have tht := wf.1 _ _ g3
    have kt := cIs_0 (ki_row wf tht.1 tht.2 g4)
    have hvt := rv_row rel n1t n2t n3t kt g5
    have hl : lv_has ls 8 [(0, .ref (g 8)), (1, .int 2), (2, .int a0), (3, .int b0), (4, .int c0)] := hl
    refine lv_iload_n hx hb dX12_rows_0 rfl (lv_at hl 3 rfl) ?_
    refine lv_bipush (v := 7) hx hb dX12_rows_1 (by decide) ?_
    refine lv_iand hx hb dX12_rows_3 ?_
    refine lv_istore (lv' := [(5, .int (b0 &&& 7)), (0, .ref (g 8)), (1, .int 2), (2, .int a0), (3, .int b0), (4, .int c0)]) hx hb dX12_rows_4 hl (by decide) rfl (fun ls hl => ?_)
    refine lv_iload_n hx hb dX12_rows_6 rfl (lv_at hl 2 rfl) ?_
    refine lv_tableIn (off := 110) (tgt := 117) hx hb dX12_rows_7 (by decide) (by decide) (by decide) (by decide) ?_
    refine lv_aload_n hx hb dX12_rows_117 rfl (lv_at hl 1 rfl) ?_
    refine lv_iload_n hx hb dX12_rows_118 rfl (lv_at hl 3 rfl) ?_
    refine lv_iload hx hb dX12_rows_119 (lv_at hl 0 rfl) ?_
    refine cV_i (C := RX12) (n := 2) (rest := []) hx hb hml hown hg hT (c_X12_thing l dC dI g ty s.heap.size Y pa kp ks I tl ac wr tw ρ pl P a0 (b0 &&& 7) (by exact rel) (by exact wf) (by exact sb7 _)) (cv_of hg wM_X12_131 wN_X12_thing wL_X12_X12_thing wK_X12_thing wI_X12 (by decide +kernel) ⟨Nat.le_of_ble_eq_true rfl, Nat.le_of_ble_eq_true rfl⟩) hK hP hD hS hA (va_recv hK hP (ci := 14) (q0 := 0) rfl rfl) rfl hl.1 rfl (Nat.le_of_ble_eq_true rfl) dX12_rows_121 ⟨Nat.le_of_ble_eq_true rfl, Nat.le_of_ble_eq_true rfl⟩ (fun r_85 u_86 H locs q_84 hP hD hS => ?_)
    rcases q_84 with ⟨rfl, rfl, f_87⟩ | ⟨t_88, rfl, rfl, f_89, f_90, f_91⟩ | ⟨rfl, rfl, f_92, f_93⟩ | ⟨t_94, rfl, rfl, f_95, f_96, f_97⟩
    · show _
      exact absurd (by assumption) f_87
    · show _
      obtain rfl := Option.some.inj (g3.symm.trans f_90); exact absurd (g4.symm.trans f_91) (by decide)
    · show _
      exact absurd (g3.symm.trans f_93) (by simp)
    · show _
      obtain rfl := Option.some.inj (g3.symm.trans f_96)
      have hP : va_P (dC, dI) vwCl (rW g ty Y pa kp ks I tl ac wr tw) H := hP
      have hD : va_D A (rW g ty Y pa kp ks I tl ac wr tw) := hD
      refine lv_if_eq (tgt := 150) hx hb dX12_rows_124 (by decide) (fun c9 => absurd c9 (by decide)) (fun _ => ?_)
      refine lv_aload_n hx hb dX12_rows_127 rfl (lv_at hl 1 rfl) ?_
      refine lv_iload_n hx hb dX12_rows_128 rfl (lv_at hl 3 rfl) ?_
      refine cV_i (C := RX12) (n := 1) (rest := []) hx hb hml hown hg hT (c_X12_need l dC dI g ty H.size Y pa kp ks I tl ac wr tw a0 (by assumption)) (cv_of hg wM_X12_134 wN_X12_need wL_X12_X12_need wK_X12_need wI_X12 (by decide +kernel) ⟨Nat.le_of_ble_eq_true rfl, Nat.le_of_ble_eq_true rfl⟩) hK hP hD hS hA (va_recv hK hP (ci := 14) (q0 := 0) rfl rfl) rfl hl.1 rfl (Nat.le_of_ble_eq_true rfl) dX12_rows_129 ⟨Nat.le_of_ble_eq_true rfl, Nat.le_of_ble_eq_true rfl⟩ (fun r_99 u_100 H locs q_98 hP hD hS => ?_)
      rcases q_98 with ⟨rfl, rfl, f_101⟩ | ⟨rfl, rfl, f_102⟩
      · show _
        exact absurd f_101 (by assumption)
      · show _
        have hP : va_P (dC, dI) vwCl (rW g ty Y pa kp ks I tl ac wr tw) H := hP
        have hD : va_D A (rW g ty Y pa kp ks I tl ac wr tw) := hD
        refine lv_if_eq (tgt := 150) hx hb dX12_rows_132 (by decide) (fun c9 => absurd c9 (by decide)) (fun _ => ?_)
        refine lv_aload_n hx hb dX12_rows_135 rfl (lv_at hl 1 rfl) ?_
        refine lv_aload_n hx hb dX12_rows_136 rfl (lv_at hl 1 rfl) ?_
        refine va_get (D := (dC, dI)) (ci := 14) (v := .ref (g 9)) (C := RX12) (T := TX12) (N := 21) hx hb hg inG12 hown hK hP 0 rfl rfl 8 (by decide) (hg _ wF_X12_34) (fun _ h9 => h9) rfl dX12_rows_137 ?_
        refine lv_iload_n hx hb dX12_rows_140 rfl (lv_at hl 3 rfl) ?_
        refine va_iald hx hb hK hP 7 0 rfl rfl (by assumption) dX12_rows_141 ?_
        refine lv_iload hx hb dX12_rows_142 (lv_at hl 5 rfl) ?_
        refine cV_i (C := RX12) (n := 2) (rest := []) hx hb hml hown hg hT (c_X12_indexN l dC dI g ty H.size Y pa kp ks I tl ac wr tw (P.2.2.2.2.2.1 r) (pa a0.toNatClampNeg) c0 (by exact hvt.1) (by exact hvt.2.1) (by exact hvt.2.2.1)) (cv_of hg wM_X12_137 wN_X12_index wL_X12_X12_index wK_X12_index wI_X12 (by decide +kernel) ⟨Nat.le_of_ble_eq_true rfl, Nat.le_of_ble_eq_true rfl⟩) hK hP hD hS hA (va_recv hK hP (ci := 14) (q0 := 0) rfl rfl) rfl hl.1 rfl (Nat.le_of_ble_eq_true rfl) dX12_rows_144 ⟨Nat.le_of_ble_eq_true rfl, Nat.le_of_ble_eq_true rfl⟩ (fun r_104 u_105 H locs q_103 hP hD hS => ?_)
        rcases q_103 with ⟨rfl, rfl, f_106⟩ | ⟨rfl, rfl, f_107⟩
        · show _
          exact absurd (by assumption) f_106
        · show _
          have hP : va_P (dC, dI) vwCl (rW g ty Y pa kp ks I tl ac wr tw) H := hP
          have hD : va_D A (rW g ty Y pa kp ks I tl ac wr tw) := hD
          refine lv_if_ne (tgt := 155) hx hb dX12_rows_147 (by decide) (fun _ => ?_) (fun c9 => absurd c9 (by decide)) 
          refine lv_iload_n hx hb dX12_rows_155 rfl (lv_at hl 2 rfl) ?_
          refine lv_iconst (v := 1) hx hb dX12_rows_156 (by decide) ?_
          refine lv_icmp_ne (tgt := 173) hx hb dX12_rows_157 (by decide) (fun _ => ?_) (fun c9 => absurd c9 (by decide)) 
          refine lv_aload_n hx hb dX12_rows_173 rfl (lv_at hl 1 rfl) ?_
          refine lv_aload_n hx hb dX12_rows_174 rfl (lv_at hl 1 rfl) ?_
          refine va_get (D := (dC, dI)) (ci := 14) (v := .ref (g 9)) (C := RX12) (T := TX12) (N := 21) hx hb hg inG12 hown hK hP 0 rfl rfl 8 (by decide) (hg _ wF_X12_34) (fun _ h9 => h9) rfl dX12_rows_175 ?_
          refine lv_iload_n hx hb dX12_rows_178 rfl (lv_at hl 3 rfl) ?_
          refine va_iald hx hb hK hP 7 0 rfl rfl (by assumption) dX12_rows_179 ?_
          refine lv_iload hx hb dX12_rows_180 (lv_at hl 5 rfl) ?_
          refine lv_iload hx hb dX12_rows_182 (lv_at hl 0 rfl) ?_
          refine lv_aload_n hx hb dX12_rows_184 rfl (lv_at hl 1 rfl) ?_
          refine va_get (D := (dC, dI)) (ci := 14) (v := .long ac) (C := RX12) (T := TX12) (N := 21) hx hb hg inG12 hown hK hP 0 rfl rfl 13 (by decide) (hg _ wF_X12_143) (fun _ h9 => h9) rfl dX12_rows_185 ?_
          refine cS_l (n := 2) (rest := [.int c0, .int (pa a0.toNatClampNeg), .ref (g 8)]) hx hb hml hown hg hT (c_X12_as l dC dI g ty H.size Y pa kp ks I tl ac wr tw (b0 &&& 7) ac (by exact pre8) (by exact pk_andIn _ 3 (by decide) (by decide))) (cb_of hg wM_X12_147 wK_X12_as wI_X12 (by decide +kernel) ⟨Nat.le_of_ble_eq_true rfl, Nat.le_of_ble_eq_true rfl⟩) wS_X12_as hK hP hD hS hA rfl hl.1 rfl (Nat.le_of_ble_eq_true rfl) dX12_rows_188 ⟨Nat.le_of_ble_eq_true rfl, Nat.le_of_ble_eq_true rfl⟩ (fun r_109 u_110 H locs q_108 hP hD hS => ?_)
          obtain rfl := q_108
          have hP : va_P (dC, dI) vwCl (rW g ty Y pa kp ks I tl ac wr tw) H := hP
          have hD : va_D A (rW g ty Y pa kp ks I tl ac wr tw) := hD
          refine cV_v (C := RX12) (n := 3) (rest := []) hx hb hml hown hg hT (c_X12_put l dC dI g ty H.size Y pa kp ks I tl ac wr tw (pa a0.toNatClampNeg) c0 (aCell (b0 &&& 7) ac) (by exact hvt.1) (by exact (hvt.2.2.2 _ (by assumption)).1)) (cv_of hg wM_X12_151 wN_X12_put wL_X12_X12_put wK_X12_put wI_X12 (by decide +kernel) ⟨Nat.le_of_ble_eq_true rfl, Nat.le_of_ble_eq_true rfl⟩) hK hP hD hS hA (va_recv hK hP (ci := 14) (q0 := 0) rfl rfl) rfl hl.1 rfl (Nat.le_of_ble_eq_true rfl) dX12_rows_191 ⟨Nat.le_of_ble_eq_true rfl, Nat.le_of_ble_eq_true rfl⟩ (fun u_113 H locs q_111 hP hD hS => ?_)
          obtain rfl := q_111
          have hP : va_P (dC, dI) vwCl (rW g ty (Y.1, Y.2.1, Y.2.2.1, Y.2.2.2.1, Y.2.2.2.2.1, (vp_updL Y.2.2.2.2.2.1 (Y.2.1 (pa a0.toNatClampNeg).toNatClampNeg + c0).toNatClampNeg (aCell (b0 &&& 7) ac)), Y.2.2.2.2.2.2.1, Y.2.2.2.2.2.2.2.1, Y.2.2.2.2.2.2.2.2.1, Y.2.2.2.2.2.2.2.2.2.1, Y.2.2.2.2.2.2.2.2.2.2) pa kp ks I tl ac wr tw) H := hP
          have hD : va_D A (rW g ty (Y.1, Y.2.1, Y.2.2.1, Y.2.2.2.1, Y.2.2.2.2.1, (vp_updL Y.2.2.2.2.2.1 (Y.2.1 (pa a0.toNatClampNeg).toNatClampNeg + c0).toNatClampNeg (aCell (b0 &&& 7) ac)), Y.2.2.2.2.2.2.1, Y.2.2.2.2.2.2.2.1, Y.2.2.2.2.2.2.2.2.1, Y.2.2.2.2.2.2.2.2.2.1, Y.2.2.2.2.2.2.2.2.2.2) pa kp ks I tl ac wr tw) := hD
          refine lv_aload_n hx hb dX12_rows_194 rfl (lv_at hl 1 rfl) ?_
          refine va_get (D := (dC, dI)) (ci := 14) (v := .long ac) (C := RX12) (T := TX12) (N := 21) hx hb hg inG12 hown hK hP 0 rfl rfl 13 (by decide) (hg _ wF_X12_143) (fun _ h9 => h9) rfl dX12_rows_195 ?_
          refine cr_l (wo := fun u : rY × (Nat → Int32) × (Nat → Int32) × (Nat → Int32) × Int32 × Int32 => rW g ty u.1 u.2.1 u.2.2.1 ks I u.2.2.2.1 ac u.2.2.2.2.1 u.2.2.2.2.2) (((Y.1, Y.2.1, Y.2.2.1, Y.2.2.2.1, Y.2.2.2.2.1, (vp_updL Y.2.2.2.2.2.1 (Y.2.1 (pa a0.toNatClampNeg).toNatClampNeg + c0).toNatClampNeg (aCell (b0 &&& 7) ac)), Y.2.2.2.2.2.2.1, Y.2.2.2.2.2.2.2.1, Y.2.2.2.2.2.2.2.2.1, Y.2.2.2.2.2.2.2.2.2.1, Y.2.2.2.2.2.2.2.2.2.2), pa, kp, tl, wr, tw)) hx hb hr hlk hS hP hD ?_ dX12_rows_198
          exact ⟨ac, (Y.1, Y.2.1, Y.2.2.1, Y.2.2.2.1, Y.2.2.2.2.1, (vp_updL Y.2.2.2.2.2.1 (Y.2.1 (pa a0.toNatClampNeg).toNatClampNeg + c0).toNatClampNeg (aCell (b0 &&& 7) ac)), Y.2.2.2.2.2.2.1, Y.2.2.2.2.2.2.2.1, Y.2.2.2.2.2.2.2.2.1, Y.2.2.2.2.2.2.2.2.2.1, Y.2.2.2.2.2.2.2.2.2.2), pa, kp, tl, wr, tw, rfl, rfl, (by subst pre6; have hkv : P.2.2.1 t = b0 &&& 7 := row_kv kt f_97; exact ra_w (by rw [hkv]; exact rw_row wf rel n1t n2t n3t kt g5 (by assumption) rfl) ⟨rfl, rfl, rfl, rfl⟩ hcnt htl rfl)⟩

def nSr (u : Int64) (d : Int32) : Int64 := (u.toUInt64 >>> (d.toInt64.toUInt64 &&& Int64.toUInt64 63)).toInt64
def nSl (u : Int64) (d : Int32) : Int64 := u <<< (d.toInt64 &&& 63)
theorem nr_40 (u : Int64) : (nSr u 40).toInt < 2 ^ 24 := by
  have e : nSr u 40 = (u.toUInt64 >>> 40).toInt64 := rfl
  rw [e]
  have h1 : (u.toUInt64 >>> 40).toNat = u.toUInt64.toNat / 2 ^ 40 := by
    rw [UInt64.toNat_shiftRight]
    rw [Nat.shiftRight_eq_div_pow]
    rfl
  have h2 := u.toUInt64.toNat_lt
  have h3 : (u.toUInt64 >>> 40).toNat < 2 ^ 24 := by rw [h1]; omega
  have h4 : (u.toUInt64 >>> 40).toInt64.toInt = ((u.toUInt64 >>> 40).toNat : Int) := by
    show (u.toUInt64 >>> 40).toBitVec.toInt = _
    rw [BitVec.toInt_eq_toNat_of_lt]
    · rfl
    · show 2 * (u.toUInt64 >>> 40).toNat < 2 ^ 64
      omega
  rw [h4]; omega
theorem nl_24 : (nSl 1 24).toInt = 2 ^ 24 := by decide
theorem nl_53 : (nSl 1 53).toInt = 2 ^ 53 := by decide
theorem nr_e40 (u : Int64) {b : Int32} (hb : b = 24 ∨ b = 53) : lg_cmp (nSr u 40) (nSl 1 b) < 0 := by
  have h := nr_40 u
  have hl : nSr u 40 < nSl 1 b := by
    rw [Int64.lt_iff_toInt_lt]
    rcases hb with e | e <;> rw [e]
    · rw [nl_24]; exact h
    · rw [nl_53]; omega
  exact (lg_cmp_lt _ _).mpr hl
def nAb (v : Int64) : Int64 := if 0 ≤ lg_cmp v 0 then v else -v
/-- how many bits are dropped -/
def nDr (u : Int64) (b d : Int32) : Prop := ¬ d < 0 ∧ d ≤ 40 ∧ lg_cmp (nSr u d) (nSl 1 b) < 0 ∧ (d = 0 ∨ ¬ lg_cmp (nSr u (d + (-1))) (nSl 1 b) < 0)
def nUp (u : Int64) (d : Int32) : Int64 := if 0 < lg_cmp (u - nSl (nSr u d) d) (nSl 1 (d - 1)) then nSr u d + 1 else if lg_cmp (u - nSl (nSr u d) d) (nSl 1 (d - 1)) = 0 then (if lg_cmp (nSr u d &&& 1) 1 = 0 then nSr u d + 1 else nSr u d) else nSr u d
def nRz (v u : Int64) (d : Int32) : Int64 := if d = 0 then v else if lg_cmp (nUp u d) (nSl 1 (63 - d)) < 0 then (if 0 ≤ lg_cmp v 0 then nSl (nUp u d) d else -nSl (nUp u d) d) else (if 0 ≤ lg_cmp v 0 then 9223372036854775807 else -9223372036854775808)
/-- what nearest answers -/
def rNe (v : Int64) (b : Int32) (r : Int64) : Prop := (lg_cmp v (-9223372036854775808) = 0 ∧ r = v) ∨ (¬ lg_cmp v (-9223372036854775808) = 0 ∧ ∃ d : Int32, nDr (nAb v) b d ∧ r = nRz v (nAb v) d)
theorem nd_40 {u : Int64} {b d : Int32} (hb : b = 24 ∨ b = 53) (h0 : ¬ d < 0) (h1 : d ≤ 40) (h : ¬ lg_cmp (nSr u d) (nSl 1 b) < 0) : ¬ 40 ≤ d := by
  intro h9
  have e : d = 40 := Int32.le_antisymm h1 h9
  rw [e] at h
  exact h (nr_e40 u hb)
theorem nd_pre {u : Int64} {b d : Int32} (h : ¬ lg_cmp (nSr u d) (nSl 1 b) < 0) : d + 1 = 0 ∨ ¬ lg_cmp (nSr u (d + 1 + (-1))) (nSl 1 b) < 0 := by
  right
  have e : d + 1 + (-1) = d := by rw [Int32.add_assoc]; exact Int32.add_zero d
  rw [e]; exact h
set_option maxHeartbeats 800000 in
set_option maxRecDepth 100000 in
theorem c_X12_nearest (l : Launch) (dC : Nat → ClassId) (dI : Nat → Nat → Nat) (g : Nat → Nat) (ty : Nat → ClassId) (sz : Nat) (Y : rY) (pa : Nat → Int32) (kp : Nat → Int32) (ks : Int32) (I : rI) (tl : Nat → Int32) (ac : Int64) (wr : Int32) (tw : Int32) (v0 : Int64) (b0 : Int32) (pre0 : b0 = 24 ∨ b0 = 53) : Met l yX12_nearest (Cond.code yX12_nearest cX12_nearest 12 (some .long) :: gT) ({ frames := 0, cells := 0, slots := 0, locals := 0 }) (cP (dC, dI) (rTy ty) (rW g ty Y pa kp ks I tl ac wr tw) sz [.long v0, .int b0]) (va_Ql (fun (rz : Int64) (u : Unit) => ∃ (r' : Int64), r' = rz ∧ rNe v0 b0 r') (cB (dC, dI) (fun u : Unit => rW g ty Y pa kp ks I tl ac wr tw) (va_A (rW g ty Y pa kp ks I tl ac wr tw) sz)) (va_A (rW g ty Y pa kp ks I tl ac wr tw) sz)) 0 0 (va_A (rW g ty Y pa kp ks I tl ac wr tw) sz) := by
  refine cc_of (Qa := fun A => va_Ql (fun (rz : Int64) (u : Unit) => ∃ (r' : Int64), r' = rz ∧ rNe v0 b0 r') (cB (dC, dI) (fun u : Unit => rW g ty Y pa kp ks I tl ac wr tw) A) A) (by decide) (Nat.le_of_ble_eq_true rfl) ?_
  intro p e s m below meth c A hx hb hr hml hown hg hlk hmn hP hK hD hT hS hA hsz ls hl
  have hown : s.vm.findClass RX12 = some m.cls := hown
  have hl : lv_has ls 12 [(0, .long v0), (2, .int b0)] := hl
  refine lv_lload_n hx hb dX12_nearest_0 rfl (lv_at hl 0 rfl) ?_
  refine lv_ldc2 (v := (-9223372036854775808)) hx hb hown (hg _ wQ_X12_91) dX12_nearest_1 ?_
  refine W.lcmp hx hb dX12_nearest_4 ?_
  refine lv_if_ne (tgt := 10) hx hb dX12_nearest_5 (by decide) (fun c_1 => ?_) (fun c_1 => ?_)
  · show _
    refine lv_lload_n hx hb dX12_nearest_10 rfl (lv_at hl 0 rfl) ?_
    refine lv_lconst (v := 0) hx hb dX12_nearest_11 (by decide) ?_
    refine W.lcmp hx hb dX12_nearest_12 ?_
    refine lv_if_ge (tgt := 21) hx hb dX12_nearest_13 (by decide) (fun c_2 => ?_) (fun c_2 => ?_)
    · show _
      refine lv_lload_n hx hb dX12_nearest_21 rfl (lv_at hl 0 rfl) ?_
      refine lv_lstore_n (lv' := [(3, .long v0), (0, .long v0), (2, .int b0)]) hx hb dX12_nearest_22 rfl hl (by decide) rfl (fun ls hl => ?_)
      refine lv_iconst (v := 0) hx hb dX12_nearest_23 (by decide) ?_
      refine lv_istore (lv' := [(5, .int 0), (3, .long v0), (0, .long v0), (2, .int b0)]) hx hb dX12_nearest_24 hl (by decide) rfl (fun ls hl => ?_)
      have LOOP26 : ∀ (N26 : Nat) (dd : Int32) (H : Heap) (locs : List Loc) (ls : Array Slot), 40 - dd.toNatClampNeg = N26 → (¬ dd < 0) → (dd ≤ 40) → (dd = 0 ∨ ¬ lg_cmp (nSr v0 (dd + (-1))) (nSl 1 b0) < 0) → va_P (dC, dI) vwCl (rW g ty Y pa kp ks I tl ac wr tw) H → va_D A (rW g ty Y pa kp ks I tl ac wr tw) → va_S A s.heap H locs → lv_has ls 12 [(0, .long v0), (2, .int b0), (3, .long v0), (5, .int dd)] → W p l e ({ frames := 0, cells := 0, slots := 0, locals := 0 }) s m ([.long v0, .int b0]).toArray below meth c H locs (0) (0) (MQ below (va_Ql (fun (rz : Int64) (u : Unit) => ∃ (r' : Int64), r' = rz ∧ rNe v0 b0 r') (cB (dC, dI) (fun u : Unit => rW g ty Y pa kp ks I tl ac wr tw) A) A) ([.long v0, .int b0]).toArray s 0 0 A) (F0 m 26 ls []) := by
        intro N26
        induction N26 using Nat.strongRecOn with
        | _ N26 IH26 =>
          intro dd H locs ls hN26 n0 n1 n2 hP hD hS hl
          refine lv_lload_n hx hb dX12_nearest_26 rfl (lv_at hl 2 rfl) ?_
          refine lv_iload hx hb dX12_nearest_27 (lv_at hl 3 rfl) ?_
          refine lv_lushr (v := (nSr v0 dd)) hx hb dX12_nearest_29 rfl ?_
          refine lv_lconst (v := 1) hx hb dX12_nearest_30 (by decide) ?_
          refine lv_iload_n hx hb dX12_nearest_31 rfl (lv_at hl 1 rfl) ?_
          refine lv_lshl (v := (nSl 1 b0)) hx hb dX12_nearest_32 rfl ?_
          refine W.lcmp hx hb dX12_nearest_33 ?_
          refine lv_if_lt (tgt := 43) hx hb dX12_nearest_34 (by decide) (fun c_3 => ?_) (fun c_3 => ?_)
          · show _
            refine lv_iload hx hb dX12_nearest_43 (lv_at hl 3 rfl) ?_
            refine lv_if_ne (tgt := 50) hx hb dX12_nearest_45 (by decide) (fun c_4 => ?_) (fun c_4 => ?_)
            · show _
              refine lv_lload_n hx hb dX12_nearest_50 rfl (lv_at hl 2 rfl) ?_
              refine lv_iload hx hb dX12_nearest_51 (lv_at hl 3 rfl) ?_
              refine lv_lushr (v := (nSr v0 dd)) hx hb dX12_nearest_53 rfl ?_
              refine lv_lstore (lv' := [(6, .long (nSr v0 dd)), (0, .long v0), (2, .int b0), (3, .long v0), (5, .int dd)]) hx hb dX12_nearest_54 hl (by decide) rfl (fun ls hl => ?_)
              refine lv_lload_n hx hb dX12_nearest_56 rfl (lv_at hl 3 rfl) ?_
              refine lv_lload hx hb dX12_nearest_57 (lv_at hl 0 rfl) ?_
              refine lv_iload hx hb dX12_nearest_59 (lv_at hl 4 rfl) ?_
              refine lv_lshl (v := (nSl (nSr v0 dd) dd)) hx hb dX12_nearest_61 rfl ?_
              refine lv_lsub hx hb dX12_nearest_62 ?_
              refine lv_lstore (lv' := [(8, .long (v0 - (nSl (nSr v0 dd) dd))), (6, .long (nSr v0 dd)), (0, .long v0), (2, .int b0), (3, .long v0), (5, .int dd)]) hx hb dX12_nearest_63 hl (by decide) rfl (fun ls hl => ?_)
              refine lv_lconst (v := 1) hx hb dX12_nearest_65 (by decide) ?_
              refine lv_iload hx hb dX12_nearest_66 (lv_at hl 5 rfl) ?_
              refine lv_iconst (v := 1) hx hb dX12_nearest_68 (by decide) ?_
              refine lv_isub hx hb dX12_nearest_69 ?_
              refine lv_lshl (v := (nSl 1 (dd - 1))) hx hb dX12_nearest_70 rfl ?_
              refine lv_lstore (lv' := [(10, .long (nSl 1 (dd - 1))), (8, .long (v0 - (nSl (nSr v0 dd) dd))), (6, .long (nSr v0 dd)), (0, .long v0), (2, .int b0), (3, .long v0), (5, .int dd)]) hx hb dX12_nearest_71 hl (by decide) rfl (fun ls hl => ?_)
              refine lv_lload hx hb dX12_nearest_73 (lv_at hl 1 rfl) ?_
              refine lv_lload hx hb dX12_nearest_75 (lv_at hl 0 rfl) ?_
              refine W.lcmp hx hb dX12_nearest_77 ?_
              refine lv_if_gt (tgt := 98) hx hb dX12_nearest_78 (by decide) (fun c_5 => ?_) (fun c_5 => ?_)
              · show _
                refine lv_lload hx hb dX12_nearest_98 (lv_at hl 2 rfl) ?_
                refine lv_lconst (v := 1) hx hb dX12_nearest_100 (by decide) ?_
                refine lv_ladd hx hb dX12_nearest_101 ?_
                refine lv_lstore (lv' := [(6, .long ((nSr v0 dd) + 1)), (10, .long (nSl 1 (dd - 1))), (8, .long (v0 - (nSl (nSr v0 dd) dd))), (0, .long v0), (2, .int b0), (3, .long v0), (5, .int dd)]) hx hb dX12_nearest_102 hl (by decide) rfl (fun ls hl => ?_)
                refine lv_lload hx hb dX12_nearest_104 (lv_at hl 0 rfl) ?_
                refine lv_lconst (v := 1) hx hb dX12_nearest_106 (by decide) ?_
                refine lv_bipush (v := 63) hx hb dX12_nearest_107 (by decide) ?_
                refine lv_iload hx hb dX12_nearest_109 (lv_at hl 6 rfl) ?_
                refine lv_isub hx hb dX12_nearest_111 ?_
                refine lv_lshl (v := (nSl 1 (63 - dd))) hx hb dX12_nearest_112 rfl ?_
                refine W.lcmp hx hb dX12_nearest_113 ?_
                refine lv_if_lt (tgt := 133) hx hb dX12_nearest_114 (by decide) (fun c_6 => ?_) (fun c_6 => ?_)
                · show _
                  refine lv_lload_n hx hb dX12_nearest_133 rfl (lv_at hl 3 rfl) ?_
                  refine lv_lconst (v := 0) hx hb dX12_nearest_134 (by decide) ?_
                  refine W.lcmp hx hb dX12_nearest_135 ?_
                  refine lv_if_ge (tgt := 148) hx hb dX12_nearest_136 (by decide) (fun _ => ?_) (fun c9 => absurd c_2 c9)
                  refine lv_lload hx hb dX12_nearest_148 (lv_at hl 0 rfl) ?_
                  refine lv_iload hx hb dX12_nearest_150 (lv_at hl 6 rfl) ?_
                  refine lv_lshl (v := (nSl ((nSr v0 dd) + 1) dd)) hx hb dX12_nearest_152 rfl ?_
                  refine cr_l (wo := fun u : Unit => rW g ty Y pa kp ks I tl ac wr tw) (()) hx hb hr hlk hS hP hD ?_ dX12_nearest_153
                  exact ⟨(nSl ((nSr v0 dd) + 1) dd), rfl, (by refine Or.inr ⟨c_1, dd, ?_, ?_⟩; (rw [show nAb v0 = v0 from if_pos c_2]; exact ⟨n0, n1, c_3, n2⟩); (rw [show nAb v0 = v0 from if_pos c_2, nRz, if_neg c_4, show nUp v0 dd = nSr v0 dd + 1 from if_pos c_5, if_pos c_6, if_pos c_2]))⟩
                · show _
                  refine lv_lload_n hx hb dX12_nearest_117 rfl (lv_at hl 3 rfl) ?_
                  refine lv_lconst (v := 0) hx hb dX12_nearest_118 (by decide) ?_
                  refine W.lcmp hx hb dX12_nearest_119 ?_
                  refine lv_if_ge (tgt := 129) hx hb dX12_nearest_120 (by decide) (fun _ => ?_) (fun c9 => absurd c_2 c9)
                  refine lv_ldc2 (v := (9223372036854775807)) hx hb hown (hg _ wQ_X12_93) dX12_nearest_129 ?_
                  refine cr_l (wo := fun u : Unit => rW g ty Y pa kp ks I tl ac wr tw) (()) hx hb hr hlk hS hP hD ?_ dX12_nearest_132
                  exact ⟨(9223372036854775807), rfl, (by refine Or.inr ⟨c_1, dd, ?_, ?_⟩; (rw [show nAb v0 = v0 from if_pos c_2]; exact ⟨n0, n1, c_3, n2⟩); (rw [show nAb v0 = v0 from if_pos c_2, nRz, if_neg c_4, show nUp v0 dd = nSr v0 dd + 1 from if_pos c_5, if_neg c_6, if_pos c_2]))⟩
              · show _
                refine lv_lload hx hb dX12_nearest_81 (lv_at hl 1 rfl) ?_
                refine lv_lload hx hb dX12_nearest_83 (lv_at hl 0 rfl) ?_
                refine W.lcmp hx hb dX12_nearest_85 ?_
                refine lv_if_ne (tgt := 104) hx hb dX12_nearest_86 (by decide) (fun c_7 => ?_) (fun c_7 => ?_)
                · show _
                  refine lv_lload hx hb dX12_nearest_104 (lv_at hl 2 rfl) ?_
                  refine lv_lconst (v := 1) hx hb dX12_nearest_106 (by decide) ?_
                  refine lv_bipush (v := 63) hx hb dX12_nearest_107 (by decide) ?_
                  refine lv_iload hx hb dX12_nearest_109 (lv_at hl 6 rfl) ?_
                  refine lv_isub hx hb dX12_nearest_111 ?_
                  refine lv_lshl (v := (nSl 1 (63 - dd))) hx hb dX12_nearest_112 rfl ?_
                  refine W.lcmp hx hb dX12_nearest_113 ?_
                  refine lv_if_lt (tgt := 133) hx hb dX12_nearest_114 (by decide) (fun c_8 => ?_) (fun c_8 => ?_)
                  · show _
                    refine lv_lload_n hx hb dX12_nearest_133 rfl (lv_at hl 3 rfl) ?_
                    refine lv_lconst (v := 0) hx hb dX12_nearest_134 (by decide) ?_
                    refine W.lcmp hx hb dX12_nearest_135 ?_
                    refine lv_if_ge (tgt := 148) hx hb dX12_nearest_136 (by decide) (fun _ => ?_) (fun c9 => absurd c_2 c9)
                    refine lv_lload hx hb dX12_nearest_148 (lv_at hl 2 rfl) ?_
                    refine lv_iload hx hb dX12_nearest_150 (lv_at hl 6 rfl) ?_
                    refine lv_lshl (v := (nSl (nSr v0 dd) dd)) hx hb dX12_nearest_152 rfl ?_
                    refine cr_l (wo := fun u : Unit => rW g ty Y pa kp ks I tl ac wr tw) (()) hx hb hr hlk hS hP hD ?_ dX12_nearest_153
                    exact ⟨(nSl (nSr v0 dd) dd), rfl, (by refine Or.inr ⟨c_1, dd, ?_, ?_⟩; (rw [show nAb v0 = v0 from if_pos c_2]; exact ⟨n0, n1, c_3, n2⟩); (rw [show nAb v0 = v0 from if_pos c_2, nRz, if_neg c_4, show nUp v0 dd = nSr v0 dd from (if_neg c_5).trans (if_neg c_7), if_pos c_8, if_pos c_2]))⟩
                  · show _
                    refine lv_lload_n hx hb dX12_nearest_117 rfl (lv_at hl 3 rfl) ?_
                    refine lv_lconst (v := 0) hx hb dX12_nearest_118 (by decide) ?_
                    refine W.lcmp hx hb dX12_nearest_119 ?_
                    refine lv_if_ge (tgt := 129) hx hb dX12_nearest_120 (by decide) (fun _ => ?_) (fun c9 => absurd c_2 c9)
                    refine lv_ldc2 (v := (9223372036854775807)) hx hb hown (hg _ wQ_X12_93) dX12_nearest_129 ?_
                    refine cr_l (wo := fun u : Unit => rW g ty Y pa kp ks I tl ac wr tw) (()) hx hb hr hlk hS hP hD ?_ dX12_nearest_132
                    exact ⟨(9223372036854775807), rfl, (by refine Or.inr ⟨c_1, dd, ?_, ?_⟩; (rw [show nAb v0 = v0 from if_pos c_2]; exact ⟨n0, n1, c_3, n2⟩); (rw [show nAb v0 = v0 from if_pos c_2, nRz, if_neg c_4, show nUp v0 dd = nSr v0 dd from (if_neg c_5).trans (if_neg c_7), if_neg c_8, if_pos c_2]))⟩
                · show _
                  refine lv_lload hx hb dX12_nearest_89 (lv_at hl 2 rfl) ?_
                  refine lv_lconst (v := 1) hx hb dX12_nearest_91 (by decide) ?_
                  refine lv_land hx hb dX12_nearest_92 ?_
                  refine lv_lconst (v := 1) hx hb dX12_nearest_93 (by decide) ?_
                  refine W.lcmp hx hb dX12_nearest_94 ?_
                  refine lv_if_ne (tgt := 104) hx hb dX12_nearest_95 (by decide) (fun c_9 => ?_) (fun c_9 => ?_)
                  · show _
                    refine lv_lload hx hb dX12_nearest_104 (lv_at hl 2 rfl) ?_
                    refine lv_lconst (v := 1) hx hb dX12_nearest_106 (by decide) ?_
                    refine lv_bipush (v := 63) hx hb dX12_nearest_107 (by decide) ?_
                    refine lv_iload hx hb dX12_nearest_109 (lv_at hl 6 rfl) ?_
                    refine lv_isub hx hb dX12_nearest_111 ?_
                    refine lv_lshl (v := (nSl 1 (63 - dd))) hx hb dX12_nearest_112 rfl ?_
                    refine W.lcmp hx hb dX12_nearest_113 ?_
                    refine lv_if_lt (tgt := 133) hx hb dX12_nearest_114 (by decide) (fun c_10 => ?_) (fun c_10 => ?_)
                    · show _
                      refine lv_lload_n hx hb dX12_nearest_133 rfl (lv_at hl 3 rfl) ?_
                      refine lv_lconst (v := 0) hx hb dX12_nearest_134 (by decide) ?_
                      refine W.lcmp hx hb dX12_nearest_135 ?_
                      refine lv_if_ge (tgt := 148) hx hb dX12_nearest_136 (by decide) (fun _ => ?_) (fun c9 => absurd c_2 c9)
                      refine lv_lload hx hb dX12_nearest_148 (lv_at hl 2 rfl) ?_
                      refine lv_iload hx hb dX12_nearest_150 (lv_at hl 6 rfl) ?_
                      refine lv_lshl (v := (nSl (nSr v0 dd) dd)) hx hb dX12_nearest_152 rfl ?_
                      refine cr_l (wo := fun u : Unit => rW g ty Y pa kp ks I tl ac wr tw) (()) hx hb hr hlk hS hP hD ?_ dX12_nearest_153
                      exact ⟨(nSl (nSr v0 dd) dd), rfl, (by refine Or.inr ⟨c_1, dd, ?_, ?_⟩; (rw [show nAb v0 = v0 from if_pos c_2]; exact ⟨n0, n1, c_3, n2⟩); (rw [show nAb v0 = v0 from if_pos c_2, nRz, if_neg c_4, show nUp v0 dd = nSr v0 dd from (if_neg c_5).trans ((if_pos c_7).trans (if_neg c_9)), if_pos c_10, if_pos c_2]))⟩
                    · show _
                      refine lv_lload_n hx hb dX12_nearest_117 rfl (lv_at hl 3 rfl) ?_
                      refine lv_lconst (v := 0) hx hb dX12_nearest_118 (by decide) ?_
                      refine W.lcmp hx hb dX12_nearest_119 ?_
                      refine lv_if_ge (tgt := 129) hx hb dX12_nearest_120 (by decide) (fun _ => ?_) (fun c9 => absurd c_2 c9)
                      refine lv_ldc2 (v := (9223372036854775807)) hx hb hown (hg _ wQ_X12_93) dX12_nearest_129 ?_
                      refine cr_l (wo := fun u : Unit => rW g ty Y pa kp ks I tl ac wr tw) (()) hx hb hr hlk hS hP hD ?_ dX12_nearest_132
                      exact ⟨(9223372036854775807), rfl, (by refine Or.inr ⟨c_1, dd, ?_, ?_⟩; (rw [show nAb v0 = v0 from if_pos c_2]; exact ⟨n0, n1, c_3, n2⟩); (rw [show nAb v0 = v0 from if_pos c_2, nRz, if_neg c_4, show nUp v0 dd = nSr v0 dd from (if_neg c_5).trans ((if_pos c_7).trans (if_neg c_9)), if_neg c_10, if_pos c_2]))⟩
                  · show _
                    refine lv_lload hx hb dX12_nearest_98 (lv_at hl 2 rfl) ?_
                    refine lv_lconst (v := 1) hx hb dX12_nearest_100 (by decide) ?_
                    refine lv_ladd hx hb dX12_nearest_101 ?_
                    refine lv_lstore (lv' := [(6, .long ((nSr v0 dd) + 1)), (10, .long (nSl 1 (dd - 1))), (8, .long (v0 - (nSl (nSr v0 dd) dd))), (0, .long v0), (2, .int b0), (3, .long v0), (5, .int dd)]) hx hb dX12_nearest_102 hl (by decide) rfl (fun ls hl => ?_)
                    refine lv_lload hx hb dX12_nearest_104 (lv_at hl 0 rfl) ?_
                    refine lv_lconst (v := 1) hx hb dX12_nearest_106 (by decide) ?_
                    refine lv_bipush (v := 63) hx hb dX12_nearest_107 (by decide) ?_
                    refine lv_iload hx hb dX12_nearest_109 (lv_at hl 6 rfl) ?_
                    refine lv_isub hx hb dX12_nearest_111 ?_
                    refine lv_lshl (v := (nSl 1 (63 - dd))) hx hb dX12_nearest_112 rfl ?_
                    refine W.lcmp hx hb dX12_nearest_113 ?_
                    refine lv_if_lt (tgt := 133) hx hb dX12_nearest_114 (by decide) (fun c_11 => ?_) (fun c_11 => ?_)
                    · show _
                      refine lv_lload_n hx hb dX12_nearest_133 rfl (lv_at hl 3 rfl) ?_
                      refine lv_lconst (v := 0) hx hb dX12_nearest_134 (by decide) ?_
                      refine W.lcmp hx hb dX12_nearest_135 ?_
                      refine lv_if_ge (tgt := 148) hx hb dX12_nearest_136 (by decide) (fun _ => ?_) (fun c9 => absurd c_2 c9)
                      refine lv_lload hx hb dX12_nearest_148 (lv_at hl 0 rfl) ?_
                      refine lv_iload hx hb dX12_nearest_150 (lv_at hl 6 rfl) ?_
                      refine lv_lshl (v := (nSl ((nSr v0 dd) + 1) dd)) hx hb dX12_nearest_152 rfl ?_
                      refine cr_l (wo := fun u : Unit => rW g ty Y pa kp ks I tl ac wr tw) (()) hx hb hr hlk hS hP hD ?_ dX12_nearest_153
                      exact ⟨(nSl ((nSr v0 dd) + 1) dd), rfl, (by refine Or.inr ⟨c_1, dd, ?_, ?_⟩; (rw [show nAb v0 = v0 from if_pos c_2]; exact ⟨n0, n1, c_3, n2⟩); (rw [show nAb v0 = v0 from if_pos c_2, nRz, if_neg c_4, show nUp v0 dd = nSr v0 dd + 1 from (if_neg c_5).trans ((if_pos c_7).trans (if_pos c_9)), if_pos c_11, if_pos c_2]))⟩
                    · show _
                      refine lv_lload_n hx hb dX12_nearest_117 rfl (lv_at hl 3 rfl) ?_
                      refine lv_lconst (v := 0) hx hb dX12_nearest_118 (by decide) ?_
                      refine W.lcmp hx hb dX12_nearest_119 ?_
                      refine lv_if_ge (tgt := 129) hx hb dX12_nearest_120 (by decide) (fun _ => ?_) (fun c9 => absurd c_2 c9)
                      refine lv_ldc2 (v := (9223372036854775807)) hx hb hown (hg _ wQ_X12_93) dX12_nearest_129 ?_
                      refine cr_l (wo := fun u : Unit => rW g ty Y pa kp ks I tl ac wr tw) (()) hx hb hr hlk hS hP hD ?_ dX12_nearest_132
                      exact ⟨(9223372036854775807), rfl, (by refine Or.inr ⟨c_1, dd, ?_, ?_⟩; (rw [show nAb v0 = v0 from if_pos c_2]; exact ⟨n0, n1, c_3, n2⟩); (rw [show nAb v0 = v0 from if_pos c_2, nRz, if_neg c_4, show nUp v0 dd = nSr v0 dd + 1 from (if_neg c_5).trans ((if_pos c_7).trans (if_pos c_9)), if_neg c_11, if_pos c_2]))⟩
            · show _
              refine lv_lload_n hx hb dX12_nearest_48 rfl (lv_at hl 0 rfl) ?_
              refine cr_l (wo := fun u : Unit => rW g ty Y pa kp ks I tl ac wr tw) (()) hx hb hr hlk hS hP hD ?_ dX12_nearest_49
              exact ⟨v0, rfl, (by refine Or.inr ⟨c_1, dd, ?_, ?_⟩; (rw [show nAb v0 = v0 from if_pos c_2]; exact ⟨n0, n1, c_3, n2⟩); (rw [nRz, if_pos c_4]))⟩
          · show _
            refine lv_iinc (v := (dd + 1)) (lv' := [(5, .int (dd + 1)), (0, .long v0), (2, .int b0), (3, .long v0)]) hx hb dX12_nearest_37 hl (k := 3) rfl rfl (by decide) rfl (fun ls hl => ?_)
            refine lv_goto (tgt := 26) hx hb dX12_nearest_40 (by decide) ?_
            exact IH26 _ (by rw [← hN26]; exact th_dec n0 (nd_40 pre0 n0 n1 (by assumption))) (dd + 1) _ _ _ rfl (by exact k1_nn n0 (nd_40 pre0 n0 n1 (by assumption))) (by exact k1_le (nd_40 pre0 n0 n1 (by assumption))) (by exact nd_pre (by assumption)) hP hD hS (lv_sub hl [1, 2, 3, 0] rfl)
      exact LOOP26 _ 0 _ _ _ rfl (by decide) (by decide) (by exact Or.inl rfl) hP hD hS (lv_sub hl [2, 3, 1, 0] rfl)
    · show _
      refine lv_lload_n hx hb dX12_nearest_16 rfl (lv_at hl 0 rfl) ?_
      refine lv_lneg hx hb dX12_nearest_17 ?_
      refine lv_goto (tgt := 22) hx hb dX12_nearest_18 (by decide) ?_
      refine lv_lstore_n (lv' := [(3, .long (-v0)), (0, .long v0), (2, .int b0)]) hx hb dX12_nearest_22 rfl hl (by decide) rfl (fun ls hl => ?_)
      refine lv_iconst (v := 0) hx hb dX12_nearest_23 (by decide) ?_
      refine lv_istore (lv' := [(5, .int 0), (3, .long (-v0)), (0, .long v0), (2, .int b0)]) hx hb dX12_nearest_24 hl (by decide) rfl (fun ls hl => ?_)
      have LOOP26 : ∀ (N26 : Nat) (dd : Int32) (H : Heap) (locs : List Loc) (ls : Array Slot), 40 - dd.toNatClampNeg = N26 → (¬ dd < 0) → (dd ≤ 40) → (dd = 0 ∨ ¬ lg_cmp (nSr (-v0) (dd + (-1))) (nSl 1 b0) < 0) → va_P (dC, dI) vwCl (rW g ty Y pa kp ks I tl ac wr tw) H → va_D A (rW g ty Y pa kp ks I tl ac wr tw) → va_S A s.heap H locs → lv_has ls 12 [(0, .long v0), (2, .int b0), (3, .long (-v0)), (5, .int dd)] → W p l e ({ frames := 0, cells := 0, slots := 0, locals := 0 }) s m ([.long v0, .int b0]).toArray below meth c H locs (0) (0) (MQ below (va_Ql (fun (rz : Int64) (u : Unit) => ∃ (r' : Int64), r' = rz ∧ rNe v0 b0 r') (cB (dC, dI) (fun u : Unit => rW g ty Y pa kp ks I tl ac wr tw) A) A) ([.long v0, .int b0]).toArray s 0 0 A) (F0 m 26 ls []) := by
        intro N26
        induction N26 using Nat.strongRecOn with
        | _ N26 IH26 =>
          intro dd H locs ls hN26 n0 n1 n2 hP hD hS hl
          refine lv_lload_n hx hb dX12_nearest_26 rfl (lv_at hl 2 rfl) ?_
          refine lv_iload hx hb dX12_nearest_27 (lv_at hl 3 rfl) ?_
          refine lv_lushr (v := (nSr (-v0) dd)) hx hb dX12_nearest_29 rfl ?_
          refine lv_lconst (v := 1) hx hb dX12_nearest_30 (by decide) ?_
          refine lv_iload_n hx hb dX12_nearest_31 rfl (lv_at hl 1 rfl) ?_
          refine lv_lshl (v := (nSl 1 b0)) hx hb dX12_nearest_32 rfl ?_
          refine W.lcmp hx hb dX12_nearest_33 ?_
          refine lv_if_lt (tgt := 43) hx hb dX12_nearest_34 (by decide) (fun c_12 => ?_) (fun c_12 => ?_)
          · show _
            refine lv_iload hx hb dX12_nearest_43 (lv_at hl 3 rfl) ?_
            refine lv_if_ne (tgt := 50) hx hb dX12_nearest_45 (by decide) (fun c_13 => ?_) (fun c_13 => ?_)
            · show _
              refine lv_lload_n hx hb dX12_nearest_50 rfl (lv_at hl 2 rfl) ?_
              refine lv_iload hx hb dX12_nearest_51 (lv_at hl 3 rfl) ?_
              refine lv_lushr (v := (nSr (-v0) dd)) hx hb dX12_nearest_53 rfl ?_
              refine lv_lstore (lv' := [(6, .long (nSr (-v0) dd)), (0, .long v0), (2, .int b0), (3, .long (-v0)), (5, .int dd)]) hx hb dX12_nearest_54 hl (by decide) rfl (fun ls hl => ?_)
              refine lv_lload_n hx hb dX12_nearest_56 rfl (lv_at hl 3 rfl) ?_
              refine lv_lload hx hb dX12_nearest_57 (lv_at hl 0 rfl) ?_
              refine lv_iload hx hb dX12_nearest_59 (lv_at hl 4 rfl) ?_
              refine lv_lshl (v := (nSl (nSr (-v0) dd) dd)) hx hb dX12_nearest_61 rfl ?_
              refine lv_lsub hx hb dX12_nearest_62 ?_
              refine lv_lstore (lv' := [(8, .long ((-v0) - (nSl (nSr (-v0) dd) dd))), (6, .long (nSr (-v0) dd)), (0, .long v0), (2, .int b0), (3, .long (-v0)), (5, .int dd)]) hx hb dX12_nearest_63 hl (by decide) rfl (fun ls hl => ?_)
              refine lv_lconst (v := 1) hx hb dX12_nearest_65 (by decide) ?_
              refine lv_iload hx hb dX12_nearest_66 (lv_at hl 5 rfl) ?_
              refine lv_iconst (v := 1) hx hb dX12_nearest_68 (by decide) ?_
              refine lv_isub hx hb dX12_nearest_69 ?_
              refine lv_lshl (v := (nSl 1 (dd - 1))) hx hb dX12_nearest_70 rfl ?_
              refine lv_lstore (lv' := [(10, .long (nSl 1 (dd - 1))), (8, .long ((-v0) - (nSl (nSr (-v0) dd) dd))), (6, .long (nSr (-v0) dd)), (0, .long v0), (2, .int b0), (3, .long (-v0)), (5, .int dd)]) hx hb dX12_nearest_71 hl (by decide) rfl (fun ls hl => ?_)
              refine lv_lload hx hb dX12_nearest_73 (lv_at hl 1 rfl) ?_
              refine lv_lload hx hb dX12_nearest_75 (lv_at hl 0 rfl) ?_
              refine W.lcmp hx hb dX12_nearest_77 ?_
              refine lv_if_gt (tgt := 98) hx hb dX12_nearest_78 (by decide) (fun c_14 => ?_) (fun c_14 => ?_)
              · show _
                refine lv_lload hx hb dX12_nearest_98 (lv_at hl 2 rfl) ?_
                refine lv_lconst (v := 1) hx hb dX12_nearest_100 (by decide) ?_
                refine lv_ladd hx hb dX12_nearest_101 ?_
                refine lv_lstore (lv' := [(6, .long ((nSr (-v0) dd) + 1)), (10, .long (nSl 1 (dd - 1))), (8, .long ((-v0) - (nSl (nSr (-v0) dd) dd))), (0, .long v0), (2, .int b0), (3, .long (-v0)), (5, .int dd)]) hx hb dX12_nearest_102 hl (by decide) rfl (fun ls hl => ?_)
                refine lv_lload hx hb dX12_nearest_104 (lv_at hl 0 rfl) ?_
                refine lv_lconst (v := 1) hx hb dX12_nearest_106 (by decide) ?_
                refine lv_bipush (v := 63) hx hb dX12_nearest_107 (by decide) ?_
                refine lv_iload hx hb dX12_nearest_109 (lv_at hl 6 rfl) ?_
                refine lv_isub hx hb dX12_nearest_111 ?_
                refine lv_lshl (v := (nSl 1 (63 - dd))) hx hb dX12_nearest_112 rfl ?_
                refine W.lcmp hx hb dX12_nearest_113 ?_
                refine lv_if_lt (tgt := 133) hx hb dX12_nearest_114 (by decide) (fun c_15 => ?_) (fun c_15 => ?_)
                · show _
                  refine lv_lload_n hx hb dX12_nearest_133 rfl (lv_at hl 3 rfl) ?_
                  refine lv_lconst (v := 0) hx hb dX12_nearest_134 (by decide) ?_
                  refine W.lcmp hx hb dX12_nearest_135 ?_
                  refine lv_if_ge (tgt := 148) hx hb dX12_nearest_136 (by decide) (fun c9 => absurd c9 c_2) (fun _ => ?_)
                  refine lv_lload hx hb dX12_nearest_139 (lv_at hl 0 rfl) ?_
                  refine lv_iload hx hb dX12_nearest_141 (lv_at hl 6 rfl) ?_
                  refine lv_lshl (v := (nSl ((nSr (-v0) dd) + 1) dd)) hx hb dX12_nearest_143 rfl ?_
                  refine lv_lneg hx hb dX12_nearest_144 ?_
                  refine lv_goto (tgt := 153) hx hb dX12_nearest_145 (by decide) ?_
                  refine cr_l (wo := fun u : Unit => rW g ty Y pa kp ks I tl ac wr tw) (()) hx hb hr hlk hS hP hD ?_ dX12_nearest_153
                  exact ⟨(-(nSl ((nSr (-v0) dd) + 1) dd)), rfl, (by refine Or.inr ⟨c_1, dd, ?_, ?_⟩; (rw [show nAb v0 = (-v0) from if_neg c_2]; exact ⟨n0, n1, c_12, n2⟩); (rw [show nAb v0 = (-v0) from if_neg c_2, nRz, if_neg c_13, show nUp (-v0) dd = nSr (-v0) dd + 1 from if_pos c_14, if_pos c_15, if_neg c_2]))⟩
                · show _
                  refine lv_lload_n hx hb dX12_nearest_117 rfl (lv_at hl 3 rfl) ?_
                  refine lv_lconst (v := 0) hx hb dX12_nearest_118 (by decide) ?_
                  refine W.lcmp hx hb dX12_nearest_119 ?_
                  refine lv_if_ge (tgt := 129) hx hb dX12_nearest_120 (by decide) (fun c9 => absurd c9 c_2) (fun _ => ?_)
                  refine lv_ldc2 (v := (-9223372036854775808)) hx hb hown (hg _ wQ_X12_91) dX12_nearest_123 ?_
                  refine lv_goto (tgt := 132) hx hb dX12_nearest_126 (by decide) ?_
                  refine cr_l (wo := fun u : Unit => rW g ty Y pa kp ks I tl ac wr tw) (()) hx hb hr hlk hS hP hD ?_ dX12_nearest_132
                  exact ⟨(-9223372036854775808), rfl, (by refine Or.inr ⟨c_1, dd, ?_, ?_⟩; (rw [show nAb v0 = (-v0) from if_neg c_2]; exact ⟨n0, n1, c_12, n2⟩); (rw [show nAb v0 = (-v0) from if_neg c_2, nRz, if_neg c_13, show nUp (-v0) dd = nSr (-v0) dd + 1 from if_pos c_14, if_neg c_15, if_neg c_2]))⟩
              · show _
                refine lv_lload hx hb dX12_nearest_81 (lv_at hl 1 rfl) ?_
                refine lv_lload hx hb dX12_nearest_83 (lv_at hl 0 rfl) ?_
                refine W.lcmp hx hb dX12_nearest_85 ?_
                refine lv_if_ne (tgt := 104) hx hb dX12_nearest_86 (by decide) (fun c_16 => ?_) (fun c_16 => ?_)
                · show _
                  refine lv_lload hx hb dX12_nearest_104 (lv_at hl 2 rfl) ?_
                  refine lv_lconst (v := 1) hx hb dX12_nearest_106 (by decide) ?_
                  refine lv_bipush (v := 63) hx hb dX12_nearest_107 (by decide) ?_
                  refine lv_iload hx hb dX12_nearest_109 (lv_at hl 6 rfl) ?_
                  refine lv_isub hx hb dX12_nearest_111 ?_
                  refine lv_lshl (v := (nSl 1 (63 - dd))) hx hb dX12_nearest_112 rfl ?_
                  refine W.lcmp hx hb dX12_nearest_113 ?_
                  refine lv_if_lt (tgt := 133) hx hb dX12_nearest_114 (by decide) (fun c_17 => ?_) (fun c_17 => ?_)
                  · show _
                    refine lv_lload_n hx hb dX12_nearest_133 rfl (lv_at hl 3 rfl) ?_
                    refine lv_lconst (v := 0) hx hb dX12_nearest_134 (by decide) ?_
                    refine W.lcmp hx hb dX12_nearest_135 ?_
                    refine lv_if_ge (tgt := 148) hx hb dX12_nearest_136 (by decide) (fun c9 => absurd c9 c_2) (fun _ => ?_)
                    refine lv_lload hx hb dX12_nearest_139 (lv_at hl 2 rfl) ?_
                    refine lv_iload hx hb dX12_nearest_141 (lv_at hl 6 rfl) ?_
                    refine lv_lshl (v := (nSl (nSr (-v0) dd) dd)) hx hb dX12_nearest_143 rfl ?_
                    refine lv_lneg hx hb dX12_nearest_144 ?_
                    refine lv_goto (tgt := 153) hx hb dX12_nearest_145 (by decide) ?_
                    refine cr_l (wo := fun u : Unit => rW g ty Y pa kp ks I tl ac wr tw) (()) hx hb hr hlk hS hP hD ?_ dX12_nearest_153
                    exact ⟨(-(nSl (nSr (-v0) dd) dd)), rfl, (by refine Or.inr ⟨c_1, dd, ?_, ?_⟩; (rw [show nAb v0 = (-v0) from if_neg c_2]; exact ⟨n0, n1, c_12, n2⟩); (rw [show nAb v0 = (-v0) from if_neg c_2, nRz, if_neg c_13, show nUp (-v0) dd = nSr (-v0) dd from (if_neg c_14).trans (if_neg c_16), if_pos c_17, if_neg c_2]))⟩
                  · show _
                    refine lv_lload_n hx hb dX12_nearest_117 rfl (lv_at hl 3 rfl) ?_
                    refine lv_lconst (v := 0) hx hb dX12_nearest_118 (by decide) ?_
                    refine W.lcmp hx hb dX12_nearest_119 ?_
                    refine lv_if_ge (tgt := 129) hx hb dX12_nearest_120 (by decide) (fun c9 => absurd c9 c_2) (fun _ => ?_)
                    refine lv_ldc2 (v := (-9223372036854775808)) hx hb hown (hg _ wQ_X12_91) dX12_nearest_123 ?_
                    refine lv_goto (tgt := 132) hx hb dX12_nearest_126 (by decide) ?_
                    refine cr_l (wo := fun u : Unit => rW g ty Y pa kp ks I tl ac wr tw) (()) hx hb hr hlk hS hP hD ?_ dX12_nearest_132
                    exact ⟨(-9223372036854775808), rfl, (by refine Or.inr ⟨c_1, dd, ?_, ?_⟩; (rw [show nAb v0 = (-v0) from if_neg c_2]; exact ⟨n0, n1, c_12, n2⟩); (rw [show nAb v0 = (-v0) from if_neg c_2, nRz, if_neg c_13, show nUp (-v0) dd = nSr (-v0) dd from (if_neg c_14).trans (if_neg c_16), if_neg c_17, if_neg c_2]))⟩
                · show _
                  refine lv_lload hx hb dX12_nearest_89 (lv_at hl 2 rfl) ?_
                  refine lv_lconst (v := 1) hx hb dX12_nearest_91 (by decide) ?_
                  refine lv_land hx hb dX12_nearest_92 ?_
                  refine lv_lconst (v := 1) hx hb dX12_nearest_93 (by decide) ?_
                  refine W.lcmp hx hb dX12_nearest_94 ?_
                  refine lv_if_ne (tgt := 104) hx hb dX12_nearest_95 (by decide) (fun c_18 => ?_) (fun c_18 => ?_)
                  · show _
                    refine lv_lload hx hb dX12_nearest_104 (lv_at hl 2 rfl) ?_
                    refine lv_lconst (v := 1) hx hb dX12_nearest_106 (by decide) ?_
                    refine lv_bipush (v := 63) hx hb dX12_nearest_107 (by decide) ?_
                    refine lv_iload hx hb dX12_nearest_109 (lv_at hl 6 rfl) ?_
                    refine lv_isub hx hb dX12_nearest_111 ?_
                    refine lv_lshl (v := (nSl 1 (63 - dd))) hx hb dX12_nearest_112 rfl ?_
                    refine W.lcmp hx hb dX12_nearest_113 ?_
                    refine lv_if_lt (tgt := 133) hx hb dX12_nearest_114 (by decide) (fun c_19 => ?_) (fun c_19 => ?_)
                    · show _
                      refine lv_lload_n hx hb dX12_nearest_133 rfl (lv_at hl 3 rfl) ?_
                      refine lv_lconst (v := 0) hx hb dX12_nearest_134 (by decide) ?_
                      refine W.lcmp hx hb dX12_nearest_135 ?_
                      refine lv_if_ge (tgt := 148) hx hb dX12_nearest_136 (by decide) (fun c9 => absurd c9 c_2) (fun _ => ?_)
                      refine lv_lload hx hb dX12_nearest_139 (lv_at hl 2 rfl) ?_
                      refine lv_iload hx hb dX12_nearest_141 (lv_at hl 6 rfl) ?_
                      refine lv_lshl (v := (nSl (nSr (-v0) dd) dd)) hx hb dX12_nearest_143 rfl ?_
                      refine lv_lneg hx hb dX12_nearest_144 ?_
                      refine lv_goto (tgt := 153) hx hb dX12_nearest_145 (by decide) ?_
                      refine cr_l (wo := fun u : Unit => rW g ty Y pa kp ks I tl ac wr tw) (()) hx hb hr hlk hS hP hD ?_ dX12_nearest_153
                      exact ⟨(-(nSl (nSr (-v0) dd) dd)), rfl, (by refine Or.inr ⟨c_1, dd, ?_, ?_⟩; (rw [show nAb v0 = (-v0) from if_neg c_2]; exact ⟨n0, n1, c_12, n2⟩); (rw [show nAb v0 = (-v0) from if_neg c_2, nRz, if_neg c_13, show nUp (-v0) dd = nSr (-v0) dd from (if_neg c_14).trans ((if_pos c_16).trans (if_neg c_18)), if_pos c_19, if_neg c_2]))⟩
                    · show _
                      refine lv_lload_n hx hb dX12_nearest_117 rfl (lv_at hl 3 rfl) ?_
                      refine lv_lconst (v := 0) hx hb dX12_nearest_118 (by decide) ?_
                      refine W.lcmp hx hb dX12_nearest_119 ?_
                      refine lv_if_ge (tgt := 129) hx hb dX12_nearest_120 (by decide) (fun c9 => absurd c9 c_2) (fun _ => ?_)
                      refine lv_ldc2 (v := (-9223372036854775808)) hx hb hown (hg _ wQ_X12_91) dX12_nearest_123 ?_
                      refine lv_goto (tgt := 132) hx hb dX12_nearest_126 (by decide) ?_
                      refine cr_l (wo := fun u : Unit => rW g ty Y pa kp ks I tl ac wr tw) (()) hx hb hr hlk hS hP hD ?_ dX12_nearest_132
                      exact ⟨(-9223372036854775808), rfl, (by refine Or.inr ⟨c_1, dd, ?_, ?_⟩; (rw [show nAb v0 = (-v0) from if_neg c_2]; exact ⟨n0, n1, c_12, n2⟩); (rw [show nAb v0 = (-v0) from if_neg c_2, nRz, if_neg c_13, show nUp (-v0) dd = nSr (-v0) dd from (if_neg c_14).trans ((if_pos c_16).trans (if_neg c_18)), if_neg c_19, if_neg c_2]))⟩
                  · show _
                    refine lv_lload hx hb dX12_nearest_98 (lv_at hl 2 rfl) ?_
                    refine lv_lconst (v := 1) hx hb dX12_nearest_100 (by decide) ?_
                    refine lv_ladd hx hb dX12_nearest_101 ?_
                    refine lv_lstore (lv' := [(6, .long ((nSr (-v0) dd) + 1)), (10, .long (nSl 1 (dd - 1))), (8, .long ((-v0) - (nSl (nSr (-v0) dd) dd))), (0, .long v0), (2, .int b0), (3, .long (-v0)), (5, .int dd)]) hx hb dX12_nearest_102 hl (by decide) rfl (fun ls hl => ?_)
                    refine lv_lload hx hb dX12_nearest_104 (lv_at hl 0 rfl) ?_
                    refine lv_lconst (v := 1) hx hb dX12_nearest_106 (by decide) ?_
                    refine lv_bipush (v := 63) hx hb dX12_nearest_107 (by decide) ?_
                    refine lv_iload hx hb dX12_nearest_109 (lv_at hl 6 rfl) ?_
                    refine lv_isub hx hb dX12_nearest_111 ?_
                    refine lv_lshl (v := (nSl 1 (63 - dd))) hx hb dX12_nearest_112 rfl ?_
                    refine W.lcmp hx hb dX12_nearest_113 ?_
                    refine lv_if_lt (tgt := 133) hx hb dX12_nearest_114 (by decide) (fun c_20 => ?_) (fun c_20 => ?_)
                    · show _
                      refine lv_lload_n hx hb dX12_nearest_133 rfl (lv_at hl 3 rfl) ?_
                      refine lv_lconst (v := 0) hx hb dX12_nearest_134 (by decide) ?_
                      refine W.lcmp hx hb dX12_nearest_135 ?_
                      refine lv_if_ge (tgt := 148) hx hb dX12_nearest_136 (by decide) (fun c9 => absurd c9 c_2) (fun _ => ?_)
                      refine lv_lload hx hb dX12_nearest_139 (lv_at hl 0 rfl) ?_
                      refine lv_iload hx hb dX12_nearest_141 (lv_at hl 6 rfl) ?_
                      refine lv_lshl (v := (nSl ((nSr (-v0) dd) + 1) dd)) hx hb dX12_nearest_143 rfl ?_
                      refine lv_lneg hx hb dX12_nearest_144 ?_
                      refine lv_goto (tgt := 153) hx hb dX12_nearest_145 (by decide) ?_
                      refine cr_l (wo := fun u : Unit => rW g ty Y pa kp ks I tl ac wr tw) (()) hx hb hr hlk hS hP hD ?_ dX12_nearest_153
                      exact ⟨(-(nSl ((nSr (-v0) dd) + 1) dd)), rfl, (by refine Or.inr ⟨c_1, dd, ?_, ?_⟩; (rw [show nAb v0 = (-v0) from if_neg c_2]; exact ⟨n0, n1, c_12, n2⟩); (rw [show nAb v0 = (-v0) from if_neg c_2, nRz, if_neg c_13, show nUp (-v0) dd = nSr (-v0) dd + 1 from (if_neg c_14).trans ((if_pos c_16).trans (if_pos c_18)), if_pos c_20, if_neg c_2]))⟩
                    · show _
                      refine lv_lload_n hx hb dX12_nearest_117 rfl (lv_at hl 3 rfl) ?_
                      refine lv_lconst (v := 0) hx hb dX12_nearest_118 (by decide) ?_
                      refine W.lcmp hx hb dX12_nearest_119 ?_
                      refine lv_if_ge (tgt := 129) hx hb dX12_nearest_120 (by decide) (fun c9 => absurd c9 c_2) (fun _ => ?_)
                      refine lv_ldc2 (v := (-9223372036854775808)) hx hb hown (hg _ wQ_X12_91) dX12_nearest_123 ?_
                      refine lv_goto (tgt := 132) hx hb dX12_nearest_126 (by decide) ?_
                      refine cr_l (wo := fun u : Unit => rW g ty Y pa kp ks I tl ac wr tw) (()) hx hb hr hlk hS hP hD ?_ dX12_nearest_132
                      exact ⟨(-9223372036854775808), rfl, (by refine Or.inr ⟨c_1, dd, ?_, ?_⟩; (rw [show nAb v0 = (-v0) from if_neg c_2]; exact ⟨n0, n1, c_12, n2⟩); (rw [show nAb v0 = (-v0) from if_neg c_2, nRz, if_neg c_13, show nUp (-v0) dd = nSr (-v0) dd + 1 from (if_neg c_14).trans ((if_pos c_16).trans (if_pos c_18)), if_neg c_20, if_neg c_2]))⟩
            · show _
              refine lv_lload_n hx hb dX12_nearest_48 rfl (lv_at hl 0 rfl) ?_
              refine cr_l (wo := fun u : Unit => rW g ty Y pa kp ks I tl ac wr tw) (()) hx hb hr hlk hS hP hD ?_ dX12_nearest_49
              exact ⟨v0, rfl, (by refine Or.inr ⟨c_1, dd, ?_, ?_⟩; (rw [show nAb v0 = (-v0) from if_neg c_2]; exact ⟨n0, n1, c_12, n2⟩); (rw [nRz, if_pos c_13]))⟩
          · show _
            refine lv_iinc (v := (dd + 1)) (lv' := [(5, .int (dd + 1)), (0, .long v0), (2, .int b0), (3, .long (-v0))]) hx hb dX12_nearest_37 hl (k := 3) rfl rfl (by decide) rfl (fun ls hl => ?_)
            refine lv_goto (tgt := 26) hx hb dX12_nearest_40 (by decide) ?_
            exact IH26 _ (by rw [← hN26]; exact th_dec n0 (nd_40 pre0 n0 n1 (by assumption))) (dd + 1) _ _ _ rfl (by exact k1_nn n0 (nd_40 pre0 n0 n1 (by assumption))) (by exact k1_le (nd_40 pre0 n0 n1 (by assumption))) (by exact nd_pre (by assumption)) hP hD hS (lv_sub hl [1, 2, 3, 0] rfl)
      exact LOOP26 _ 0 _ _ _ rfl (by decide) (by decide) (by exact Or.inl rfl) hP hD hS (lv_sub hl [2, 3, 1, 0] rfl)
  · show _
    refine lv_lload_n hx hb dX12_nearest_8 rfl (lv_at hl 0 rfl) ?_
    refine cr_l (wo := fun u : Unit => rW g ty Y pa kp ks I tl ac wr tw) (()) hx hb hr hlk hS hP hD ?_ dX12_nearest_9
    exact ⟨v0, rfl, (by exact Or.inl ⟨c_1, rfl⟩)⟩

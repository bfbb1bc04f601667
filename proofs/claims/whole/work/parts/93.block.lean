/-! ===== block of the reference ===== -/
theorem i32_le2 {a b : Int32} (h : a ≤ b) : a.toNatClampNeg ≤ b.toNatClampNeg := i32_le h
section BMono
variable {Z : cZ} {e fm fm2 : Int32} {F : ((Nat → Option Nat) × Int64 × Int32 × Int32 × cZ × cQ)} {Y : rY} {pa : Nat → Int32} {I : rI} {tl : Nat → Int32} {ac : Int64} {k wr r : Int32}
theorem bi_mono (h : bInv Z e fm F Y pa I tl ac k) (hf : fm ≤ fm2) : bInv Z e fm2 F Y pa I tl ac k := by
  obtain ⟨pl, P, md, Z1, N, hS, hs, hk, hke, hfu, hm⟩ := h
  exact ⟨pl, P, md, Z1, N, hS, hs, hk, hke, ⟨hfu.1, Int32.le_trans hfu.2 hf⟩, hm⟩
theorem bi_self (h : bInv Z e fm F Y pa I tl ac k) : bInv Z e I.2.2.2.2.1 F Y pa I tl ac k := by
  obtain ⟨pl, P, md, Z1, N, hS, hs, hk, hke, hfu, hm⟩ := h
  exact ⟨pl, P, md, Z1, N, hS, hs, hk, hke, ⟨hfu.1, by rw [hS.2.1.1]; exact Int32.le_refl _⟩, hm⟩
theorem br_mono (h : bRes Z e fm F r Y pa I tl ac wr) (hf : fm ≤ fm2) : bRes Z e fm2 F r Y pa I tl ac wr := by
  rcases h with ⟨h1, h2⟩ | h | ⟨h1, pl, P, md, Zp, f, N, hf7, hwr, hS, hs, hfu, hm⟩
  · exact Or.inl ⟨h1, bi_mono h2 hf⟩
  · exact Or.inr (Or.inl h)
  · exact Or.inr (Or.inr ⟨h1, pl, P, md, Zp, f, N, hf7, hwr, hS, hs, ⟨hfu.1, Int32.le_trans hfu.2 hf⟩, hm⟩)
theorem br_0 (h : bRes Z e fm F r Y pa I tl ac wr) (hr : r = 0) : bInv Z e fm F Y pa I tl ac e := by
  rcases h with ⟨_, h⟩ | ⟨h | h, _⟩ | ⟨h, _⟩
  · exact h
  · exact absurd (hr.symm.trans h) (by decide)
  · exact absurd (hr.symm.trans h) (by decide)
  · exact absurd (hr.symm.trans h) (by decide)
theorem br_3 (h : bRes Z e fm F r Y pa I tl ac wr) (hr : r = 3) : bRes Z e fm F 3 Y pa I tl ac wr := hr ▸ h
theorem br_r (h : bRes Z e fm F 3 Y pa I tl ac wr) (hr : r = 3) : bRes Z e fm F r Y pa I tl ac wr := hr ▸ h
theorem bk_in (h : bInv Z e fm F Y pa I tl ac k) (he : zEnd Z = e) (hk : ¬ e ≤ k) : vp_in k 256 := by
  obtain ⟨b0, b1, b2⟩ := bi_e h he
  refine i32_in b2 ?_
  rw [Int32.le_iff_toInt_le] at hk
  rw [Int32.le_iff_toInt_le, ci_256] at b1
  rw [Int32.le_iff_toInt_le, ci_0] at b2
  show k.toInt.toNat < 256
  omega
theorem bl_two {I' : rI} {Y' : rY} {pa' tl' : Nat → Int32} {ac' : Int64} {k' wr' fm' : Int32} (h : bInv Z e fm F Y pa I tl ac k) (h2 : bRes Z e fm' F r Y' pa' I' tl' ac' wr') (hr : r = 0) (hk : vp_in k' 256) : I'.2.2.1 k'.toNatClampNeg = I.2.2.1 k'.toNatClampNeg := by
  have h1 := bi_pg h _ (i32_inR hk).2
  have h3 := bi_pg (br_0 h2 hr) _ (i32_inR hk).2
  rw [h1.2.2.1, h3.2.2.1]
theorem bl_dec {b b' n r r' : Int32} (h0 : 0 ≤ n) (h2 : ¬ b ≤ n) (hr : r = 0) (hb : r' = 0 → b' = b) : (if r' = 0 then 1 + (b' - (n + 1)).toNatClampNeg else 0) < (if r = 0 then 1 + (b - n).toNatClampNeg else 0) := by
  rw [if_pos hr]
  by_cases h : r' = 0
  · rw [if_pos h, hb h]
    have := (num_1 h0 h2).2.2.2
    omega
  · rw [if_neg h]
    omega
end BMono
theorem fu_le {f : Int32} (h : ¬ f ≤ 0) : f - 1 ≤ f := by
  rw [sub1_eq h]
  have e := down_toInt h
  rw [Int32.le_iff_toInt_le, e]
  omega
def bStat (nb : Nat) : Prop := ∀ (l : Launch) (dC : Nat → ClassId) (dI : Nat → Nat → Nat) (g : Nat → Nat) (ty : Nat → ClassId) (sz tot : Nat) (Y : rY) (pa : Nat → Int32) (kp : Nat → Int32) (ks : Int32) (I : rI) (tl : Nat → Int32) (ac : Int64) (wr : Int32) (tw : Int32) (Z : cZ) (F : ((Nat → Option Nat) × Int64 × Int32 × Int32 × cZ × cQ)) (b0 : Int32) (e0 : Int32) (pre0 : bInv Z e0 I.2.2.2.2.1 F Y pa I tl ac b0) (pre1 : zEnd Z = e0) (pre2 : ¬ mGd F) (pre3 : ks = 0) (pre4 : I.2.2.2.2.1.toNatClampNeg ≤ nb) (pre5 : Z.2.2.2.2.2.2.2.2.2.2.2.toNatClampNeg + I.2.2.2.2.1.toNatClampNeg ≤ 200) (pre6 : rNr), Met l yX12_block (Cond.code yX12_block cX12_block 10 (some .int) :: gT) ({ frames := 5 + nb, cells := 96000 - Y.2.2.2.2.2.2.2.1, slots := 10 * (96000 - Y.2.2.2.2.2.2.2.1) + 2 * (1542237 - Y.2.2.2.2.2.2.2.2.1), locals := 133 + 29 * nb }) (cPg (dC, dI) (rTy ty) (rW g ty Y pa kp ks I tl ac wr tw) sz tot [.ref (g 8), .int b0, .int e0]) (va_Qi (fun (rz : Int32) (u : rY × (Nat → Int32) × (Nat → Int32) × rI × (Nat → Int32) × Int64 × Int32 × Int32) => ∃ (r' : Int32) (Y' : rY) (pa' kp' : Nat → Int32) (I' : rI) (tl' : Nat → Int32) (ac' : Int64) (wr' tw' : Int32), r' = rz ∧ (Y', pa', kp', I', tl', ac', wr', tw') = u ∧ bRes Z e0 I.2.2.2.2.1 F r' Y' pa' I' tl' ac' wr' ∧ ((Y.2.2.2.2.2.2.2.1 ≤ Y'.2.2.2.2.2.2.2.1 ∧ Y.2.2.2.2.2.2.2.2.1 ≤ Y'.2.2.2.2.2.2.2.2.1) ∧ (Y'.2.2.2.2.2.2.2.1 ≤ 96000 ∧ Y'.2.2.2.2.2.2.2.2.1 ≤ 1542237)) ∧ I'.2.2.2.2.2 = I.2.2.2.2.2) (cBg (dC, dI) (fun u : rY × (Nat → Int32) × (Nat → Int32) × rI × (Nat → Int32) × Int64 × Int32 × Int32 => rW g ty u.1 u.2.1 u.2.2.1 ks u.2.2.2.1 u.2.2.2.2.1 u.2.2.2.2.2.1 u.2.2.2.2.2.2.1 u.2.2.2.2.2.2.2) (va_A (rW g ty Y pa kp ks I tl ac wr tw) sz) sz tot (fun u : rY × (Nat → Int32) × (Nat → Int32) × rI × (Nat → Int32) × Int64 × Int32 × Int32 => u.1.2.2.2.2.2.2.2.1 - Y.2.2.2.2.2.2.2.1) (fun u : rY × (Nat → Int32) × (Nat → Int32) × rI × (Nat → Int32) × Int64 × Int32 × Int32 => 10 * (u.1.2.2.2.2.2.2.2.1 - Y.2.2.2.2.2.2.2.1) + 2 * (u.1.2.2.2.2.2.2.2.2.1 - Y.2.2.2.2.2.2.2.2.1))) (va_A (rW g ty Y pa kp ks I tl ac wr tw) sz)) (96000 - Y.2.2.2.2.2.2.2.1) (10 * (96000 - Y.2.2.2.2.2.2.2.1) + 2 * (1542237 - Y.2.2.2.2.2.2.2.2.1)) (va_A (rW g ty Y pa kp ks I tl ac wr tw) sz)
set_option maxHeartbeats 4000000 in
set_option maxRecDepth 100000 in
theorem blk_s (nb : Nat) (IHB : ∀ mb : Nat, mb + 1 = nb → bStat mb) : bStat nb := by
  intro l dC dI g ty sz tot Y pa kp ks I tl ac wr tw Z F b0 e0 pre0 pre1 pre2 pre3 pre4 pre5 pre6
  refine cg_of (Qa := fun A => va_Qi (fun (rz : Int32) (u : rY × (Nat → Int32) × (Nat → Int32) × rI × (Nat → Int32) × Int64 × Int32 × Int32) => ∃ (r' : Int32) (Y' : rY) (pa' kp' : Nat → Int32) (I' : rI) (tl' : Nat → Int32) (ac' : Int64) (wr' tw' : Int32), r' = rz ∧ (Y', pa', kp', I', tl', ac', wr', tw') = u ∧ bRes Z e0 I.2.2.2.2.1 F r' Y' pa' I' tl' ac' wr' ∧ ((Y.2.2.2.2.2.2.2.1 ≤ Y'.2.2.2.2.2.2.2.1 ∧ Y.2.2.2.2.2.2.2.2.1 ≤ Y'.2.2.2.2.2.2.2.2.1) ∧ (Y'.2.2.2.2.2.2.2.1 ≤ 96000 ∧ Y'.2.2.2.2.2.2.2.2.1 ≤ 1542237)) ∧ I'.2.2.2.2.2 = I.2.2.2.2.2) (cBg (dC, dI) (fun u : rY × (Nat → Int32) × (Nat → Int32) × rI × (Nat → Int32) × Int64 × Int32 × Int32 => rW g ty u.1 u.2.1 u.2.2.1 ks u.2.2.2.1 u.2.2.2.2.1 u.2.2.2.2.2.1 u.2.2.2.2.2.2.1 u.2.2.2.2.2.2.2) A sz tot (fun u : rY × (Nat → Int32) × (Nat → Int32) × rI × (Nat → Int32) × Int64 × Int32 × Int32 => u.1.2.2.2.2.2.2.2.1 - Y.2.2.2.2.2.2.2.1) (fun u : rY × (Nat → Int32) × (Nat → Int32) × rI × (Nat → Int32) × Int64 × Int32 × Int32 => 10 * (u.1.2.2.2.2.2.2.2.1 - Y.2.2.2.2.2.2.2.1) + 2 * (u.1.2.2.2.2.2.2.2.2.1 - Y.2.2.2.2.2.2.2.2.1))) A) (by decide) (Nat.le_of_ble_eq_true rfl) ?_
  intro p e s m below meth c A hx hb hr hml hown hg hlk hmn hP hK hD hT hS hA hsz htot ls hl
  have hown : s.vm.findClass RX12 = some m.cls := hown
  have hl : lv_has ls 10 [(0, .ref (g 8)), (1, .int b0), (2, .int e0)] := hl
  refine lv_iload_n hx hb dX12_block_0 rfl (lv_at hl 1 rfl) ?_
  refine lv_istore_n (lv' := [(3, .int b0), (0, .ref (g 8)), (1, .int b0), (2, .int e0)]) hx hb dX12_block_1 rfl hl (by decide) rfl (fun ls hl => ?_)
  have LOOP2 : ∀ (N2 : Nat) (Y1 : rY) (pa1 : Nat → Int32) (kp1 : Nat → Int32) (I1 : rI) (tl1 : Nat → Int32) (ac1 : Int64) (wr1 : Int32) (tw1 : Int32) (k1 : Int32) (H : Heap) (locs : List Loc) (ls : Array Slot), I1.2.2.2.2.1.toNatClampNeg = N2 → (bInv Z e0 I.2.2.2.2.1 F Y1 pa1 I1 tl1 ac1 k1) → ((Y.2.2.2.2.2.2.2.1 ≤ Y1.2.2.2.2.2.2.2.1 ∧ Y.2.2.2.2.2.2.2.2.1 ≤ Y1.2.2.2.2.2.2.2.2.1) ∧ (Y1.2.2.2.2.2.2.2.1 ≤ 96000 ∧ Y1.2.2.2.2.2.2.2.2.1 ≤ 1542237)) → (I1.2.2.2.2.2 = I.2.2.2.2.2) → va_P (dC, dI) vwCl (rW g ty Y1 pa1 kp1 ks I1 tl1 ac1 wr1 tw1) H → va_D A (rW g ty Y1 pa1 kp1 ks I1 tl1 ac1 wr1 tw1) → va_S A s.heap H locs → lv_has ls 10 [(0, .ref (g 8)), (2, .int e0), (3, .int k1)] → W p l e ({ frames := 5 + nb, cells := 96000 - Y.2.2.2.2.2.2.2.1, slots := 10 * (96000 - Y.2.2.2.2.2.2.2.1) + 2 * (1542237 - Y.2.2.2.2.2.2.2.2.1), locals := 133 + 29 * nb }) s m ([.ref (g 8), .int b0, .int e0]).toArray below meth c H locs (Y1.2.2.2.2.2.2.2.1 - Y.2.2.2.2.2.2.2.1) (10 * (Y1.2.2.2.2.2.2.2.1 - Y.2.2.2.2.2.2.2.1) + 2 * (Y1.2.2.2.2.2.2.2.2.1 - Y.2.2.2.2.2.2.2.2.1)) (MQ below (va_Qi (fun (rz : Int32) (u : rY × (Nat → Int32) × (Nat → Int32) × rI × (Nat → Int32) × Int64 × Int32 × Int32) => ∃ (r' : Int32) (Y' : rY) (pa' kp' : Nat → Int32) (I' : rI) (tl' : Nat → Int32) (ac' : Int64) (wr' tw' : Int32), r' = rz ∧ (Y', pa', kp', I', tl', ac', wr', tw') = u ∧ bRes Z e0 I.2.2.2.2.1 F r' Y' pa' I' tl' ac' wr' ∧ ((Y.2.2.2.2.2.2.2.1 ≤ Y'.2.2.2.2.2.2.2.1 ∧ Y.2.2.2.2.2.2.2.2.1 ≤ Y'.2.2.2.2.2.2.2.2.1) ∧ (Y'.2.2.2.2.2.2.2.1 ≤ 96000 ∧ Y'.2.2.2.2.2.2.2.2.1 ≤ 1542237)) ∧ I'.2.2.2.2.2 = I.2.2.2.2.2) (cBg (dC, dI) (fun u : rY × (Nat → Int32) × (Nat → Int32) × rI × (Nat → Int32) × Int64 × Int32 × Int32 => rW g ty u.1 u.2.1 u.2.2.1 ks u.2.2.2.1 u.2.2.2.2.1 u.2.2.2.2.2.1 u.2.2.2.2.2.2.1 u.2.2.2.2.2.2.2) A sz tot (fun u : rY × (Nat → Int32) × (Nat → Int32) × rI × (Nat → Int32) × Int64 × Int32 × Int32 => u.1.2.2.2.2.2.2.2.1 - Y.2.2.2.2.2.2.2.1) (fun u : rY × (Nat → Int32) × (Nat → Int32) × rI × (Nat → Int32) × Int64 × Int32 × Int32 => 10 * (u.1.2.2.2.2.2.2.2.1 - Y.2.2.2.2.2.2.2.1) + 2 * (u.1.2.2.2.2.2.2.2.2.1 - Y.2.2.2.2.2.2.2.2.1))) A) ([.ref (g 8), .int b0, .int e0]).toArray s (96000 - Y.2.2.2.2.2.2.2.1) (10 * (96000 - Y.2.2.2.2.2.2.2.1) + 2 * (1542237 - Y.2.2.2.2.2.2.2.2.1)) A) (F0 m 2 ls []) := by
    intro N2
    induction N2 using Nat.strongRecOn with
    | _ N2 IH2 =>
      intro Y1 pa1 kp1 I1 tl1 ac1 wr1 tw1 k1 H locs ls hN2 j0 j1 j2 hP hD hS hl
      refine lv_iload_n hx hb dX12_block_2 rfl (lv_at hl 2 rfl) ?_
      refine lv_iload_n hx hb dX12_block_3 rfl (lv_at hl 1 rfl) ?_
      refine lv_icmp_ge (tgt := 429) hx hb dX12_block_4 (by decide) (fun c_1 => ?_) (fun c_1 => ?_)
      · show _
        refine lv_iconst (v := 0) hx hb dX12_block_429 (by decide) ?_
        refine W.bound (fun gb1 gb2 => ?_)
        have gb1 : H.size ≤ s.heap.size + (Y1.2.2.2.2.2.2.2.1 - Y.2.2.2.2.2.2.2.1) := gb1
        have gb2 : hsum H ≤ hsum s.heap + (10 * (Y1.2.2.2.2.2.2.2.1 - Y.2.2.2.2.2.2.2.1) + 2 * (Y1.2.2.2.2.2.2.2.2.1 - Y.2.2.2.2.2.2.2.2.1)) := gb2
        refine W.widen (k := 96000 - Y.2.2.2.2.2.2.2.1) (n := 10 * (96000 - Y.2.2.2.2.2.2.2.1) + 2 * (1542237 - Y.2.2.2.2.2.2.2.2.1)) (by show Y1.2.2.2.2.2.2.2.1 - Y.2.2.2.2.2.2.2.1 ≤ 96000 - Y.2.2.2.2.2.2.2.1; omega) (by show 10 * (Y1.2.2.2.2.2.2.2.1 - Y.2.2.2.2.2.2.2.1) + 2 * (Y1.2.2.2.2.2.2.2.2.1 - Y.2.2.2.2.2.2.2.2.1) ≤ 10 * (96000 - Y.2.2.2.2.2.2.2.1) + 2 * (1542237 - Y.2.2.2.2.2.2.2.2.1); omega) ?_
        refine gr_i (wo := fun u : rY × (Nat → Int32) × (Nat → Int32) × rI × (Nat → Int32) × Int64 × Int32 × Int32 => rW g ty u.1 u.2.1 u.2.2.1 ks u.2.2.2.1 u.2.2.2.2.1 u.2.2.2.2.2.1 u.2.2.2.2.2.2.1 u.2.2.2.2.2.2.2) ((Y1, pa1, kp1, I1, tl1, ac1, wr1, tw1)) hx hb hr hlk hS hP hD (by show H.size ≤ sz + (Y1.2.2.2.2.2.2.2.1 - Y.2.2.2.2.2.2.2.1); rw [← hsz]; omega) (by show hsum H ≤ tot + (10 * (Y1.2.2.2.2.2.2.2.1 - Y.2.2.2.2.2.2.2.1) + 2 * (Y1.2.2.2.2.2.2.2.2.1 - Y.2.2.2.2.2.2.2.2.1)); rw [← htot]; omega) ?_ dX12_block_430
        exact ⟨0, Y1, pa1, kp1, I1, tl1, ac1, wr1, tw1, rfl, rfl, (by exact bk_end j0 c_1), (by first | exact j1 | exact l1 | (refine ⟨⟨?_, ?_⟩, ?_, ?_⟩ <;> omega)), (by first | exact l2 | exact j2)⟩
      · show _
        refine lv_aload_n hx hb dX12_block_7 rfl (lv_at hl 0 rfl) ?_
        refine va_get (D := (dC, dI)) (ci := 14) (v := .int I1.2.2.2.2.1) (C := RX12) (T := TX12) (N := 21) hx hb hg inG12 hown hK hP 0 rfl rfl 14 (by decide) (hg _ wF_X12_165) (fun _ h9 => h9) rfl dX12_block_8 ?_
        refine lv_if_ne (tgt := 16) hx hb dX12_block_11 (by decide) (fun c_2 => ?_) (fun c_2 => ?_)
        · show _
          have hgo := bk_go j0 pre1 c_1 c_2 pre2
          have hfd := fu_dn (fu_pos (bi_fu j0).1 c_2)
          have hfl := i32_le2 (bi_fu j0).2
          have hfm : I1.2.2.2.2.1 - 1 ≤ I.2.2.2.2.1 := Int32.le_trans (fu_le (fu_pos (bi_fu j0).1 c_2)) (bi_fu j0).2
          have hk5 := bk_in j0 pre1 c_1
          obtain ⟨mb, hmb⟩ : ∃ mb : Nat, mb + 1 = nb := ⟨nb - 1, by omega⟩
          have hd2 : Z.2.2.2.2.2.2.2.2.2.2.2.toNatClampNeg < 200 := by omega
          refine lv_aload_n hx hb dX12_block_16 rfl (lv_at hl 0 rfl) ?_
          refine lv_dup hx hb dX12_block_17 rfl ?_
          refine va_get (D := (dC, dI)) (ci := 14) (v := .int I1.2.2.2.2.1) (C := RX12) (T := TX12) (N := 21) hx hb hg inG12 hown hK hP 0 rfl rfl 14 (by decide) (hg _ wF_X12_165) (fun _ h9 => h9) rfl dX12_block_18 ?_
          refine lv_iconst (v := 1) hx hb dX12_block_21 (by decide) ?_
          refine lv_isub hx hb dX12_block_22 ?_
          refine va_put (D := (dC, dI)) (ci := 14) (v := .int (I1.2.2.2.2.1 - 1)) (ty := .int) (C := RX12) (T := TX12) (N := 21) hx hb hg inG12 tyX12 tyX12_ok nmX12 hown hK hP hD hS 0 rfl rfl 14 (by decide) (hg _ wF_X12_165) (fun _ h9 => h9) rfl (by decide +kernel) rfl rfl (Nat.le_of_ble_eq_true rfl) dX12_block_23 (fun H locs hP hD hS => ?_)
          have hP : va_P (dC, dI) vwCl (rW g ty Y1 pa1 kp1 ks (I1.1, I1.2.1, I1.2.2.1, I1.2.2.2.1, (I1.2.2.2.2.1 - 1), I1.2.2.2.2.2) tl1 ac1 wr1 tw1) H := hP
          have hD : va_D A (rW g ty Y1 pa1 kp1 ks (I1.1, I1.2.1, I1.2.2.1, I1.2.2.2.1, (I1.2.2.2.2.1 - 1), I1.2.2.2.2.2) tl1 ac1 wr1 tw1) := hD
          refine lv_aload_n hx hb dX12_block_26 rfl (lv_at hl 0 rfl) ?_
          refine va_get (D := (dC, dI)) (ci := 14) (v := .ref (g 10)) (C := RX12) (T := TX12) (N := 21) hx hb hg inG12 hown hK hP 0 rfl rfl 9 (by decide) (hg _ wF_X12_37) (fun _ h9 => h9) rfl dX12_block_27 ?_
          refine lv_iload_n hx hb dX12_block_30 rfl (lv_at hl 2 rfl) ?_
          refine va_iald hx hb hK hP 8 0 rfl rfl (by exact hk5) dX12_block_31 ?_
          refine lv_istore (lv' := [(4, .int (I1.1 k1.toNatClampNeg)), (0, .ref (g 8)), (2, .int e0), (3, .int k1)]) hx hb dX12_block_32 hl (by decide) rfl (fun ls hl => ?_)
          have J80 : ∀ (to9 : Int32) (ls : Array Slot), to9 = rTo e0 (k1 + 1) (I1.2.1 k1.toNatClampNeg) → lv_has ls 10 [(0, .ref (g 8)), (2, .int e0), (3, .int k1), (4, .int (I1.1 k1.toNatClampNeg)), (6, .int (k1 + 1)), (7, .int to9)] → W p l e ({ frames := 5 + nb, cells := 96000 - Y.2.2.2.2.2.2.2.1, slots := 10 * (96000 - Y.2.2.2.2.2.2.2.1) + 2 * (1542237 - Y.2.2.2.2.2.2.2.2.1), locals := 133 + 29 * nb }) s m ([.ref (g 8), .int b0, .int e0]).toArray below meth c H locs (Y1.2.2.2.2.2.2.2.1 - Y.2.2.2.2.2.2.2.1) (10 * (Y1.2.2.2.2.2.2.2.1 - Y.2.2.2.2.2.2.2.1) + 2 * (Y1.2.2.2.2.2.2.2.2.1 - Y.2.2.2.2.2.2.2.2.1)) (MQ below (va_Qi (fun (rz : Int32) (u : rY × (Nat → Int32) × (Nat → Int32) × rI × (Nat → Int32) × Int64 × Int32 × Int32) => ∃ (r' : Int32) (Y' : rY) (pa' kp' : Nat → Int32) (I' : rI) (tl' : Nat → Int32) (ac' : Int64) (wr' tw' : Int32), r' = rz ∧ (Y', pa', kp', I', tl', ac', wr', tw') = u ∧ bRes Z e0 I.2.2.2.2.1 F r' Y' pa' I' tl' ac' wr' ∧ ((Y.2.2.2.2.2.2.2.1 ≤ Y'.2.2.2.2.2.2.2.1 ∧ Y.2.2.2.2.2.2.2.2.1 ≤ Y'.2.2.2.2.2.2.2.2.1) ∧ (Y'.2.2.2.2.2.2.2.1 ≤ 96000 ∧ Y'.2.2.2.2.2.2.2.2.1 ≤ 1542237)) ∧ I'.2.2.2.2.2 = I.2.2.2.2.2) (cBg (dC, dI) (fun u : rY × (Nat → Int32) × (Nat → Int32) × rI × (Nat → Int32) × Int64 × Int32 × Int32 => rW g ty u.1 u.2.1 u.2.2.1 ks u.2.2.2.1 u.2.2.2.2.1 u.2.2.2.2.2.1 u.2.2.2.2.2.2.1 u.2.2.2.2.2.2.2) A sz tot (fun u : rY × (Nat → Int32) × (Nat → Int32) × rI × (Nat → Int32) × Int64 × Int32 × Int32 => u.1.2.2.2.2.2.2.2.1 - Y.2.2.2.2.2.2.2.1) (fun u : rY × (Nat → Int32) × (Nat → Int32) × rI × (Nat → Int32) × Int64 × Int32 × Int32 => 10 * (u.1.2.2.2.2.2.2.2.1 - Y.2.2.2.2.2.2.2.1) + 2 * (u.1.2.2.2.2.2.2.2.2.1 - Y.2.2.2.2.2.2.2.2.1))) A) ([.ref (g 8), .int b0, .int e0]).toArray s (96000 - Y.2.2.2.2.2.2.2.1) (10 * (96000 - Y.2.2.2.2.2.2.2.1) + 2 * (1542237 - Y.2.2.2.2.2.2.2.2.1)) A) (F0 m 80 ls []) := by
            intro to9 ls hto hl
            have hte := (bg_tob hgo pre1 hto).2.1
            refine lv_iload hx hb dX12_block_80 (lv_at hl 3 rfl) ?_
            refine lv_bipush (v := 40) hx hb dX12_block_82 (by decide) ?_
            refine lv_icmp_ne (tgt := 99) hx hb dX12_block_84 (by decide) (fun c_3 => ?_) (fun c_3 => ?_)
            · show _
              refine lv_iload hx hb dX12_block_99 (lv_at hl 3 rfl) ?_
              refine lv_bipush (v := 41) hx hb dX12_block_101 (by decide) ?_
              refine lv_icmp_ne (tgt := 120) hx hb dX12_block_103 (by decide) (fun c_4 => ?_) (fun c_4 => ?_)
              · show _
                refine lv_iload hx hb dX12_block_120 (lv_at hl 3 rfl) ?_
                refine lv_bipush (v := 42) hx hb dX12_block_122 (by decide) ?_
                refine lv_icmp_ne (tgt := 146) hx hb dX12_block_124 (by decide) (fun c_5 => ?_) (fun c_5 => ?_)
                · show _
                  refine lv_iload hx hb dX12_block_146 (lv_at hl 3 rfl) ?_
                  refine lv_bipush (v := 43) hx hb dX12_block_148 (by decide) ?_
                  refine lv_icmp_ne (tgt := 169) hx hb dX12_block_150 (by decide) (fun c_6 => ?_) (fun c_6 => ?_)
                  · show _
                    refine lv_iload hx hb dX12_block_169 (lv_at hl 3 rfl) ?_
                    refine lv_bipush (v := 44) hx hb dX12_block_171 (by decide) ?_
                    refine lv_icmp_ne (tgt := 255) hx hb dX12_block_173 (by decide) (fun c_7 => ?_) (fun c_7 => ?_)
                    · show _
                      refine lv_iload hx hb dX12_block_255 (lv_at hl 3 rfl) ?_
                      refine lv_bipush (v := 45) hx hb dX12_block_257 (by decide) ?_
                      refine lv_icmp_ne (tgt := 372) hx hb dX12_block_259 (by decide) (fun c_8 => ?_) (fun c_8 => ?_)
                      · show _
                        obtain ⟨ρ5, pl5, P5, md5, Z5, r5, u5, q0, q1, q2, q3, q4, q5, hop⟩ := bg_op hgo (w_ctl c_3 c_4 c_5 c_6 c_7 c_8)
                        refine lv_aload_n hx hb dX12_block_372 rfl (lv_at hl 0 rfl) ?_
                        refine lv_iload hx hb dX12_block_373 (lv_at hl 3 rfl) ?_
                        refine lv_aload_n hx hb dX12_block_375 rfl (lv_at hl 0 rfl) ?_
                        refine va_get (D := (dC, dI)) (ci := 14) (v := .ref (g 11)) (C := RX12) (T := TX12) (N := 21) hx hb hg inG12 hown hK hP 0 rfl rfl 10 (by decide) (hg _ wF_X12_40) (fun _ h9 => h9) rfl dX12_block_376 ?_
                        refine lv_iload_n hx hb dX12_block_379 rfl (lv_at hl 2 rfl) ?_
                        refine va_iald hx hb hK hP 9 0 rfl rfl (by exact hk5) dX12_block_380 ?_
                        refine lv_aload_n hx hb dX12_block_381 rfl (lv_at hl 0 rfl) ?_
                        refine va_get (D := (dC, dI)) (ci := 14) (v := .ref (g 12)) (C := RX12) (T := TX12) (N := 21) hx hb hg inG12 hown hK hP 0 rfl rfl 11 (by decide) (hg _ wF_X12_43) (fun _ h9 => h9) rfl dX12_block_382 ?_
                        refine lv_iload_n hx hb dX12_block_385 rfl (lv_at hl 2 rfl) ?_
                        refine va_iald hx hb hK hP 10 0 rfl rfl (by exact hk5) dX12_block_386 ?_
                        refine lv_aload_n hx hb dX12_block_387 rfl (lv_at hl 0 rfl) ?_
                        refine va_get (D := (dC, dI)) (ci := 14) (v := .ref (g 13)) (C := RX12) (T := TX12) (N := 21) hx hb hg inG12 hown hK hP 0 rfl rfl 12 (by decide) (hg _ wF_X12_46) (fun _ h9 => h9) rfl dX12_block_388 ?_
                        refine lv_iload_n hx hb dX12_block_391 rfl (lv_at hl 2 rfl) ?_
                        refine va_iald hx hb hK hP 11 0 rfl rfl (by exact hk5) dX12_block_392 ?_
                        refine gV_l (C := RX12) (n := 4) (rest := []) hx hb hml hown hg hT (c_X12_done l dC dI g ty H.size (hsum H) Y1 pa1 kp1 ks (I1.1, I1.2.1, I1.2.2.1, I1.2.2.2.1, (I1.2.2.2.2.1 - 1), I1.2.2.2.2.2) tl1 ac1 wr1 tw1 ρ5 pl5 P5 md5 Z5 r5 u5 (I1.1 k1.toNatClampNeg) (I1.2.1 k1.toNatClampNeg) (I1.2.2.1 k1.toNatClampNeg) (I1.2.2.2.1 k1.toNatClampNeg) (by exact q0) (by exact q1) (by exact pre3) (by exact q2) (by exact q3) (by exact q4) (by exact q5) (by exact pre6)) (cv_of hg wM_X12_162 wN_X12_done wL_X12_X12_done wK_X12_done wI_X12 (by decide +kernel) ⟨by show 4 + 1 ≤ 5 + nb; omega, by show 8 + (5 + 11) + 109 ≤ 133 + 29 * nb; omega⟩) hK hP hD hS hA (va_recv hK hP (ci := 14) (q0 := 0) rfl rfl) rfl hl.1 rfl (Nat.le_of_ble_eq_true rfl) dX12_block_393 ⟨by show Y1.2.2.2.2.2.2.2.1 - Y.2.2.2.2.2.2.2.1 + (96000 - Y1.2.2.2.2.2.2.2.1) ≤ 96000 - Y.2.2.2.2.2.2.2.1; omega, by show 10 * (Y1.2.2.2.2.2.2.2.1 - Y.2.2.2.2.2.2.2.1) + 2 * (Y1.2.2.2.2.2.2.2.2.1 - Y.2.2.2.2.2.2.2.2.1) + (10 * (96000 - Y1.2.2.2.2.2.2.2.1) + 2 * (1542237 - Y1.2.2.2.2.2.2.2.2.1)) ≤ 10 * (96000 - Y.2.2.2.2.2.2.2.1) + 2 * (1542237 - Y.2.2.2.2.2.2.2.2.1); omega⟩ (fun r_10 u_11 H locs q_9 hP hD hS => ?_)
                        obtain ⟨r'_12, Y'_13, pa'_14, kp'_15, tl'_16, wr'_17, tw'_18, rfl, rfl, f_19⟩ := q_9
                        have hP : va_P (dC, dI) vwCl (rW g ty Y'_13 pa'_14 kp'_15 ks (I1.1, I1.2.1, I1.2.2.1, I1.2.2.2.1, (I1.2.2.2.2.1 - 1), I1.2.2.2.2.2) tl'_16 ac1 wr'_17 tw'_18) H := hP
                        have hD : va_D A (rW g ty Y'_13 pa'_14 kp'_15 ks (I1.1, I1.2.1, I1.2.2.1, I1.2.2.2.1, (I1.2.2.2.2.1 - 1), I1.2.2.2.2.2) tl'_16 ac1 wr'_17 tw'_18) := hD
                        have hra := ra_L f_19
                        refine lv_lstore (lv' := [(8, .long r'_12), (0, .ref (g 8)), (2, .int e0), (3, .int k1), (4, .int (I1.1 k1.toNatClampNeg)), (6, .int (k1 + 1)), (7, .int to9)]) hx hb dX12_block_396 hl (by decide) rfl (fun ls hl => ?_)
                        refine lv_aload_n hx hb dX12_block_398 rfl (lv_at hl 1 rfl) ?_
                        refine va_get (D := (dC, dI)) (ci := 14) (v := .int tw'_18) (C := RX12) (T := TX12) (N := 21) hx hb hg inG12 hown hK hP 0 rfl rfl 20 (by decide) (hg _ wF_X12_101) (fun _ h9 => h9) rfl dX12_block_399 ?_
                        refine lv_if_eq (tgt := 407) hx hb dX12_block_402 (by decide) (fun c_20 => ?_) (fun c_20 => ?_)
                        · show _
                          refine lv_aload_n hx hb dX12_block_407 rfl (lv_at hl 1 rfl) ?_
                          refine lv_lload hx hb dX12_block_408 (lv_at hl 0 rfl) ?_
                          refine va_put (D := (dC, dI)) (ci := 14) (v := .long r'_12) (ty := .long) (C := RX12) (T := TX12) (N := 21) hx hb hg inG12 tyX12 tyX12_ok nmX12 hown hK hP hD hS 0 rfl rfl 13 (by decide) (hg _ wF_X12_143) (fun _ h9 => h9) rfl (by decide +kernel) rfl rfl (Nat.le_of_ble_eq_true rfl) dX12_block_410 (fun H locs hP hD hS => ?_)
                          have hP : va_P (dC, dI) vwCl (rW g ty Y'_13 pa'_14 kp'_15 ks (I1.1, I1.2.1, I1.2.2.1, I1.2.2.2.1, (I1.2.2.2.2.1 - 1), I1.2.2.2.2.2) tl'_16 r'_12 wr'_17 tw'_18) H := hP
                          have hD : va_D A (rW g ty Y'_13 pa'_14 kp'_15 ks (I1.1, I1.2.1, I1.2.2.1, I1.2.2.2.1, (I1.2.2.2.2.1 - 1), I1.2.2.2.2.2) tl'_16 r'_12 wr'_17 tw'_18) := hD
                          refine lv_aload_n hx hb dX12_block_413 rfl (lv_at hl 1 rfl) ?_
                          refine va_get (D := (dC, dI)) (ci := 14) (v := .ref (g 14)) (C := RX12) (T := TX12) (N := 21) hx hb hg inG12 hown hK hP 0 rfl rfl 17 (by decide) (hg _ wF_X12_49) (fun _ h9 => h9) rfl dX12_block_414 ?_
                          refine lv_iconst (v := 0) hx hb dX12_block_417 (by decide) ?_
                          refine lv_dup2_11 hx hb dX12_block_418 rfl rfl ?_
                          refine va_iald hx hb hK hP 12 0 rfl rfl (by exact i32_in (by decide) (by decide)) dX12_block_419 ?_
                          refine lv_iconst (v := 1) hx hb dX12_block_420 (by decide) ?_
                          refine lv_iadd hx hb dX12_block_421 ?_
                          refine va_iast hx hb hK hP hD hS 12 0 rfl rfl (by exact i32_in (by decide) (by decide)) dX12_block_422 (fun H locs hP hD hS => ?_)
                          have hP : va_P (dC, dI) vwCl (rW g ty Y'_13 pa'_14 kp'_15 ks (I1.1, I1.2.1, I1.2.2.1, I1.2.2.2.1, (I1.2.2.2.2.1 - 1), I1.2.2.2.2.2) (upd tl'_16 0 ((tl'_16 0) + 1)) r'_12 wr'_17 tw'_18) H := hP
                          have hD : va_D A (rW g ty Y'_13 pa'_14 kp'_15 ks (I1.1, I1.2.1, I1.2.2.1, I1.2.2.2.1, (I1.2.2.2.2.1 - 1), I1.2.2.2.2.2) (upd tl'_16 0 ((tl'_16 0) + 1)) r'_12 wr'_17 tw'_18) := hD
                          refine lv_iload hx hb dX12_block_423 (lv_at hl 5 rfl) ?_
                          refine lv_istore_n (lv' := [(3, .int (k1 + 1)), (8, .long r'_12), (0, .ref (g 8)), (2, .int e0), (4, .int (I1.1 k1.toNatClampNeg)), (6, .int (k1 + 1)), (7, .int to9)]) hx hb dX12_block_425 rfl hl (by decide) rfl (fun ls hl => ?_)
                          refine lv_goto (tgt := 2) hx hb dX12_block_426 (by decide) ?_
                          have hbk : bInv Z e0 (I1.2.2.2.2.1 - 1) F Y'_13 pa'_14 (I1.1, I1.2.1, I1.2.2.1, I1.2.2.2.1, (I1.2.2.2.2.1 - 1), I1.2.2.2.2.2) (upd tl'_16 0 ((tl'_16 0) + 1)) r'_12 (k1 + 1) := bo_ok hop f_19 c_20
                          have hb9 : (I1.2.2.2.2.1 - 1).toNatClampNeg ≤ (I1.2.2.2.2.1 - 1).toNatClampNeg := i32_le2 (bi_fu hbk).2
                          refine W.widen (k := Y'_13.2.2.2.2.2.2.2.1 - Y.2.2.2.2.2.2.2.1) (n := 10 * (Y'_13.2.2.2.2.2.2.2.1 - Y.2.2.2.2.2.2.2.1) + 2 * (Y'_13.2.2.2.2.2.2.2.2.1 - Y.2.2.2.2.2.2.2.2.1)) (by show Y1.2.2.2.2.2.2.2.1 - Y.2.2.2.2.2.2.2.1 + (Y'_13.2.2.2.2.2.2.2.1 - Y1.2.2.2.2.2.2.2.1) ≤ Y'_13.2.2.2.2.2.2.2.1 - Y.2.2.2.2.2.2.2.1; omega) (by show 10 * (Y1.2.2.2.2.2.2.2.1 - Y.2.2.2.2.2.2.2.1) + 2 * (Y1.2.2.2.2.2.2.2.2.1 - Y.2.2.2.2.2.2.2.2.1) + (10 * (Y'_13.2.2.2.2.2.2.2.1 - Y1.2.2.2.2.2.2.2.1) + 2 * (Y'_13.2.2.2.2.2.2.2.2.1 - Y1.2.2.2.2.2.2.2.2.1)) ≤ 10 * (Y'_13.2.2.2.2.2.2.2.1 - Y.2.2.2.2.2.2.2.1) + 2 * (Y'_13.2.2.2.2.2.2.2.2.1 - Y.2.2.2.2.2.2.2.2.1); omega) ?_
                          exact IH2 _ (by rw [← hN2]; show (I1.2.2.2.2.1 - 1).toNatClampNeg < I1.2.2.2.2.1.toNatClampNeg; omega) Y'_13 pa'_14 kp'_15 (I1.1, I1.2.1, I1.2.2.1, I1.2.2.2.1, (I1.2.2.2.2.1 - 1), I1.2.2.2.2.2) (upd tl'_16 0 ((tl'_16 0) + 1)) r'_12 wr'_17 tw'_18 (k1 + 1) _ _ _ rfl (by exact bi_mono hbk hfm) (by first | exact j1 | exact l1 | (refine ⟨⟨?_, ?_⟩, ?_, ?_⟩ <;> omega)) (by first | exact l2 | exact j2) hP hD hS (lv_sub hl [2, 3, 0] rfl)
                        · show _
                          refine lv_iconst (v := 3) hx hb dX12_block_405 (by decide) ?_
                          refine W.bound (fun gb1 gb2 => ?_)
                          have gb1 : H.size ≤ s.heap.size + (Y1.2.2.2.2.2.2.2.1 - Y.2.2.2.2.2.2.2.1 + (Y'_13.2.2.2.2.2.2.2.1 - Y1.2.2.2.2.2.2.2.1)) := gb1
                          have gb2 : hsum H ≤ hsum s.heap + (10 * (Y1.2.2.2.2.2.2.2.1 - Y.2.2.2.2.2.2.2.1) + 2 * (Y1.2.2.2.2.2.2.2.2.1 - Y.2.2.2.2.2.2.2.2.1) + (10 * (Y'_13.2.2.2.2.2.2.2.1 - Y1.2.2.2.2.2.2.2.1) + 2 * (Y'_13.2.2.2.2.2.2.2.2.1 - Y1.2.2.2.2.2.2.2.2.1))) := gb2
                          refine W.widen (k := 96000 - Y.2.2.2.2.2.2.2.1) (n := 10 * (96000 - Y.2.2.2.2.2.2.2.1) + 2 * (1542237 - Y.2.2.2.2.2.2.2.2.1)) (by show Y1.2.2.2.2.2.2.2.1 - Y.2.2.2.2.2.2.2.1 + (Y'_13.2.2.2.2.2.2.2.1 - Y1.2.2.2.2.2.2.2.1) ≤ 96000 - Y.2.2.2.2.2.2.2.1; omega) (by show 10 * (Y1.2.2.2.2.2.2.2.1 - Y.2.2.2.2.2.2.2.1) + 2 * (Y1.2.2.2.2.2.2.2.2.1 - Y.2.2.2.2.2.2.2.2.1) + (10 * (Y'_13.2.2.2.2.2.2.2.1 - Y1.2.2.2.2.2.2.2.1) + 2 * (Y'_13.2.2.2.2.2.2.2.2.1 - Y1.2.2.2.2.2.2.2.2.1)) ≤ 10 * (96000 - Y.2.2.2.2.2.2.2.1) + 2 * (1542237 - Y.2.2.2.2.2.2.2.2.1); omega) ?_
                          refine gr_i (wo := fun u : rY × (Nat → Int32) × (Nat → Int32) × rI × (Nat → Int32) × Int64 × Int32 × Int32 => rW g ty u.1 u.2.1 u.2.2.1 ks u.2.2.2.1 u.2.2.2.2.1 u.2.2.2.2.2.1 u.2.2.2.2.2.2.1 u.2.2.2.2.2.2.2) ((Y'_13, pa'_14, kp'_15, (I1.1, I1.2.1, I1.2.2.1, I1.2.2.2.1, (I1.2.2.2.2.1 - 1), I1.2.2.2.2.2), tl'_16, ac1, wr'_17, tw'_18)) hx hb hr hlk hS hP hD (by show H.size ≤ sz + (Y'_13.2.2.2.2.2.2.2.1 - Y.2.2.2.2.2.2.2.1); rw [← hsz]; omega) (by show hsum H ≤ tot + (10 * (Y'_13.2.2.2.2.2.2.2.1 - Y.2.2.2.2.2.2.2.1) + 2 * (Y'_13.2.2.2.2.2.2.2.2.1 - Y.2.2.2.2.2.2.2.2.1)); rw [← htot]; omega) ?_ dX12_block_406
                          exact ⟨3, Y'_13, pa'_14, kp'_15, (I1.1, I1.2.1, I1.2.2.1, I1.2.2.2.1, (I1.2.2.2.2.1 - 1), I1.2.2.2.2.2), tl'_16, ac1, wr'_17, tw'_18, rfl, rfl, (by exact br_mono (bo_no hop f_19 c_20) hfm), (by first | exact j1 | exact l1 | (refine ⟨⟨?_, ?_⟩, ?_, ?_⟩ <;> omega)), (by first | exact l2 | exact j2)⟩
                      · show _
                        refine lv_aload_n hx hb dX12_block_262 rfl (lv_at hl 0 rfl) ?_
                        refine va_get (D := (dC, dI)) (ci := 14) (v := .ref (g 12)) (C := RX12) (T := TX12) (N := 21) hx hb hg inG12 hown hK hP 0 rfl rfl 11 (by decide) (hg _ wF_X12_43) (fun _ h9 => h9) rfl dX12_block_263 ?_
                        refine lv_iload_n hx hb dX12_block_266 rfl (lv_at hl 2 rfl) ?_
                        refine va_iald hx hb hK hP 10 0 rfl rfl (by exact hk5) dX12_block_267 ?_
                        refine lv_bipush (v := 7) hx hb dX12_block_268 (by decide) ?_
                        refine lv_iand hx hb dX12_block_270 ?_
                        refine lv_istore (lv' := [(8, .int ((I1.2.2.1 k1.toNatClampNeg) &&& 7)), (0, .ref (g 8)), (2, .int e0), (3, .int k1), (4, .int (I1.1 k1.toNatClampNeg)), (6, .int (k1 + 1)), (7, .int to9)]) hx hb dX12_block_271 hl (by decide) rfl (fun ls hl => ?_)
                        obtain ⟨Zo, hup, hbi⟩ := bg_try hgo pre1 hd2 c_8 hto
                        have hle := (bi_fu hbi).2
                        have hb1 : (I1.2.2.2.2.1 - 1).toNatClampNeg ≤ (I1.2.2.2.2.1 - 1).toNatClampNeg := i32_le2 hle
                        have hb2 := hup.2.1.2
                        refine lv_aload_n hx hb dX12_block_273 rfl (lv_at hl 1 rfl) ?_
                        refine lv_iload hx hb dX12_block_274 (lv_at hl 5 rfl) ?_
                        refine lv_iload hx hb dX12_block_276 (lv_at hl 6 rfl) ?_
                        refine gV_i (C := RX12) (n := 2) (rest := []) hx hb hml hown hg hT (IHB mb hmb l dC dI g ty H.size (hsum H) Y1 pa1 kp1 ks (I1.1, I1.2.1, I1.2.2.1, I1.2.2.2.1, (I1.2.2.2.2.1 - 1), I1.2.2.2.2.2) tl1 ac1 wr1 tw1 Zo F (k1 + 1) to9 (by exact bi_self hbi) (by exact up_end hup) (by exact pre2) (by exact pre3) (by show (I1.2.2.2.2.1 - 1).toNatClampNeg ≤ mb; omega) (by show Zo.2.2.2.2.2.2.2.2.2.2.2.toNatClampNeg + (I1.2.2.2.2.1 - 1).toNatClampNeg ≤ 200; omega) (by exact pre6)) (cv_of hg wM_X12_168 wN_X12_block wL_X12_X12_block wK_X12_block wI_X12 (by decide +kernel) ⟨by show 5 + mb + 1 ≤ 5 + nb; omega, by show 8 + (10 + 11) + (133 + 29 * mb) ≤ 133 + 29 * nb; omega⟩) hK hP hD hS hA (va_recv hK hP (ci := 14) (q0 := 0) rfl rfl) rfl hl.1 rfl (Nat.le_of_ble_eq_true rfl) dX12_block_278 ⟨by show Y1.2.2.2.2.2.2.2.1 - Y.2.2.2.2.2.2.2.1 + (96000 - Y1.2.2.2.2.2.2.2.1) ≤ 96000 - Y.2.2.2.2.2.2.2.1; omega, by show 10 * (Y1.2.2.2.2.2.2.2.1 - Y.2.2.2.2.2.2.2.1) + 2 * (Y1.2.2.2.2.2.2.2.2.1 - Y.2.2.2.2.2.2.2.2.1) + (10 * (96000 - Y1.2.2.2.2.2.2.2.1) + 2 * (1542237 - Y1.2.2.2.2.2.2.2.2.1)) ≤ 10 * (96000 - Y.2.2.2.2.2.2.2.1) + 2 * (1542237 - Y.2.2.2.2.2.2.2.2.1); omega⟩ (fun r_22 u_23 H locs q_21 hP hD hS => ?_)
                        obtain ⟨r'_24, Y'_25, pa'_26, kp'_27, I'_28, tl'_29, ac'_30, wr'_31, tw'_32, rfl, rfl, f_33, f_34, f_35⟩ := q_21
                        have hP : va_P (dC, dI) vwCl (rW g ty Y'_25 pa'_26 kp'_27 ks I'_28 tl'_29 ac'_30 wr'_31 tw'_32) H := hP
                        have hD : va_D A (rW g ty Y'_25 pa'_26 kp'_27 ks I'_28 tl'_29 ac'_30 wr'_31 tw'_32) := hD
                        refine lv_istore (lv' := [(9, .int r'_24), (8, .int ((I1.2.2.1 k1.toNatClampNeg) &&& 7)), (0, .ref (g 8)), (2, .int e0), (3, .int k1), (4, .int (I1.1 k1.toNatClampNeg)), (6, .int (k1 + 1)), (7, .int to9)]) hx hb dX12_block_281 hl (by decide) rfl (fun ls hl => ?_)
                        refine lv_iload hx hb dX12_block_283 (lv_at hl 1 rfl) ?_
                        refine lv_bipush (v := 6) hx hb dX12_block_285 (by decide) ?_
                        refine lv_icmp_ne (tgt := 300) hx hb dX12_block_287 (by decide) (fun c_36 => ?_) (fun c_36 => ?_)
                        · show _
                          refine lv_iload hx hb dX12_block_300 (lv_at hl 0 rfl) ?_
                          refine lv_iconst (v := 3) hx hb dX12_block_302 (by decide) ?_
                          refine lv_icmp_ne (tgt := 347) hx hb dX12_block_303 (by decide) (fun c_37 => ?_) (fun c_37 => ?_)
                          · show _
                            refine lv_iload hx hb dX12_block_347 (lv_at hl 0 rfl) ?_
                            refine lv_if_eq (tgt := 365) hx hb dX12_block_349 (by decide) (fun c_38 => ?_) (fun c_38 => ?_)
                            · show _
                              refine lv_iload hx hb dX12_block_365 (lv_at hl 7 rfl) ?_
                              refine lv_istore (lv' := [(6, .int to9), (9, .int r'_24), (8, .int ((I1.2.2.1 k1.toNatClampNeg) &&& 7)), (0, .ref (g 8)), (2, .int e0), (3, .int k1), (4, .int (I1.1 k1.toNatClampNeg)), (7, .int to9)]) hx hb dX12_block_367 hl (by decide) rfl (fun ls hl => ?_)
                              refine lv_goto (tgt := 413) hx hb dX12_block_369 (by decide) ?_
                              refine lv_aload_n hx hb dX12_block_413 rfl (lv_at hl 3 rfl) ?_
                              refine va_get (D := (dC, dI)) (ci := 14) (v := .ref (g 14)) (C := RX12) (T := TX12) (N := 21) hx hb hg inG12 hown hK hP 0 rfl rfl 17 (by decide) (hg _ wF_X12_49) (fun _ h9 => h9) rfl dX12_block_414 ?_
                              refine lv_iconst (v := 0) hx hb dX12_block_417 (by decide) ?_
                              refine lv_dup2_11 hx hb dX12_block_418 rfl rfl ?_
                              refine va_iald hx hb hK hP 12 0 rfl rfl (by exact i32_in (by decide) (by decide)) dX12_block_419 ?_
                              refine lv_iconst (v := 1) hx hb dX12_block_420 (by decide) ?_
                              refine lv_iadd hx hb dX12_block_421 ?_
                              refine va_iast hx hb hK hP hD hS 12 0 rfl rfl (by exact i32_in (by decide) (by decide)) dX12_block_422 (fun H locs hP hD hS => ?_)
                              have hP : va_P (dC, dI) vwCl (rW g ty Y'_25 pa'_26 kp'_27 ks I'_28 (upd tl'_29 0 ((tl'_29 0) + 1)) ac'_30 wr'_31 tw'_32) H := hP
                              have hD : va_D A (rW g ty Y'_25 pa'_26 kp'_27 ks I'_28 (upd tl'_29 0 ((tl'_29 0) + 1)) ac'_30 wr'_31 tw'_32) := hD
                              refine lv_iload hx hb dX12_block_423 (lv_at hl 0 rfl) ?_
                              refine lv_istore_n (lv' := [(3, .int to9), (6, .int to9), (9, .int r'_24), (8, .int ((I1.2.2.1 k1.toNatClampNeg) &&& 7)), (0, .ref (g 8)), (2, .int e0), (4, .int (I1.1 k1.toNatClampNeg)), (7, .int to9)]) hx hb dX12_block_425 rfl hl (by decide) rfl (fun ls hl => ?_)
                              refine lv_goto (tgt := 2) hx hb dX12_block_426 (by decide) ?_
                              have hbk : bInv Z e0 (I1.2.2.2.2.1 - 1) F Y'_25 pa'_26 I'_28 (upd tl'_29 0 ((tl'_29 0) + 1)) ac'_30 to9 := bi_close hup (br_0 (br_mono f_33 hle) c_38) (by decide) hte (Or.inr ⟨c_36, rfl⟩)
                              have hb9 : I'_28.2.2.2.2.1.toNatClampNeg ≤ (I1.2.2.2.2.1 - 1).toNatClampNeg := i32_le2 (bi_fu hbk).2
                              refine W.widen (k := Y'_25.2.2.2.2.2.2.2.1 - Y.2.2.2.2.2.2.2.1) (n := 10 * (Y'_25.2.2.2.2.2.2.2.1 - Y.2.2.2.2.2.2.2.1) + 2 * (Y'_25.2.2.2.2.2.2.2.2.1 - Y.2.2.2.2.2.2.2.2.1)) (by show Y1.2.2.2.2.2.2.2.1 - Y.2.2.2.2.2.2.2.1 + (Y'_25.2.2.2.2.2.2.2.1 - Y1.2.2.2.2.2.2.2.1) ≤ Y'_25.2.2.2.2.2.2.2.1 - Y.2.2.2.2.2.2.2.1; omega) (by show 10 * (Y1.2.2.2.2.2.2.2.1 - Y.2.2.2.2.2.2.2.1) + 2 * (Y1.2.2.2.2.2.2.2.2.1 - Y.2.2.2.2.2.2.2.2.1) + (10 * (Y'_25.2.2.2.2.2.2.2.1 - Y1.2.2.2.2.2.2.2.1) + 2 * (Y'_25.2.2.2.2.2.2.2.2.1 - Y1.2.2.2.2.2.2.2.2.1)) ≤ 10 * (Y'_25.2.2.2.2.2.2.2.1 - Y.2.2.2.2.2.2.2.1) + 2 * (Y'_25.2.2.2.2.2.2.2.2.1 - Y.2.2.2.2.2.2.2.2.1); omega) ?_
                              exact IH2 _ (by rw [← hN2]; show I'_28.2.2.2.2.1.toNatClampNeg < I1.2.2.2.2.1.toNatClampNeg; omega) Y'_25 pa'_26 kp'_27 I'_28 (upd tl'_29 0 ((tl'_29 0) + 1)) ac'_30 wr'_31 tw'_32 to9 _ _ _ rfl (by exact bi_mono hbk hfm) (by first | exact j1 | exact l1 | (refine ⟨⟨?_, ?_⟩, ?_, ?_⟩ <;> omega)) (by first | exact l2 | exact j2 | exact Eq.trans f_35 j2 | exact Eq.trans f_35 l2) hP hD hS (lv_sub hl [4, 5, 0] rfl)
                            · show _
                              refine lv_aload_n hx hb dX12_block_352 rfl (lv_at hl 2 rfl) ?_
                              refine va_get (D := (dC, dI)) (ci := 14) (v := .ref (g 14)) (C := RX12) (T := TX12) (N := 21) hx hb hg inG12 hown hK hP 0 rfl rfl 17 (by decide) (hg _ wF_X12_49) (fun _ h9 => h9) rfl dX12_block_353 ?_
                              refine lv_iconst (v := 0) hx hb dX12_block_356 (by decide) ?_
                              refine lv_dup2_11 hx hb dX12_block_357 rfl rfl ?_
                              refine va_iald hx hb hK hP 12 0 rfl rfl (by exact i32_in (by decide) (by decide)) dX12_block_358 ?_
                              refine lv_iconst (v := 1) hx hb dX12_block_359 (by decide) ?_
                              refine lv_iadd hx hb dX12_block_360 ?_
                              refine va_iast hx hb hK hP hD hS 12 0 rfl rfl (by exact i32_in (by decide) (by decide)) dX12_block_361 (fun H locs hP hD hS => ?_)
                              have hP : va_P (dC, dI) vwCl (rW g ty Y'_25 pa'_26 kp'_27 ks I'_28 (upd tl'_29 0 ((tl'_29 0) + 1)) ac'_30 wr'_31 tw'_32) H := hP
                              have hD : va_D A (rW g ty Y'_25 pa'_26 kp'_27 ks I'_28 (upd tl'_29 0 ((tl'_29 0) + 1)) ac'_30 wr'_31 tw'_32) := hD
                              refine lv_iload hx hb dX12_block_362 (lv_at hl 0 rfl) ?_
                              refine W.bound (fun gb1 gb2 => ?_)
                              have gb1 : H.size ≤ s.heap.size + (Y1.2.2.2.2.2.2.2.1 - Y.2.2.2.2.2.2.2.1 + (Y'_25.2.2.2.2.2.2.2.1 - Y1.2.2.2.2.2.2.2.1)) := gb1
                              have gb2 : hsum H ≤ hsum s.heap + (10 * (Y1.2.2.2.2.2.2.2.1 - Y.2.2.2.2.2.2.2.1) + 2 * (Y1.2.2.2.2.2.2.2.2.1 - Y.2.2.2.2.2.2.2.2.1) + (10 * (Y'_25.2.2.2.2.2.2.2.1 - Y1.2.2.2.2.2.2.2.1) + 2 * (Y'_25.2.2.2.2.2.2.2.2.1 - Y1.2.2.2.2.2.2.2.2.1))) := gb2
                              refine W.widen (k := 96000 - Y.2.2.2.2.2.2.2.1) (n := 10 * (96000 - Y.2.2.2.2.2.2.2.1) + 2 * (1542237 - Y.2.2.2.2.2.2.2.2.1)) (by show Y1.2.2.2.2.2.2.2.1 - Y.2.2.2.2.2.2.2.1 + (Y'_25.2.2.2.2.2.2.2.1 - Y1.2.2.2.2.2.2.2.1) ≤ 96000 - Y.2.2.2.2.2.2.2.1; omega) (by show 10 * (Y1.2.2.2.2.2.2.2.1 - Y.2.2.2.2.2.2.2.1) + 2 * (Y1.2.2.2.2.2.2.2.2.1 - Y.2.2.2.2.2.2.2.2.1) + (10 * (Y'_25.2.2.2.2.2.2.2.1 - Y1.2.2.2.2.2.2.2.1) + 2 * (Y'_25.2.2.2.2.2.2.2.2.1 - Y1.2.2.2.2.2.2.2.2.1)) ≤ 10 * (96000 - Y.2.2.2.2.2.2.2.1) + 2 * (1542237 - Y.2.2.2.2.2.2.2.2.1); omega) ?_
                              refine gr_i (wo := fun u : rY × (Nat → Int32) × (Nat → Int32) × rI × (Nat → Int32) × Int64 × Int32 × Int32 => rW g ty u.1 u.2.1 u.2.2.1 ks u.2.2.2.1 u.2.2.2.2.1 u.2.2.2.2.2.1 u.2.2.2.2.2.2.1 u.2.2.2.2.2.2.2) ((Y'_25, pa'_26, kp'_27, I'_28, (upd tl'_29 0 ((tl'_29 0) + 1)), ac'_30, wr'_31, tw'_32)) hx hb hr hlk hS hP hD (by show H.size ≤ sz + (Y'_25.2.2.2.2.2.2.2.1 - Y.2.2.2.2.2.2.2.1); rw [← hsz]; omega) (by show hsum H ≤ tot + (10 * (Y'_25.2.2.2.2.2.2.2.1 - Y.2.2.2.2.2.2.2.1) + 2 * (Y'_25.2.2.2.2.2.2.2.2.1 - Y.2.2.2.2.2.2.2.2.1)); rw [← htot]; omega) ?_ dX12_block_364
                              exact ⟨r'_24, Y'_25, pa'_26, kp'_27, I'_28, (upd tl'_29 0 ((tl'_29 0) + 1)), ac'_30, wr'_31, tw'_32, rfl, rfl, (by exact br_mono (bt_12 hup (br_mono f_33 hle) c_38 c_37 (Or.inr ⟨c_36, rfl⟩)) hfm), (by first | exact j1 | exact l1 | (refine ⟨⟨?_, ?_⟩, ?_, ?_⟩ <;> omega)), (by first | exact l2 | exact j2 | exact Eq.trans f_35 j2 | exact Eq.trans f_35 l2)⟩
                          · show _
                            refine lv_iload hx hb dX12_block_306 (lv_at hl 1 rfl) ?_
                            refine lv_aload_n hx hb dX12_block_308 rfl (lv_at hl 2 rfl) ?_
                            refine va_get (D := (dC, dI)) (ci := 14) (v := .int wr'_31) (C := RX12) (T := TX12) (N := 21) hx hb hg inG12 hown hK hP 0 rfl rfl 16 (by decide) (hg _ wF_X12_76) (fun _ h9 => h9) rfl dX12_block_309 ?_
                            refine cS_i (n := 2) (rest := []) hx hb hml hown hg hT (c_X12_takes l dC dI g ty H.size Y'_25 pa'_26 kp'_27 ks I'_28 tl'_29 ac'_30 wr'_31 tw'_32 ((I1.2.2.1 k1.toNatClampNeg) &&& 7) wr'_31 ) (cb_of hg wM_X12_171 wK_X12_takes wI_X12 (by decide +kernel) ⟨by show 0 + 1 ≤ 5 + nb; omega, by show 8 + (2 + 11) + 0 ≤ 133 + 29 * nb; omega⟩) wS_X12_takes hK hP hD hS hA rfl hl.1 rfl (Nat.le_of_ble_eq_true rfl) dX12_block_312 ⟨by show Y1.2.2.2.2.2.2.2.1 - Y.2.2.2.2.2.2.2.1 + (Y'_25.2.2.2.2.2.2.2.1 - Y1.2.2.2.2.2.2.2.1) + 0 ≤ 96000 - Y.2.2.2.2.2.2.2.1; omega, by show 10 * (Y1.2.2.2.2.2.2.2.1 - Y.2.2.2.2.2.2.2.1) + 2 * (Y1.2.2.2.2.2.2.2.2.1 - Y.2.2.2.2.2.2.2.2.1) + (10 * (Y'_25.2.2.2.2.2.2.2.1 - Y1.2.2.2.2.2.2.2.1) + 2 * (Y'_25.2.2.2.2.2.2.2.2.1 - Y1.2.2.2.2.2.2.2.2.1)) + 0 ≤ 10 * (96000 - Y.2.2.2.2.2.2.2.1) + 2 * (1542237 - Y.2.2.2.2.2.2.2.2.1); omega⟩ (fun r_40 u_41 H locs q_39 hP hD hS => ?_)
                            obtain rfl := q_39
                            have hP : va_P (dC, dI) vwCl (rW g ty Y'_25 pa'_26 kp'_27 ks I'_28 tl'_29 ac'_30 wr'_31 tw'_32) H := hP
                            have hD : va_D A (rW g ty Y'_25 pa'_26 kp'_27 ks I'_28 tl'_29 ac'_30 wr'_31 tw'_32) := hD
                            refine lv_if_ne (tgt := 321) hx hb dX12_block_315 (by decide) (fun c_42 => ?_) (fun c_42 => ?_)
                            · show _
                              refine lv_aload_n hx hb dX12_block_321 rfl (lv_at hl 2 rfl) ?_
                              refine va_get (D := (dC, dI)) (ci := 14) (v := .ref (g 14)) (C := RX12) (T := TX12) (N := 21) hx hb hg inG12 hown hK hP 0 rfl rfl 17 (by decide) (hg _ wF_X12_49) (fun _ h9 => h9) rfl dX12_block_322 ?_
                              refine lv_iconst (v := 1) hx hb dX12_block_325 (by decide) ?_
                              refine lv_dup2_11 hx hb dX12_block_326 rfl rfl ?_
                              refine va_iald hx hb hK hP 12 0 rfl rfl (by exact i32_in (by decide) (by decide)) dX12_block_327 ?_
                              refine lv_iconst (v := 1) hx hb dX12_block_328 (by decide) ?_
                              refine lv_iadd hx hb dX12_block_329 ?_
                              refine va_iast hx hb hK hP hD hS 12 0 rfl rfl (by exact i32_in (by decide) (by decide)) dX12_block_330 (fun H locs hP hD hS => ?_)
                              have hP : va_P (dC, dI) vwCl (rW g ty Y'_25 pa'_26 kp'_27 ks I'_28 (upd tl'_29 1 ((tl'_29 1) + 1)) ac'_30 wr'_31 tw'_32) H := hP
                              have hD : va_D A (rW g ty Y'_25 pa'_26 kp'_27 ks I'_28 (upd tl'_29 1 ((tl'_29 1) + 1)) ac'_30 wr'_31 tw'_32) := hD
                              refine lv_aload_n hx hb dX12_block_331 rfl (lv_at hl 2 rfl) ?_
                              refine lv_ldc2 (v := (-1)) hx hb hown (hg _ wQ_X12_105) dX12_block_332 ?_
                              refine lv_aload_n hx hb dX12_block_335 rfl (lv_at hl 2 rfl) ?_
                              refine va_get (D := (dC, dI)) (ci := 14) (v := .int wr'_31) (C := RX12) (T := TX12) (N := 21) hx hb hg inG12 hown hK hP 0 rfl rfl 16 (by decide) (hg _ wF_X12_76) (fun _ h9 => h9) rfl dX12_block_336 ?_
                              refine lv_i2l (v := (wr'_31.toInt64)) hx hb dX12_block_339 rfl ?_
                              refine lv_lsub hx hb dX12_block_340 ?_
                              refine va_put (D := (dC, dI)) (ci := 14) (v := .long ((-1) - (wr'_31.toInt64))) (ty := .long) (C := RX12) (T := TX12) (N := 21) hx hb hg inG12 tyX12 tyX12_ok nmX12 hown hK hP hD hS 0 rfl rfl 13 (by decide) (hg _ wF_X12_143) (fun _ h9 => h9) rfl (by decide +kernel) rfl rfl (Nat.le_of_ble_eq_true rfl) dX12_block_341 (fun H locs hP hD hS => ?_)
                              have hP : va_P (dC, dI) vwCl (rW g ty Y'_25 pa'_26 kp'_27 ks I'_28 (upd tl'_29 1 ((tl'_29 1) + 1)) ((-1) - (wr'_31.toInt64)) wr'_31 tw'_32) H := hP
                              have hD : va_D A (rW g ty Y'_25 pa'_26 kp'_27 ks I'_28 (upd tl'_29 1 ((tl'_29 1) + 1)) ((-1) - (wr'_31.toInt64)) wr'_31 tw'_32) := hD
                              refine lv_iconst (v := 0) hx hb dX12_block_344 (by decide) ?_
                              refine lv_istore (lv' := [(9, .int 0), (8, .int ((I1.2.2.1 k1.toNatClampNeg) &&& 7)), (0, .ref (g 8)), (2, .int e0), (3, .int k1), (4, .int (I1.1 k1.toNatClampNeg)), (6, .int (k1 + 1)), (7, .int to9)]) hx hb dX12_block_345 hl (by decide) rfl (fun ls hl => ?_)
                              refine lv_iload hx hb dX12_block_347 (lv_at hl 0 rfl) ?_
                              refine lv_if_eq (tgt := 365) hx hb dX12_block_349 (by decide) (fun _ => ?_) (fun c9 => absurd (by decide) c9) 
                              refine lv_iload hx hb dX12_block_365 (lv_at hl 7 rfl) ?_
                              refine lv_istore (lv' := [(6, .int to9), (9, .int 0), (8, .int ((I1.2.2.1 k1.toNatClampNeg) &&& 7)), (0, .ref (g 8)), (2, .int e0), (3, .int k1), (4, .int (I1.1 k1.toNatClampNeg)), (7, .int to9)]) hx hb dX12_block_367 hl (by decide) rfl (fun ls hl => ?_)
                              refine lv_goto (tgt := 413) hx hb dX12_block_369 (by decide) ?_
                              refine lv_aload_n hx hb dX12_block_413 rfl (lv_at hl 3 rfl) ?_
                              refine va_get (D := (dC, dI)) (ci := 14) (v := .ref (g 14)) (C := RX12) (T := TX12) (N := 21) hx hb hg inG12 hown hK hP 0 rfl rfl 17 (by decide) (hg _ wF_X12_49) (fun _ h9 => h9) rfl dX12_block_414 ?_
                              refine lv_iconst (v := 0) hx hb dX12_block_417 (by decide) ?_
                              refine lv_dup2_11 hx hb dX12_block_418 rfl rfl ?_
                              refine va_iald hx hb hK hP 12 0 rfl rfl (by exact i32_in (by decide) (by decide)) dX12_block_419 ?_
                              refine lv_iconst (v := 1) hx hb dX12_block_420 (by decide) ?_
                              refine lv_iadd hx hb dX12_block_421 ?_
                              refine va_iast hx hb hK hP hD hS 12 0 rfl rfl (by exact i32_in (by decide) (by decide)) dX12_block_422 (fun H locs hP hD hS => ?_)
                              have hP : va_P (dC, dI) vwCl (rW g ty Y'_25 pa'_26 kp'_27 ks I'_28 (upd (upd tl'_29 1 ((tl'_29 1) + 1)) 0 (((upd tl'_29 1 ((tl'_29 1) + 1)) 0) + 1)) ((-1) - (wr'_31.toInt64)) wr'_31 tw'_32) H := hP
                              have hD : va_D A (rW g ty Y'_25 pa'_26 kp'_27 ks I'_28 (upd (upd tl'_29 1 ((tl'_29 1) + 1)) 0 (((upd tl'_29 1 ((tl'_29 1) + 1)) 0) + 1)) ((-1) - (wr'_31.toInt64)) wr'_31 tw'_32) := hD
                              refine lv_iload hx hb dX12_block_423 (lv_at hl 0 rfl) ?_
                              refine lv_istore_n (lv' := [(3, .int to9), (6, .int to9), (9, .int 0), (8, .int ((I1.2.2.1 k1.toNatClampNeg) &&& 7)), (0, .ref (g 8)), (2, .int e0), (4, .int (I1.1 k1.toNatClampNeg)), (7, .int to9)]) hx hb dX12_block_425 rfl hl (by decide) rfl (fun ls hl => ?_)
                              refine lv_goto (tgt := 2) hx hb dX12_block_426 (by decide) ?_
                              have hbk : bInv Z e0 (I1.2.2.2.2.1 - 1) F Y'_25 pa'_26 I'_28 (upd (upd tl'_29 1 ((tl'_29 1) + 1)) 0 (((upd tl'_29 1 ((tl'_29 1) + 1)) 0) + 1)) ((-1) - (wr'_31.toInt64)) to9 := bt_3t hup (br_3 (br_mono f_33 hle) c_37) (tk_1 c_42) hte (Or.inr ⟨c_36, rfl⟩)
                              have hb9 : I'_28.2.2.2.2.1.toNatClampNeg ≤ (I1.2.2.2.2.1 - 1).toNatClampNeg := i32_le2 (bi_fu hbk).2
                              refine W.widen (k := Y'_25.2.2.2.2.2.2.2.1 - Y.2.2.2.2.2.2.2.1) (n := 10 * (Y'_25.2.2.2.2.2.2.2.1 - Y.2.2.2.2.2.2.2.1) + 2 * (Y'_25.2.2.2.2.2.2.2.2.1 - Y.2.2.2.2.2.2.2.2.1)) (by show Y1.2.2.2.2.2.2.2.1 - Y.2.2.2.2.2.2.2.1 + (Y'_25.2.2.2.2.2.2.2.1 - Y1.2.2.2.2.2.2.2.1) + 0 ≤ Y'_25.2.2.2.2.2.2.2.1 - Y.2.2.2.2.2.2.2.1; omega) (by show 10 * (Y1.2.2.2.2.2.2.2.1 - Y.2.2.2.2.2.2.2.1) + 2 * (Y1.2.2.2.2.2.2.2.2.1 - Y.2.2.2.2.2.2.2.2.1) + (10 * (Y'_25.2.2.2.2.2.2.2.1 - Y1.2.2.2.2.2.2.2.1) + 2 * (Y'_25.2.2.2.2.2.2.2.2.1 - Y1.2.2.2.2.2.2.2.2.1)) + 0 ≤ 10 * (Y'_25.2.2.2.2.2.2.2.1 - Y.2.2.2.2.2.2.2.1) + 2 * (Y'_25.2.2.2.2.2.2.2.2.1 - Y.2.2.2.2.2.2.2.2.1); omega) ?_
                              exact IH2 _ (by rw [← hN2]; show I'_28.2.2.2.2.1.toNatClampNeg < I1.2.2.2.2.1.toNatClampNeg; omega) Y'_25 pa'_26 kp'_27 I'_28 (upd (upd tl'_29 1 ((tl'_29 1) + 1)) 0 (((upd tl'_29 1 ((tl'_29 1) + 1)) 0) + 1)) ((-1) - (wr'_31.toInt64)) wr'_31 tw'_32 to9 _ _ _ rfl (by exact bi_mono hbk hfm) (by first | exact j1 | exact l1 | (refine ⟨⟨?_, ?_⟩, ?_, ?_⟩ <;> omega)) (by first | exact l2 | exact j2 | exact Eq.trans f_35 j2 | exact Eq.trans f_35 l2) hP hD hS (lv_sub hl [4, 5, 0] rfl)
                            · show _
                              refine lv_iload hx hb dX12_block_318 (lv_at hl 0 rfl) ?_
                              refine W.bound (fun gb1 gb2 => ?_)
                              have gb1 : H.size ≤ s.heap.size + (Y1.2.2.2.2.2.2.2.1 - Y.2.2.2.2.2.2.2.1 + (Y'_25.2.2.2.2.2.2.2.1 - Y1.2.2.2.2.2.2.2.1) + 0) := gb1
                              have gb2 : hsum H ≤ hsum s.heap + (10 * (Y1.2.2.2.2.2.2.2.1 - Y.2.2.2.2.2.2.2.1) + 2 * (Y1.2.2.2.2.2.2.2.2.1 - Y.2.2.2.2.2.2.2.2.1) + (10 * (Y'_25.2.2.2.2.2.2.2.1 - Y1.2.2.2.2.2.2.2.1) + 2 * (Y'_25.2.2.2.2.2.2.2.2.1 - Y1.2.2.2.2.2.2.2.2.1)) + 0) := gb2
                              refine W.widen (k := 96000 - Y.2.2.2.2.2.2.2.1) (n := 10 * (96000 - Y.2.2.2.2.2.2.2.1) + 2 * (1542237 - Y.2.2.2.2.2.2.2.2.1)) (by show Y1.2.2.2.2.2.2.2.1 - Y.2.2.2.2.2.2.2.1 + (Y'_25.2.2.2.2.2.2.2.1 - Y1.2.2.2.2.2.2.2.1) + 0 ≤ 96000 - Y.2.2.2.2.2.2.2.1; omega) (by show 10 * (Y1.2.2.2.2.2.2.2.1 - Y.2.2.2.2.2.2.2.1) + 2 * (Y1.2.2.2.2.2.2.2.2.1 - Y.2.2.2.2.2.2.2.2.1) + (10 * (Y'_25.2.2.2.2.2.2.2.1 - Y1.2.2.2.2.2.2.2.1) + 2 * (Y'_25.2.2.2.2.2.2.2.2.1 - Y1.2.2.2.2.2.2.2.2.1)) + 0 ≤ 10 * (96000 - Y.2.2.2.2.2.2.2.1) + 2 * (1542237 - Y.2.2.2.2.2.2.2.2.1); omega) ?_
                              refine gr_i (wo := fun u : rY × (Nat → Int32) × (Nat → Int32) × rI × (Nat → Int32) × Int64 × Int32 × Int32 => rW g ty u.1 u.2.1 u.2.2.1 ks u.2.2.2.1 u.2.2.2.2.1 u.2.2.2.2.2.1 u.2.2.2.2.2.2.1 u.2.2.2.2.2.2.2) ((Y'_25, pa'_26, kp'_27, I'_28, tl'_29, ac'_30, wr'_31, tw'_32)) hx hb hr hlk hS hP hD (by show H.size ≤ sz + (Y'_25.2.2.2.2.2.2.2.1 - Y.2.2.2.2.2.2.2.1); rw [← hsz]; omega) (by show hsum H ≤ tot + (10 * (Y'_25.2.2.2.2.2.2.2.1 - Y.2.2.2.2.2.2.2.1) + 2 * (Y'_25.2.2.2.2.2.2.2.2.1 - Y.2.2.2.2.2.2.2.2.1)); rw [← htot]; omega) ?_ dX12_block_320
                              exact ⟨r'_24, Y'_25, pa'_26, kp'_27, I'_28, tl'_29, ac'_30, wr'_31, tw'_32, rfl, rfl, (by exact br_mono (br_r (bt_3n hup (br_3 (br_mono f_33 hle) c_37) (tk_0 c_42) (Or.inr ⟨c_36, rfl⟩)) c_37) hfm), (by first | exact j1 | exact l1 | (refine ⟨⟨?_, ?_⟩, ?_, ?_⟩ <;> omega)), (by first | exact l2 | exact j2 | exact Eq.trans f_35 j2 | exact Eq.trans f_35 l2)⟩
                        · show _
                          refine lv_aload_n hx hb dX12_block_290 rfl (lv_at hl 2 rfl) ?_
                          refine va_get (D := (dC, dI)) (ci := 14) (v := .ref (g 14)) (C := RX12) (T := TX12) (N := 21) hx hb hg inG12 hown hK hP 0 rfl rfl 17 (by decide) (hg _ wF_X12_49) (fun _ h9 => h9) rfl dX12_block_291 ?_
                          refine lv_iconst (v := 2) hx hb dX12_block_294 (by decide) ?_
                          refine lv_dup2_11 hx hb dX12_block_295 rfl rfl ?_
                          refine va_iald hx hb hK hP 12 0 rfl rfl (by exact i32_in (by decide) (by decide)) dX12_block_296 ?_
                          refine lv_iconst (v := 1) hx hb dX12_block_297 (by decide) ?_
                          refine lv_iadd hx hb dX12_block_298 ?_
                          refine va_iast hx hb hK hP hD hS 12 0 rfl rfl (by exact i32_in (by decide) (by decide)) dX12_block_299 (fun H locs hP hD hS => ?_)
                          have hP : va_P (dC, dI) vwCl (rW g ty Y'_25 pa'_26 kp'_27 ks I'_28 (upd tl'_29 2 ((tl'_29 2) + 1)) ac'_30 wr'_31 tw'_32) H := hP
                          have hD : va_D A (rW g ty Y'_25 pa'_26 kp'_27 ks I'_28 (upd tl'_29 2 ((tl'_29 2) + 1)) ac'_30 wr'_31 tw'_32) := hD
                          refine lv_iload hx hb dX12_block_300 (lv_at hl 0 rfl) ?_
                          refine lv_iconst (v := 3) hx hb dX12_block_302 (by decide) ?_
                          refine lv_icmp_ne (tgt := 347) hx hb dX12_block_303 (by decide) (fun c_43 => ?_) (fun c_43 => ?_)
                          · show _
                            refine lv_iload hx hb dX12_block_347 (lv_at hl 0 rfl) ?_
                            refine lv_if_eq (tgt := 365) hx hb dX12_block_349 (by decide) (fun c_44 => ?_) (fun c_44 => ?_)
                            · show _
                              refine lv_iload hx hb dX12_block_365 (lv_at hl 7 rfl) ?_
                              refine lv_istore (lv' := [(6, .int to9), (9, .int r'_24), (8, .int ((I1.2.2.1 k1.toNatClampNeg) &&& 7)), (0, .ref (g 8)), (2, .int e0), (3, .int k1), (4, .int (I1.1 k1.toNatClampNeg)), (7, .int to9)]) hx hb dX12_block_367 hl (by decide) rfl (fun ls hl => ?_)
                              refine lv_goto (tgt := 413) hx hb dX12_block_369 (by decide) ?_
                              refine lv_aload_n hx hb dX12_block_413 rfl (lv_at hl 3 rfl) ?_
                              refine va_get (D := (dC, dI)) (ci := 14) (v := .ref (g 14)) (C := RX12) (T := TX12) (N := 21) hx hb hg inG12 hown hK hP 0 rfl rfl 17 (by decide) (hg _ wF_X12_49) (fun _ h9 => h9) rfl dX12_block_414 ?_
                              refine lv_iconst (v := 0) hx hb dX12_block_417 (by decide) ?_
                              refine lv_dup2_11 hx hb dX12_block_418 rfl rfl ?_
                              refine va_iald hx hb hK hP 12 0 rfl rfl (by exact i32_in (by decide) (by decide)) dX12_block_419 ?_
                              refine lv_iconst (v := 1) hx hb dX12_block_420 (by decide) ?_
                              refine lv_iadd hx hb dX12_block_421 ?_
                              refine va_iast hx hb hK hP hD hS 12 0 rfl rfl (by exact i32_in (by decide) (by decide)) dX12_block_422 (fun H locs hP hD hS => ?_)
                              have hP : va_P (dC, dI) vwCl (rW g ty Y'_25 pa'_26 kp'_27 ks I'_28 (upd (upd tl'_29 2 ((tl'_29 2) + 1)) 0 (((upd tl'_29 2 ((tl'_29 2) + 1)) 0) + 1)) ac'_30 wr'_31 tw'_32) H := hP
                              have hD : va_D A (rW g ty Y'_25 pa'_26 kp'_27 ks I'_28 (upd (upd tl'_29 2 ((tl'_29 2) + 1)) 0 (((upd tl'_29 2 ((tl'_29 2) + 1)) 0) + 1)) ac'_30 wr'_31 tw'_32) := hD
                              refine lv_iload hx hb dX12_block_423 (lv_at hl 0 rfl) ?_
                              refine lv_istore_n (lv' := [(3, .int to9), (6, .int to9), (9, .int r'_24), (8, .int ((I1.2.2.1 k1.toNatClampNeg) &&& 7)), (0, .ref (g 8)), (2, .int e0), (4, .int (I1.1 k1.toNatClampNeg)), (7, .int to9)]) hx hb dX12_block_425 rfl hl (by decide) rfl (fun ls hl => ?_)
                              refine lv_goto (tgt := 2) hx hb dX12_block_426 (by decide) ?_
                              have hbk : bInv Z e0 (I1.2.2.2.2.1 - 1) F Y'_25 pa'_26 I'_28 (upd (upd tl'_29 2 ((tl'_29 2) + 1)) 0 (((upd tl'_29 2 ((tl'_29 2) + 1)) 0) + 1)) ac'_30 to9 := bi_close hup (br_0 (br_mono f_33 hle) c_44) (by decide) hte (Or.inl ⟨c_36, rfl⟩)
                              have hb9 : I'_28.2.2.2.2.1.toNatClampNeg ≤ (I1.2.2.2.2.1 - 1).toNatClampNeg := i32_le2 (bi_fu hbk).2
                              refine W.widen (k := Y'_25.2.2.2.2.2.2.2.1 - Y.2.2.2.2.2.2.2.1) (n := 10 * (Y'_25.2.2.2.2.2.2.2.1 - Y.2.2.2.2.2.2.2.1) + 2 * (Y'_25.2.2.2.2.2.2.2.2.1 - Y.2.2.2.2.2.2.2.2.1)) (by show Y1.2.2.2.2.2.2.2.1 - Y.2.2.2.2.2.2.2.1 + (Y'_25.2.2.2.2.2.2.2.1 - Y1.2.2.2.2.2.2.2.1) ≤ Y'_25.2.2.2.2.2.2.2.1 - Y.2.2.2.2.2.2.2.1; omega) (by show 10 * (Y1.2.2.2.2.2.2.2.1 - Y.2.2.2.2.2.2.2.1) + 2 * (Y1.2.2.2.2.2.2.2.2.1 - Y.2.2.2.2.2.2.2.2.1) + (10 * (Y'_25.2.2.2.2.2.2.2.1 - Y1.2.2.2.2.2.2.2.1) + 2 * (Y'_25.2.2.2.2.2.2.2.2.1 - Y1.2.2.2.2.2.2.2.2.1)) ≤ 10 * (Y'_25.2.2.2.2.2.2.2.1 - Y.2.2.2.2.2.2.2.1) + 2 * (Y'_25.2.2.2.2.2.2.2.2.1 - Y.2.2.2.2.2.2.2.2.1); omega) ?_
                              exact IH2 _ (by rw [← hN2]; show I'_28.2.2.2.2.1.toNatClampNeg < I1.2.2.2.2.1.toNatClampNeg; omega) Y'_25 pa'_26 kp'_27 I'_28 (upd (upd tl'_29 2 ((tl'_29 2) + 1)) 0 (((upd tl'_29 2 ((tl'_29 2) + 1)) 0) + 1)) ac'_30 wr'_31 tw'_32 to9 _ _ _ rfl (by exact bi_mono hbk hfm) (by first | exact j1 | exact l1 | (refine ⟨⟨?_, ?_⟩, ?_, ?_⟩ <;> omega)) (by first | exact l2 | exact j2 | exact Eq.trans f_35 j2 | exact Eq.trans f_35 l2) hP hD hS (lv_sub hl [4, 5, 0] rfl)
                            · show _
                              refine lv_aload_n hx hb dX12_block_352 rfl (lv_at hl 2 rfl) ?_
                              refine va_get (D := (dC, dI)) (ci := 14) (v := .ref (g 14)) (C := RX12) (T := TX12) (N := 21) hx hb hg inG12 hown hK hP 0 rfl rfl 17 (by decide) (hg _ wF_X12_49) (fun _ h9 => h9) rfl dX12_block_353 ?_
                              refine lv_iconst (v := 0) hx hb dX12_block_356 (by decide) ?_
                              refine lv_dup2_11 hx hb dX12_block_357 rfl rfl ?_
                              refine va_iald hx hb hK hP 12 0 rfl rfl (by exact i32_in (by decide) (by decide)) dX12_block_358 ?_
                              refine lv_iconst (v := 1) hx hb dX12_block_359 (by decide) ?_
                              refine lv_iadd hx hb dX12_block_360 ?_
                              refine va_iast hx hb hK hP hD hS 12 0 rfl rfl (by exact i32_in (by decide) (by decide)) dX12_block_361 (fun H locs hP hD hS => ?_)
                              have hP : va_P (dC, dI) vwCl (rW g ty Y'_25 pa'_26 kp'_27 ks I'_28 (upd (upd tl'_29 2 ((tl'_29 2) + 1)) 0 (((upd tl'_29 2 ((tl'_29 2) + 1)) 0) + 1)) ac'_30 wr'_31 tw'_32) H := hP
                              have hD : va_D A (rW g ty Y'_25 pa'_26 kp'_27 ks I'_28 (upd (upd tl'_29 2 ((tl'_29 2) + 1)) 0 (((upd tl'_29 2 ((tl'_29 2) + 1)) 0) + 1)) ac'_30 wr'_31 tw'_32) := hD
                              refine lv_iload hx hb dX12_block_362 (lv_at hl 0 rfl) ?_
                              refine W.bound (fun gb1 gb2 => ?_)
                              have gb1 : H.size ≤ s.heap.size + (Y1.2.2.2.2.2.2.2.1 - Y.2.2.2.2.2.2.2.1 + (Y'_25.2.2.2.2.2.2.2.1 - Y1.2.2.2.2.2.2.2.1)) := gb1
                              have gb2 : hsum H ≤ hsum s.heap + (10 * (Y1.2.2.2.2.2.2.2.1 - Y.2.2.2.2.2.2.2.1) + 2 * (Y1.2.2.2.2.2.2.2.2.1 - Y.2.2.2.2.2.2.2.2.1) + (10 * (Y'_25.2.2.2.2.2.2.2.1 - Y1.2.2.2.2.2.2.2.1) + 2 * (Y'_25.2.2.2.2.2.2.2.2.1 - Y1.2.2.2.2.2.2.2.2.1))) := gb2
                              refine W.widen (k := 96000 - Y.2.2.2.2.2.2.2.1) (n := 10 * (96000 - Y.2.2.2.2.2.2.2.1) + 2 * (1542237 - Y.2.2.2.2.2.2.2.2.1)) (by show Y1.2.2.2.2.2.2.2.1 - Y.2.2.2.2.2.2.2.1 + (Y'_25.2.2.2.2.2.2.2.1 - Y1.2.2.2.2.2.2.2.1) ≤ 96000 - Y.2.2.2.2.2.2.2.1; omega) (by show 10 * (Y1.2.2.2.2.2.2.2.1 - Y.2.2.2.2.2.2.2.1) + 2 * (Y1.2.2.2.2.2.2.2.2.1 - Y.2.2.2.2.2.2.2.2.1) + (10 * (Y'_25.2.2.2.2.2.2.2.1 - Y1.2.2.2.2.2.2.2.1) + 2 * (Y'_25.2.2.2.2.2.2.2.2.1 - Y1.2.2.2.2.2.2.2.2.1)) ≤ 10 * (96000 - Y.2.2.2.2.2.2.2.1) + 2 * (1542237 - Y.2.2.2.2.2.2.2.2.1); omega) ?_
                              refine gr_i (wo := fun u : rY × (Nat → Int32) × (Nat → Int32) × rI × (Nat → Int32) × Int64 × Int32 × Int32 => rW g ty u.1 u.2.1 u.2.2.1 ks u.2.2.2.1 u.2.2.2.2.1 u.2.2.2.2.2.1 u.2.2.2.2.2.2.1 u.2.2.2.2.2.2.2) ((Y'_25, pa'_26, kp'_27, I'_28, (upd (upd tl'_29 2 ((tl'_29 2) + 1)) 0 (((upd tl'_29 2 ((tl'_29 2) + 1)) 0) + 1)), ac'_30, wr'_31, tw'_32)) hx hb hr hlk hS hP hD (by show H.size ≤ sz + (Y'_25.2.2.2.2.2.2.2.1 - Y.2.2.2.2.2.2.2.1); rw [← hsz]; omega) (by show hsum H ≤ tot + (10 * (Y'_25.2.2.2.2.2.2.2.1 - Y.2.2.2.2.2.2.2.1) + 2 * (Y'_25.2.2.2.2.2.2.2.2.1 - Y.2.2.2.2.2.2.2.2.1)); rw [← htot]; omega) ?_ dX12_block_364
                              exact ⟨r'_24, Y'_25, pa'_26, kp'_27, I'_28, (upd (upd tl'_29 2 ((tl'_29 2) + 1)) 0 (((upd tl'_29 2 ((tl'_29 2) + 1)) 0) + 1)), ac'_30, wr'_31, tw'_32, rfl, rfl, (by exact br_mono (bt_12 hup (br_mono f_33 hle) c_44 c_43 (Or.inl ⟨c_36, rfl⟩)) hfm), (by first | exact j1 | exact l1 | (refine ⟨⟨?_, ?_⟩, ?_, ?_⟩ <;> omega)), (by first | exact l2 | exact j2 | exact Eq.trans f_35 j2 | exact Eq.trans f_35 l2)⟩
                          · show _
                            refine lv_iload hx hb dX12_block_306 (lv_at hl 1 rfl) ?_
                            refine lv_aload_n hx hb dX12_block_308 rfl (lv_at hl 2 rfl) ?_
                            refine va_get (D := (dC, dI)) (ci := 14) (v := .int wr'_31) (C := RX12) (T := TX12) (N := 21) hx hb hg inG12 hown hK hP 0 rfl rfl 16 (by decide) (hg _ wF_X12_76) (fun _ h9 => h9) rfl dX12_block_309 ?_
                            refine cS_i (n := 2) (rest := []) hx hb hml hown hg hT (c_X12_takes l dC dI g ty H.size Y'_25 pa'_26 kp'_27 ks I'_28 (upd tl'_29 2 ((tl'_29 2) + 1)) ac'_30 wr'_31 tw'_32 ((I1.2.2.1 k1.toNatClampNeg) &&& 7) wr'_31 ) (cb_of hg wM_X12_171 wK_X12_takes wI_X12 (by decide +kernel) ⟨by show 0 + 1 ≤ 5 + nb; omega, by show 8 + (2 + 11) + 0 ≤ 133 + 29 * nb; omega⟩) wS_X12_takes hK hP hD hS hA rfl hl.1 rfl (Nat.le_of_ble_eq_true rfl) dX12_block_312 ⟨by show Y1.2.2.2.2.2.2.2.1 - Y.2.2.2.2.2.2.2.1 + (Y'_25.2.2.2.2.2.2.2.1 - Y1.2.2.2.2.2.2.2.1) + 0 ≤ 96000 - Y.2.2.2.2.2.2.2.1; omega, by show 10 * (Y1.2.2.2.2.2.2.2.1 - Y.2.2.2.2.2.2.2.1) + 2 * (Y1.2.2.2.2.2.2.2.2.1 - Y.2.2.2.2.2.2.2.2.1) + (10 * (Y'_25.2.2.2.2.2.2.2.1 - Y1.2.2.2.2.2.2.2.1) + 2 * (Y'_25.2.2.2.2.2.2.2.2.1 - Y1.2.2.2.2.2.2.2.2.1)) + 0 ≤ 10 * (96000 - Y.2.2.2.2.2.2.2.1) + 2 * (1542237 - Y.2.2.2.2.2.2.2.2.1); omega⟩ (fun r_46 u_47 H locs q_45 hP hD hS => ?_)
                            obtain rfl := q_45
                            have hP : va_P (dC, dI) vwCl (rW g ty Y'_25 pa'_26 kp'_27 ks I'_28 (upd tl'_29 2 ((tl'_29 2) + 1)) ac'_30 wr'_31 tw'_32) H := hP
                            have hD : va_D A (rW g ty Y'_25 pa'_26 kp'_27 ks I'_28 (upd tl'_29 2 ((tl'_29 2) + 1)) ac'_30 wr'_31 tw'_32) := hD
                            refine lv_if_ne (tgt := 321) hx hb dX12_block_315 (by decide) (fun c_48 => ?_) (fun c_48 => ?_)
                            · show _
                              refine lv_aload_n hx hb dX12_block_321 rfl (lv_at hl 2 rfl) ?_
                              refine va_get (D := (dC, dI)) (ci := 14) (v := .ref (g 14)) (C := RX12) (T := TX12) (N := 21) hx hb hg inG12 hown hK hP 0 rfl rfl 17 (by decide) (hg _ wF_X12_49) (fun _ h9 => h9) rfl dX12_block_322 ?_
                              refine lv_iconst (v := 1) hx hb dX12_block_325 (by decide) ?_
                              refine lv_dup2_11 hx hb dX12_block_326 rfl rfl ?_
                              refine va_iald hx hb hK hP 12 0 rfl rfl (by exact i32_in (by decide) (by decide)) dX12_block_327 ?_
                              refine lv_iconst (v := 1) hx hb dX12_block_328 (by decide) ?_
                              refine lv_iadd hx hb dX12_block_329 ?_
                              refine va_iast hx hb hK hP hD hS 12 0 rfl rfl (by exact i32_in (by decide) (by decide)) dX12_block_330 (fun H locs hP hD hS => ?_)
                              have hP : va_P (dC, dI) vwCl (rW g ty Y'_25 pa'_26 kp'_27 ks I'_28 (upd (upd tl'_29 2 ((tl'_29 2) + 1)) 1 (((upd tl'_29 2 ((tl'_29 2) + 1)) 1) + 1)) ac'_30 wr'_31 tw'_32) H := hP
                              have hD : va_D A (rW g ty Y'_25 pa'_26 kp'_27 ks I'_28 (upd (upd tl'_29 2 ((tl'_29 2) + 1)) 1 (((upd tl'_29 2 ((tl'_29 2) + 1)) 1) + 1)) ac'_30 wr'_31 tw'_32) := hD
                              refine lv_aload_n hx hb dX12_block_331 rfl (lv_at hl 2 rfl) ?_
                              refine lv_ldc2 (v := (-1)) hx hb hown (hg _ wQ_X12_105) dX12_block_332 ?_
                              refine lv_aload_n hx hb dX12_block_335 rfl (lv_at hl 2 rfl) ?_
                              refine va_get (D := (dC, dI)) (ci := 14) (v := .int wr'_31) (C := RX12) (T := TX12) (N := 21) hx hb hg inG12 hown hK hP 0 rfl rfl 16 (by decide) (hg _ wF_X12_76) (fun _ h9 => h9) rfl dX12_block_336 ?_
                              refine lv_i2l (v := (wr'_31.toInt64)) hx hb dX12_block_339 rfl ?_
                              refine lv_lsub hx hb dX12_block_340 ?_
                              refine va_put (D := (dC, dI)) (ci := 14) (v := .long ((-1) - (wr'_31.toInt64))) (ty := .long) (C := RX12) (T := TX12) (N := 21) hx hb hg inG12 tyX12 tyX12_ok nmX12 hown hK hP hD hS 0 rfl rfl 13 (by decide) (hg _ wF_X12_143) (fun _ h9 => h9) rfl (by decide +kernel) rfl rfl (Nat.le_of_ble_eq_true rfl) dX12_block_341 (fun H locs hP hD hS => ?_)
                              have hP : va_P (dC, dI) vwCl (rW g ty Y'_25 pa'_26 kp'_27 ks I'_28 (upd (upd tl'_29 2 ((tl'_29 2) + 1)) 1 (((upd tl'_29 2 ((tl'_29 2) + 1)) 1) + 1)) ((-1) - (wr'_31.toInt64)) wr'_31 tw'_32) H := hP
                              have hD : va_D A (rW g ty Y'_25 pa'_26 kp'_27 ks I'_28 (upd (upd tl'_29 2 ((tl'_29 2) + 1)) 1 (((upd tl'_29 2 ((tl'_29 2) + 1)) 1) + 1)) ((-1) - (wr'_31.toInt64)) wr'_31 tw'_32) := hD
                              refine lv_iconst (v := 0) hx hb dX12_block_344 (by decide) ?_
                              refine lv_istore (lv' := [(9, .int 0), (8, .int ((I1.2.2.1 k1.toNatClampNeg) &&& 7)), (0, .ref (g 8)), (2, .int e0), (3, .int k1), (4, .int (I1.1 k1.toNatClampNeg)), (6, .int (k1 + 1)), (7, .int to9)]) hx hb dX12_block_345 hl (by decide) rfl (fun ls hl => ?_)
                              refine lv_iload hx hb dX12_block_347 (lv_at hl 0 rfl) ?_
                              refine lv_if_eq (tgt := 365) hx hb dX12_block_349 (by decide) (fun _ => ?_) (fun c9 => absurd (by decide) c9) 
                              refine lv_iload hx hb dX12_block_365 (lv_at hl 7 rfl) ?_
                              refine lv_istore (lv' := [(6, .int to9), (9, .int 0), (8, .int ((I1.2.2.1 k1.toNatClampNeg) &&& 7)), (0, .ref (g 8)), (2, .int e0), (3, .int k1), (4, .int (I1.1 k1.toNatClampNeg)), (7, .int to9)]) hx hb dX12_block_367 hl (by decide) rfl (fun ls hl => ?_)
                              refine lv_goto (tgt := 413) hx hb dX12_block_369 (by decide) ?_
                              refine lv_aload_n hx hb dX12_block_413 rfl (lv_at hl 3 rfl) ?_
                              refine va_get (D := (dC, dI)) (ci := 14) (v := .ref (g 14)) (C := RX12) (T := TX12) (N := 21) hx hb hg inG12 hown hK hP 0 rfl rfl 17 (by decide) (hg _ wF_X12_49) (fun _ h9 => h9) rfl dX12_block_414 ?_
                              refine lv_iconst (v := 0) hx hb dX12_block_417 (by decide) ?_
                              refine lv_dup2_11 hx hb dX12_block_418 rfl rfl ?_
                              refine va_iald hx hb hK hP 12 0 rfl rfl (by exact i32_in (by decide) (by decide)) dX12_block_419 ?_
                              refine lv_iconst (v := 1) hx hb dX12_block_420 (by decide) ?_
                              refine lv_iadd hx hb dX12_block_421 ?_
                              refine va_iast hx hb hK hP hD hS 12 0 rfl rfl (by exact i32_in (by decide) (by decide)) dX12_block_422 (fun H locs hP hD hS => ?_)
                              have hP : va_P (dC, dI) vwCl (rW g ty Y'_25 pa'_26 kp'_27 ks I'_28 (upd (upd (upd tl'_29 2 ((tl'_29 2) + 1)) 1 (((upd tl'_29 2 ((tl'_29 2) + 1)) 1) + 1)) 0 (((upd (upd tl'_29 2 ((tl'_29 2) + 1)) 1 (((upd tl'_29 2 ((tl'_29 2) + 1)) 1) + 1)) 0) + 1)) ((-1) - (wr'_31.toInt64)) wr'_31 tw'_32) H := hP
                              have hD : va_D A (rW g ty Y'_25 pa'_26 kp'_27 ks I'_28 (upd (upd (upd tl'_29 2 ((tl'_29 2) + 1)) 1 (((upd tl'_29 2 ((tl'_29 2) + 1)) 1) + 1)) 0 (((upd (upd tl'_29 2 ((tl'_29 2) + 1)) 1 (((upd tl'_29 2 ((tl'_29 2) + 1)) 1) + 1)) 0) + 1)) ((-1) - (wr'_31.toInt64)) wr'_31 tw'_32) := hD
                              refine lv_iload hx hb dX12_block_423 (lv_at hl 0 rfl) ?_
                              refine lv_istore_n (lv' := [(3, .int to9), (6, .int to9), (9, .int 0), (8, .int ((I1.2.2.1 k1.toNatClampNeg) &&& 7)), (0, .ref (g 8)), (2, .int e0), (4, .int (I1.1 k1.toNatClampNeg)), (7, .int to9)]) hx hb dX12_block_425 rfl hl (by decide) rfl (fun ls hl => ?_)
                              refine lv_goto (tgt := 2) hx hb dX12_block_426 (by decide) ?_
                              have hbk : bInv Z e0 (I1.2.2.2.2.1 - 1) F Y'_25 pa'_26 I'_28 (upd (upd (upd tl'_29 2 ((tl'_29 2) + 1)) 1 (((upd tl'_29 2 ((tl'_29 2) + 1)) 1) + 1)) 0 (((upd (upd tl'_29 2 ((tl'_29 2) + 1)) 1 (((upd tl'_29 2 ((tl'_29 2) + 1)) 1) + 1)) 0) + 1)) ((-1) - (wr'_31.toInt64)) to9 := bt_3t hup (br_3 (br_mono f_33 hle) c_43) (tk_1 c_48) hte (Or.inl ⟨c_36, rfl⟩)
                              have hb9 : I'_28.2.2.2.2.1.toNatClampNeg ≤ (I1.2.2.2.2.1 - 1).toNatClampNeg := i32_le2 (bi_fu hbk).2
                              refine W.widen (k := Y'_25.2.2.2.2.2.2.2.1 - Y.2.2.2.2.2.2.2.1) (n := 10 * (Y'_25.2.2.2.2.2.2.2.1 - Y.2.2.2.2.2.2.2.1) + 2 * (Y'_25.2.2.2.2.2.2.2.2.1 - Y.2.2.2.2.2.2.2.2.1)) (by show Y1.2.2.2.2.2.2.2.1 - Y.2.2.2.2.2.2.2.1 + (Y'_25.2.2.2.2.2.2.2.1 - Y1.2.2.2.2.2.2.2.1) + 0 ≤ Y'_25.2.2.2.2.2.2.2.1 - Y.2.2.2.2.2.2.2.1; omega) (by show 10 * (Y1.2.2.2.2.2.2.2.1 - Y.2.2.2.2.2.2.2.1) + 2 * (Y1.2.2.2.2.2.2.2.2.1 - Y.2.2.2.2.2.2.2.2.1) + (10 * (Y'_25.2.2.2.2.2.2.2.1 - Y1.2.2.2.2.2.2.2.1) + 2 * (Y'_25.2.2.2.2.2.2.2.2.1 - Y1.2.2.2.2.2.2.2.2.1)) + 0 ≤ 10 * (Y'_25.2.2.2.2.2.2.2.1 - Y.2.2.2.2.2.2.2.1) + 2 * (Y'_25.2.2.2.2.2.2.2.2.1 - Y.2.2.2.2.2.2.2.2.1); omega) ?_
                              exact IH2 _ (by rw [← hN2]; show I'_28.2.2.2.2.1.toNatClampNeg < I1.2.2.2.2.1.toNatClampNeg; omega) Y'_25 pa'_26 kp'_27 I'_28 (upd (upd (upd tl'_29 2 ((tl'_29 2) + 1)) 1 (((upd tl'_29 2 ((tl'_29 2) + 1)) 1) + 1)) 0 (((upd (upd tl'_29 2 ((tl'_29 2) + 1)) 1 (((upd tl'_29 2 ((tl'_29 2) + 1)) 1) + 1)) 0) + 1)) ((-1) - (wr'_31.toInt64)) wr'_31 tw'_32 to9 _ _ _ rfl (by exact bi_mono hbk hfm) (by first | exact j1 | exact l1 | (refine ⟨⟨?_, ?_⟩, ?_, ?_⟩ <;> omega)) (by first | exact l2 | exact j2 | exact Eq.trans f_35 j2 | exact Eq.trans f_35 l2) hP hD hS (lv_sub hl [4, 5, 0] rfl)
                            · show _
                              refine lv_iload hx hb dX12_block_318 (lv_at hl 0 rfl) ?_
                              refine W.bound (fun gb1 gb2 => ?_)
                              have gb1 : H.size ≤ s.heap.size + (Y1.2.2.2.2.2.2.2.1 - Y.2.2.2.2.2.2.2.1 + (Y'_25.2.2.2.2.2.2.2.1 - Y1.2.2.2.2.2.2.2.1) + 0) := gb1
                              have gb2 : hsum H ≤ hsum s.heap + (10 * (Y1.2.2.2.2.2.2.2.1 - Y.2.2.2.2.2.2.2.1) + 2 * (Y1.2.2.2.2.2.2.2.2.1 - Y.2.2.2.2.2.2.2.2.1) + (10 * (Y'_25.2.2.2.2.2.2.2.1 - Y1.2.2.2.2.2.2.2.1) + 2 * (Y'_25.2.2.2.2.2.2.2.2.1 - Y1.2.2.2.2.2.2.2.2.1)) + 0) := gb2
                              refine W.widen (k := 96000 - Y.2.2.2.2.2.2.2.1) (n := 10 * (96000 - Y.2.2.2.2.2.2.2.1) + 2 * (1542237 - Y.2.2.2.2.2.2.2.2.1)) (by show Y1.2.2.2.2.2.2.2.1 - Y.2.2.2.2.2.2.2.1 + (Y'_25.2.2.2.2.2.2.2.1 - Y1.2.2.2.2.2.2.2.1) + 0 ≤ 96000 - Y.2.2.2.2.2.2.2.1; omega) (by show 10 * (Y1.2.2.2.2.2.2.2.1 - Y.2.2.2.2.2.2.2.1) + 2 * (Y1.2.2.2.2.2.2.2.2.1 - Y.2.2.2.2.2.2.2.2.1) + (10 * (Y'_25.2.2.2.2.2.2.2.1 - Y1.2.2.2.2.2.2.2.1) + 2 * (Y'_25.2.2.2.2.2.2.2.2.1 - Y1.2.2.2.2.2.2.2.2.1)) + 0 ≤ 10 * (96000 - Y.2.2.2.2.2.2.2.1) + 2 * (1542237 - Y.2.2.2.2.2.2.2.2.1); omega) ?_
                              refine gr_i (wo := fun u : rY × (Nat → Int32) × (Nat → Int32) × rI × (Nat → Int32) × Int64 × Int32 × Int32 => rW g ty u.1 u.2.1 u.2.2.1 ks u.2.2.2.1 u.2.2.2.2.1 u.2.2.2.2.2.1 u.2.2.2.2.2.2.1 u.2.2.2.2.2.2.2) ((Y'_25, pa'_26, kp'_27, I'_28, (upd tl'_29 2 ((tl'_29 2) + 1)), ac'_30, wr'_31, tw'_32)) hx hb hr hlk hS hP hD (by show H.size ≤ sz + (Y'_25.2.2.2.2.2.2.2.1 - Y.2.2.2.2.2.2.2.1); rw [← hsz]; omega) (by show hsum H ≤ tot + (10 * (Y'_25.2.2.2.2.2.2.2.1 - Y.2.2.2.2.2.2.2.1) + 2 * (Y'_25.2.2.2.2.2.2.2.2.1 - Y.2.2.2.2.2.2.2.2.1)); rw [← htot]; omega) ?_ dX12_block_320
                              exact ⟨r'_24, Y'_25, pa'_26, kp'_27, I'_28, (upd tl'_29 2 ((tl'_29 2) + 1)), ac'_30, wr'_31, tw'_32, rfl, rfl, (by exact br_mono (br_r (bt_3n hup (br_3 (br_mono f_33 hle) c_43) (tk_0 c_48) (Or.inl ⟨c_36, rfl⟩)) c_43) hfm), (by first | exact j1 | exact l1 | (refine ⟨⟨?_, ?_⟩, ?_, ?_⟩ <;> omega)), (by first | exact l2 | exact j2 | exact Eq.trans f_35 j2 | exact Eq.trans f_35 l2)⟩
                    · show _
                      refine lv_iconst (v := 0) hx hb dX12_block_176 (by decide) ?_
                      refine lv_istore (lv' := [(8, .int 0), (0, .ref (g 8)), (2, .int e0), (3, .int k1), (4, .int (I1.1 k1.toNatClampNeg)), (6, .int (k1 + 1)), (7, .int to9)]) hx hb dX12_block_177 hl (by decide) rfl (fun ls hl => ?_)
                      refine lv_iconst (v := 0) hx hb dX12_block_179 (by decide) ?_
                      refine lv_istore (lv' := [(9, .int 0), (8, .int 0), (0, .ref (g 8)), (2, .int e0), (3, .int k1), (4, .int (I1.1 k1.toNatClampNeg)), (6, .int (k1 + 1)), (7, .int to9)]) hx hb dX12_block_180 hl (by decide) rfl (fun ls hl => ?_)
                      have LOOP182 : ∀ (N182 : Nat) (Y2 : rY) (pa2 : Nat → Int32) (kp2 : Nat → Int32) (I2 : rI) (tl2 : Nat → Int32) (ac2 : Int64) (wr2 : Int32) (tw2 : Int32) (r2 : Int32) (n2 : Int32) (H : Heap) (locs : List Loc) (ls : Array Slot), (if r2 = 0 then 1 + (I2.2.2.1 k1.toNatClampNeg - n2).toNatClampNeg else 0) = N182 → (bLp Z e0 (I1.2.2.2.2.1 - 1) F (k1 + 1) to9 (I2.2.2.1 k1.toNatClampNeg) n2 r2 Y2 pa2 I2 tl2 ac2 wr2) → ((Y.2.2.2.2.2.2.2.1 ≤ Y2.2.2.2.2.2.2.2.1 ∧ Y.2.2.2.2.2.2.2.2.1 ≤ Y2.2.2.2.2.2.2.2.2.1) ∧ (Y2.2.2.2.2.2.2.2.1 ≤ 96000 ∧ Y2.2.2.2.2.2.2.2.2.1 ≤ 1542237)) → (I2.2.2.2.2.2 = I.2.2.2.2.2) → va_P (dC, dI) vwCl (rW g ty Y2 pa2 kp2 ks I2 tl2 ac2 wr2 tw2) H → va_D A (rW g ty Y2 pa2 kp2 ks I2 tl2 ac2 wr2 tw2) → va_S A s.heap H locs → lv_has ls 10 [(0, .ref (g 8)), (2, .int e0), (3, .int k1), (6, .int (k1 + 1)), (7, .int to9), (8, .int r2), (9, .int n2)] → W p l e ({ frames := 5 + nb, cells := 96000 - Y.2.2.2.2.2.2.2.1, slots := 10 * (96000 - Y.2.2.2.2.2.2.2.1) + 2 * (1542237 - Y.2.2.2.2.2.2.2.2.1), locals := 133 + 29 * nb }) s m ([.ref (g 8), .int b0, .int e0]).toArray below meth c H locs (Y2.2.2.2.2.2.2.2.1 - Y.2.2.2.2.2.2.2.1) (10 * (Y2.2.2.2.2.2.2.2.1 - Y.2.2.2.2.2.2.2.1) + 2 * (Y2.2.2.2.2.2.2.2.2.1 - Y.2.2.2.2.2.2.2.2.1)) (MQ below (va_Qi (fun (rz : Int32) (u : rY × (Nat → Int32) × (Nat → Int32) × rI × (Nat → Int32) × Int64 × Int32 × Int32) => ∃ (r' : Int32) (Y' : rY) (pa' kp' : Nat → Int32) (I' : rI) (tl' : Nat → Int32) (ac' : Int64) (wr' tw' : Int32), r' = rz ∧ (Y', pa', kp', I', tl', ac', wr', tw') = u ∧ bRes Z e0 I.2.2.2.2.1 F r' Y' pa' I' tl' ac' wr' ∧ ((Y.2.2.2.2.2.2.2.1 ≤ Y'.2.2.2.2.2.2.2.1 ∧ Y.2.2.2.2.2.2.2.2.1 ≤ Y'.2.2.2.2.2.2.2.2.1) ∧ (Y'.2.2.2.2.2.2.2.1 ≤ 96000 ∧ Y'.2.2.2.2.2.2.2.2.1 ≤ 1542237)) ∧ I'.2.2.2.2.2 = I.2.2.2.2.2) (cBg (dC, dI) (fun u : rY × (Nat → Int32) × (Nat → Int32) × rI × (Nat → Int32) × Int64 × Int32 × Int32 => rW g ty u.1 u.2.1 u.2.2.1 ks u.2.2.2.1 u.2.2.2.2.1 u.2.2.2.2.2.1 u.2.2.2.2.2.2.1 u.2.2.2.2.2.2.2) A sz tot (fun u : rY × (Nat → Int32) × (Nat → Int32) × rI × (Nat → Int32) × Int64 × Int32 × Int32 => u.1.2.2.2.2.2.2.2.1 - Y.2.2.2.2.2.2.2.1) (fun u : rY × (Nat → Int32) × (Nat → Int32) × rI × (Nat → Int32) × Int64 × Int32 × Int32 => 10 * (u.1.2.2.2.2.2.2.2.1 - Y.2.2.2.2.2.2.2.1) + 2 * (u.1.2.2.2.2.2.2.2.2.1 - Y.2.2.2.2.2.2.2.2.1))) A) ([.ref (g 8), .int b0, .int e0]).toArray s (96000 - Y.2.2.2.2.2.2.2.1) (10 * (96000 - Y.2.2.2.2.2.2.2.1) + 2 * (1542237 - Y.2.2.2.2.2.2.2.2.1)) A) (F0 m 182 ls []) := by
                        intro N182
                        induction N182 using Nat.strongRecOn with
                        | _ N182 IH182 =>
                          intro Y2 pa2 kp2 I2 tl2 ac2 wr2 tw2 r2 n2 H locs ls hN182 l0 l1 l2 hP hD hS hl
                          refine lv_iload hx hb dX12_block_182 (lv_at hl 3 rfl) ?_
                          refine lv_iload hx hb dX12_block_184 (lv_at hl 4 rfl) ?_
                          refine lv_icmp_ge (tgt := 221) hx hb dX12_block_186 (by decide) (fun c_49 => ?_) (fun c_49 => ?_)
                          · show _
                            refine lv_iload hx hb dX12_block_221 (lv_at hl 5 rfl) ?_
                            refine lv_iconst (v := 3) hx hb dX12_block_223 (by decide) ?_
                            refine lv_icmp_ne (tgt := 230) hx hb dX12_block_224 (by decide) (fun c_50 => ?_) (fun c_50 => ?_)
                            · show _
                              refine lv_iload hx hb dX12_block_230 (lv_at hl 5 rfl) ?_
                              refine lv_if_eq (tgt := 248) hx hb dX12_block_232 (by decide) (fun c_51 => ?_) (fun c_51 => ?_)
                              · show _
                                refine lv_iload hx hb dX12_block_248 (lv_at hl 4 rfl) ?_
                                refine lv_istore (lv' := [(6, .int to9), (0, .ref (g 8)), (2, .int e0), (3, .int k1), (7, .int to9), (8, .int r2), (9, .int n2)]) hx hb dX12_block_250 hl (by decide) rfl (fun ls hl => ?_)
                                refine lv_goto (tgt := 413) hx hb dX12_block_252 (by decide) ?_
                                refine lv_aload_n hx hb dX12_block_413 rfl (lv_at hl 1 rfl) ?_
                                refine va_get (D := (dC, dI)) (ci := 14) (v := .ref (g 14)) (C := RX12) (T := TX12) (N := 21) hx hb hg inG12 hown hK hP 0 rfl rfl 17 (by decide) (hg _ wF_X12_49) (fun _ h9 => h9) rfl dX12_block_414 ?_
                                refine lv_iconst (v := 0) hx hb dX12_block_417 (by decide) ?_
                                refine lv_dup2_11 hx hb dX12_block_418 rfl rfl ?_
                                refine va_iald hx hb hK hP 12 0 rfl rfl (by exact i32_in (by decide) (by decide)) dX12_block_419 ?_
                                refine lv_iconst (v := 1) hx hb dX12_block_420 (by decide) ?_
                                refine lv_iadd hx hb dX12_block_421 ?_
                                refine va_iast hx hb hK hP hD hS 12 0 rfl rfl (by exact i32_in (by decide) (by decide)) dX12_block_422 (fun H locs hP hD hS => ?_)
                                have hP : va_P (dC, dI) vwCl (rW g ty Y2 pa2 kp2 ks I2 (upd tl2 0 ((tl2 0) + 1)) ac2 wr2 tw2) H := hP
                                have hD : va_D A (rW g ty Y2 pa2 kp2 ks I2 (upd tl2 0 ((tl2 0) + 1)) ac2 wr2 tw2) := hD
                                refine lv_iload hx hb dX12_block_423 (lv_at hl 0 rfl) ?_
                                refine lv_istore_n (lv' := [(3, .int to9), (6, .int to9), (0, .ref (g 8)), (2, .int e0), (7, .int to9), (8, .int r2), (9, .int n2)]) hx hb dX12_block_425 rfl hl (by decide) rfl (fun ls hl => ?_)
                                refine lv_goto (tgt := 2) hx hb dX12_block_426 (by decide) ?_
                                have hbk : bInv Z e0 (I1.2.2.2.2.1 - 1) F Y2 pa2 I2 (upd tl2 0 ((tl2 0) + 1)) ac2 to9 := bl_0 l0 (Or.inl c_49) c_51
                                have hb9 : I2.2.2.2.2.1.toNatClampNeg ≤ (I1.2.2.2.2.1 - 1).toNatClampNeg := i32_le2 (bi_fu hbk).2
                                refine W.widen (k := Y2.2.2.2.2.2.2.2.1 - Y.2.2.2.2.2.2.2.1) (n := 10 * (Y2.2.2.2.2.2.2.2.1 - Y.2.2.2.2.2.2.2.1) + 2 * (Y2.2.2.2.2.2.2.2.2.1 - Y.2.2.2.2.2.2.2.2.1)) (by show Y2.2.2.2.2.2.2.2.1 - Y.2.2.2.2.2.2.2.1 ≤ Y2.2.2.2.2.2.2.2.1 - Y.2.2.2.2.2.2.2.1; omega) (by show 10 * (Y2.2.2.2.2.2.2.2.1 - Y.2.2.2.2.2.2.2.1) + 2 * (Y2.2.2.2.2.2.2.2.2.1 - Y.2.2.2.2.2.2.2.2.1) ≤ 10 * (Y2.2.2.2.2.2.2.2.1 - Y.2.2.2.2.2.2.2.1) + 2 * (Y2.2.2.2.2.2.2.2.2.1 - Y.2.2.2.2.2.2.2.2.1); omega) ?_
                                exact IH2 _ (by rw [← hN2]; show I2.2.2.2.2.1.toNatClampNeg < I1.2.2.2.2.1.toNatClampNeg; omega) Y2 pa2 kp2 I2 (upd tl2 0 ((tl2 0) + 1)) ac2 wr2 tw2 to9 _ _ _ rfl (by exact bi_mono hbk hfm) (by first | exact j1 | exact l1 | (refine ⟨⟨?_, ?_⟩, ?_, ?_⟩ <;> omega)) (by first | exact l2 | exact j2) hP hD hS (lv_sub hl [2, 3, 0] rfl)
                              · show _
                                refine lv_aload_n hx hb dX12_block_235 rfl (lv_at hl 0 rfl) ?_
                                refine va_get (D := (dC, dI)) (ci := 14) (v := .ref (g 14)) (C := RX12) (T := TX12) (N := 21) hx hb hg inG12 hown hK hP 0 rfl rfl 17 (by decide) (hg _ wF_X12_49) (fun _ h9 => h9) rfl dX12_block_236 ?_
                                refine lv_iconst (v := 0) hx hb dX12_block_239 (by decide) ?_
                                refine lv_dup2_11 hx hb dX12_block_240 rfl rfl ?_
                                refine va_iald hx hb hK hP 12 0 rfl rfl (by exact i32_in (by decide) (by decide)) dX12_block_241 ?_
                                refine lv_iconst (v := 1) hx hb dX12_block_242 (by decide) ?_
                                refine lv_iadd hx hb dX12_block_243 ?_
                                refine va_iast hx hb hK hP hD hS 12 0 rfl rfl (by exact i32_in (by decide) (by decide)) dX12_block_244 (fun H locs hP hD hS => ?_)
                                have hP : va_P (dC, dI) vwCl (rW g ty Y2 pa2 kp2 ks I2 (upd tl2 0 ((tl2 0) + 1)) ac2 wr2 tw2) H := hP
                                have hD : va_D A (rW g ty Y2 pa2 kp2 ks I2 (upd tl2 0 ((tl2 0) + 1)) ac2 wr2 tw2) := hD
                                refine lv_iload hx hb dX12_block_245 (lv_at hl 5 rfl) ?_
                                refine W.bound (fun gb1 gb2 => ?_)
                                have gb1 : H.size ≤ s.heap.size + (Y2.2.2.2.2.2.2.2.1 - Y.2.2.2.2.2.2.2.1) := gb1
                                have gb2 : hsum H ≤ hsum s.heap + (10 * (Y2.2.2.2.2.2.2.2.1 - Y.2.2.2.2.2.2.2.1) + 2 * (Y2.2.2.2.2.2.2.2.2.1 - Y.2.2.2.2.2.2.2.2.1)) := gb2
                                refine W.widen (k := 96000 - Y.2.2.2.2.2.2.2.1) (n := 10 * (96000 - Y.2.2.2.2.2.2.2.1) + 2 * (1542237 - Y.2.2.2.2.2.2.2.2.1)) (by show Y2.2.2.2.2.2.2.2.1 - Y.2.2.2.2.2.2.2.1 ≤ 96000 - Y.2.2.2.2.2.2.2.1; omega) (by show 10 * (Y2.2.2.2.2.2.2.2.1 - Y.2.2.2.2.2.2.2.1) + 2 * (Y2.2.2.2.2.2.2.2.2.1 - Y.2.2.2.2.2.2.2.2.1) ≤ 10 * (96000 - Y.2.2.2.2.2.2.2.1) + 2 * (1542237 - Y.2.2.2.2.2.2.2.2.1); omega) ?_
                                refine gr_i (wo := fun u : rY × (Nat → Int32) × (Nat → Int32) × rI × (Nat → Int32) × Int64 × Int32 × Int32 => rW g ty u.1 u.2.1 u.2.2.1 ks u.2.2.2.1 u.2.2.2.2.1 u.2.2.2.2.2.1 u.2.2.2.2.2.2.1 u.2.2.2.2.2.2.2) ((Y2, pa2, kp2, I2, (upd tl2 0 ((tl2 0) + 1)), ac2, wr2, tw2)) hx hb hr hlk hS hP hD (by show H.size ≤ sz + (Y2.2.2.2.2.2.2.2.1 - Y.2.2.2.2.2.2.2.1); rw [← hsz]; omega) (by show hsum H ≤ tot + (10 * (Y2.2.2.2.2.2.2.2.1 - Y.2.2.2.2.2.2.2.1) + 2 * (Y2.2.2.2.2.2.2.2.2.1 - Y.2.2.2.2.2.2.2.2.1)); rw [← htot]; omega) ?_ dX12_block_247
                                exact ⟨r2, Y2, pa2, kp2, I2, (upd tl2 0 ((tl2 0) + 1)), ac2, wr2, tw2, rfl, rfl, (by exact br_mono (bl_12 l0 c_51 c_50) hfm), (by first | exact j1 | exact l1 | (refine ⟨⟨?_, ?_⟩, ?_, ?_⟩ <;> omega)), (by first | exact l2 | exact j2)⟩
                            · show _
                              refine lv_iload hx hb dX12_block_227 (lv_at hl 5 rfl) ?_
                              refine W.bound (fun gb1 gb2 => ?_)
                              have gb1 : H.size ≤ s.heap.size + (Y2.2.2.2.2.2.2.2.1 - Y.2.2.2.2.2.2.2.1) := gb1
                              have gb2 : hsum H ≤ hsum s.heap + (10 * (Y2.2.2.2.2.2.2.2.1 - Y.2.2.2.2.2.2.2.1) + 2 * (Y2.2.2.2.2.2.2.2.2.1 - Y.2.2.2.2.2.2.2.2.1)) := gb2
                              refine W.widen (k := 96000 - Y.2.2.2.2.2.2.2.1) (n := 10 * (96000 - Y.2.2.2.2.2.2.2.1) + 2 * (1542237 - Y.2.2.2.2.2.2.2.2.1)) (by show Y2.2.2.2.2.2.2.2.1 - Y.2.2.2.2.2.2.2.1 ≤ 96000 - Y.2.2.2.2.2.2.2.1; omega) (by show 10 * (Y2.2.2.2.2.2.2.2.1 - Y.2.2.2.2.2.2.2.1) + 2 * (Y2.2.2.2.2.2.2.2.2.1 - Y.2.2.2.2.2.2.2.2.1) ≤ 10 * (96000 - Y.2.2.2.2.2.2.2.1) + 2 * (1542237 - Y.2.2.2.2.2.2.2.2.1); omega) ?_
                              refine gr_i (wo := fun u : rY × (Nat → Int32) × (Nat → Int32) × rI × (Nat → Int32) × Int64 × Int32 × Int32 => rW g ty u.1 u.2.1 u.2.2.1 ks u.2.2.2.1 u.2.2.2.2.1 u.2.2.2.2.2.1 u.2.2.2.2.2.2.1 u.2.2.2.2.2.2.2) ((Y2, pa2, kp2, I2, tl2, ac2, wr2, tw2)) hx hb hr hlk hS hP hD (by show H.size ≤ sz + (Y2.2.2.2.2.2.2.2.1 - Y.2.2.2.2.2.2.2.1); rw [← hsz]; omega) (by show hsum H ≤ tot + (10 * (Y2.2.2.2.2.2.2.2.1 - Y.2.2.2.2.2.2.2.1) + 2 * (Y2.2.2.2.2.2.2.2.2.1 - Y.2.2.2.2.2.2.2.2.1)); rw [← htot]; omega) ?_ dX12_block_229
                              exact ⟨r2, Y2, pa2, kp2, I2, tl2, ac2, wr2, tw2, rfl, rfl, (by exact br_mono (bl_3 l0 c_50) hfm), (by first | exact j1 | exact l1 | (refine ⟨⟨?_, ?_⟩, ?_, ?_⟩ <;> omega)), (by first | exact l2 | exact j2)⟩
                          · show _
                            refine lv_iload hx hb dX12_block_189 (lv_at hl 6 rfl) ?_
                            refine lv_aload_n hx hb dX12_block_191 rfl (lv_at hl 0 rfl) ?_
                            refine va_get (D := (dC, dI)) (ci := 14) (v := .ref (g 12)) (C := RX12) (T := TX12) (N := 21) hx hb hg inG12 hown hK hP 0 rfl rfl 11 (by decide) (hg _ wF_X12_43) (fun _ h9 => h9) rfl dX12_block_192 ?_
                            refine lv_iload_n hx hb dX12_block_195 rfl (lv_at hl 2 rfl) ?_
                            refine va_iald hx hb hK hP 10 0 rfl rfl (by exact hk5) dX12_block_196 ?_
                            refine lv_icmp_ge (tgt := 221) hx hb dX12_block_197 (by decide) (fun c_52 => ?_) (fun c_52 => ?_)
                            · show _
                              refine lv_iload hx hb dX12_block_221 (lv_at hl 5 rfl) ?_
                              refine lv_iconst (v := 3) hx hb dX12_block_223 (by decide) ?_
                              refine lv_icmp_ne (tgt := 230) hx hb dX12_block_224 (by decide) (fun c_53 => ?_) (fun c_53 => ?_)
                              · show _
                                refine lv_iload hx hb dX12_block_230 (lv_at hl 5 rfl) ?_
                                refine lv_if_eq (tgt := 248) hx hb dX12_block_232 (by decide) (fun c_54 => ?_) (fun c_54 => ?_)
                                · show _
                                  refine lv_iload hx hb dX12_block_248 (lv_at hl 4 rfl) ?_
                                  refine lv_istore (lv' := [(6, .int to9), (0, .ref (g 8)), (2, .int e0), (3, .int k1), (7, .int to9), (8, .int r2), (9, .int n2)]) hx hb dX12_block_250 hl (by decide) rfl (fun ls hl => ?_)
                                  refine lv_goto (tgt := 413) hx hb dX12_block_252 (by decide) ?_
                                  refine lv_aload_n hx hb dX12_block_413 rfl (lv_at hl 1 rfl) ?_
                                  refine va_get (D := (dC, dI)) (ci := 14) (v := .ref (g 14)) (C := RX12) (T := TX12) (N := 21) hx hb hg inG12 hown hK hP 0 rfl rfl 17 (by decide) (hg _ wF_X12_49) (fun _ h9 => h9) rfl dX12_block_414 ?_
                                  refine lv_iconst (v := 0) hx hb dX12_block_417 (by decide) ?_
                                  refine lv_dup2_11 hx hb dX12_block_418 rfl rfl ?_
                                  refine va_iald hx hb hK hP 12 0 rfl rfl (by exact i32_in (by decide) (by decide)) dX12_block_419 ?_
                                  refine lv_iconst (v := 1) hx hb dX12_block_420 (by decide) ?_
                                  refine lv_iadd hx hb dX12_block_421 ?_
                                  refine va_iast hx hb hK hP hD hS 12 0 rfl rfl (by exact i32_in (by decide) (by decide)) dX12_block_422 (fun H locs hP hD hS => ?_)
                                  have hP : va_P (dC, dI) vwCl (rW g ty Y2 pa2 kp2 ks I2 (upd tl2 0 ((tl2 0) + 1)) ac2 wr2 tw2) H := hP
                                  have hD : va_D A (rW g ty Y2 pa2 kp2 ks I2 (upd tl2 0 ((tl2 0) + 1)) ac2 wr2 tw2) := hD
                                  refine lv_iload hx hb dX12_block_423 (lv_at hl 0 rfl) ?_
                                  refine lv_istore_n (lv' := [(3, .int to9), (6, .int to9), (0, .ref (g 8)), (2, .int e0), (7, .int to9), (8, .int r2), (9, .int n2)]) hx hb dX12_block_425 rfl hl (by decide) rfl (fun ls hl => ?_)
                                  refine lv_goto (tgt := 2) hx hb dX12_block_426 (by decide) ?_
                                  have hbk : bInv Z e0 (I1.2.2.2.2.1 - 1) F Y2 pa2 I2 (upd tl2 0 ((tl2 0) + 1)) ac2 to9 := bl_0 l0 (Or.inr c_52) c_54
                                  have hb9 : I2.2.2.2.2.1.toNatClampNeg ≤ (I1.2.2.2.2.1 - 1).toNatClampNeg := i32_le2 (bi_fu hbk).2
                                  refine W.widen (k := Y2.2.2.2.2.2.2.2.1 - Y.2.2.2.2.2.2.2.1) (n := 10 * (Y2.2.2.2.2.2.2.2.1 - Y.2.2.2.2.2.2.2.1) + 2 * (Y2.2.2.2.2.2.2.2.2.1 - Y.2.2.2.2.2.2.2.2.1)) (by show Y2.2.2.2.2.2.2.2.1 - Y.2.2.2.2.2.2.2.1 ≤ Y2.2.2.2.2.2.2.2.1 - Y.2.2.2.2.2.2.2.1; omega) (by show 10 * (Y2.2.2.2.2.2.2.2.1 - Y.2.2.2.2.2.2.2.1) + 2 * (Y2.2.2.2.2.2.2.2.2.1 - Y.2.2.2.2.2.2.2.2.1) ≤ 10 * (Y2.2.2.2.2.2.2.2.1 - Y.2.2.2.2.2.2.2.1) + 2 * (Y2.2.2.2.2.2.2.2.2.1 - Y.2.2.2.2.2.2.2.2.1); omega) ?_
                                  exact IH2 _ (by rw [← hN2]; show I2.2.2.2.2.1.toNatClampNeg < I1.2.2.2.2.1.toNatClampNeg; omega) Y2 pa2 kp2 I2 (upd tl2 0 ((tl2 0) + 1)) ac2 wr2 tw2 to9 _ _ _ rfl (by exact bi_mono hbk hfm) (by first | exact j1 | exact l1 | (refine ⟨⟨?_, ?_⟩, ?_, ?_⟩ <;> omega)) (by first | exact l2 | exact j2) hP hD hS (lv_sub hl [2, 3, 0] rfl)
                                · show _
                                  refine lv_aload_n hx hb dX12_block_235 rfl (lv_at hl 0 rfl) ?_
                                  refine va_get (D := (dC, dI)) (ci := 14) (v := .ref (g 14)) (C := RX12) (T := TX12) (N := 21) hx hb hg inG12 hown hK hP 0 rfl rfl 17 (by decide) (hg _ wF_X12_49) (fun _ h9 => h9) rfl dX12_block_236 ?_
                                  refine lv_iconst (v := 0) hx hb dX12_block_239 (by decide) ?_
                                  refine lv_dup2_11 hx hb dX12_block_240 rfl rfl ?_
                                  refine va_iald hx hb hK hP 12 0 rfl rfl (by exact i32_in (by decide) (by decide)) dX12_block_241 ?_
                                  refine lv_iconst (v := 1) hx hb dX12_block_242 (by decide) ?_
                                  refine lv_iadd hx hb dX12_block_243 ?_
                                  refine va_iast hx hb hK hP hD hS 12 0 rfl rfl (by exact i32_in (by decide) (by decide)) dX12_block_244 (fun H locs hP hD hS => ?_)
                                  have hP : va_P (dC, dI) vwCl (rW g ty Y2 pa2 kp2 ks I2 (upd tl2 0 ((tl2 0) + 1)) ac2 wr2 tw2) H := hP
                                  have hD : va_D A (rW g ty Y2 pa2 kp2 ks I2 (upd tl2 0 ((tl2 0) + 1)) ac2 wr2 tw2) := hD
                                  refine lv_iload hx hb dX12_block_245 (lv_at hl 5 rfl) ?_
                                  refine W.bound (fun gb1 gb2 => ?_)
                                  have gb1 : H.size ≤ s.heap.size + (Y2.2.2.2.2.2.2.2.1 - Y.2.2.2.2.2.2.2.1) := gb1
                                  have gb2 : hsum H ≤ hsum s.heap + (10 * (Y2.2.2.2.2.2.2.2.1 - Y.2.2.2.2.2.2.2.1) + 2 * (Y2.2.2.2.2.2.2.2.2.1 - Y.2.2.2.2.2.2.2.2.1)) := gb2
                                  refine W.widen (k := 96000 - Y.2.2.2.2.2.2.2.1) (n := 10 * (96000 - Y.2.2.2.2.2.2.2.1) + 2 * (1542237 - Y.2.2.2.2.2.2.2.2.1)) (by show Y2.2.2.2.2.2.2.2.1 - Y.2.2.2.2.2.2.2.1 ≤ 96000 - Y.2.2.2.2.2.2.2.1; omega) (by show 10 * (Y2.2.2.2.2.2.2.2.1 - Y.2.2.2.2.2.2.2.1) + 2 * (Y2.2.2.2.2.2.2.2.2.1 - Y.2.2.2.2.2.2.2.2.1) ≤ 10 * (96000 - Y.2.2.2.2.2.2.2.1) + 2 * (1542237 - Y.2.2.2.2.2.2.2.2.1); omega) ?_
                                  refine gr_i (wo := fun u : rY × (Nat → Int32) × (Nat → Int32) × rI × (Nat → Int32) × Int64 × Int32 × Int32 => rW g ty u.1 u.2.1 u.2.2.1 ks u.2.2.2.1 u.2.2.2.2.1 u.2.2.2.2.2.1 u.2.2.2.2.2.2.1 u.2.2.2.2.2.2.2) ((Y2, pa2, kp2, I2, (upd tl2 0 ((tl2 0) + 1)), ac2, wr2, tw2)) hx hb hr hlk hS hP hD (by show H.size ≤ sz + (Y2.2.2.2.2.2.2.2.1 - Y.2.2.2.2.2.2.2.1); rw [← hsz]; omega) (by show hsum H ≤ tot + (10 * (Y2.2.2.2.2.2.2.2.1 - Y.2.2.2.2.2.2.2.1) + 2 * (Y2.2.2.2.2.2.2.2.2.1 - Y.2.2.2.2.2.2.2.2.1)); rw [← htot]; omega) ?_ dX12_block_247
                                  exact ⟨r2, Y2, pa2, kp2, I2, (upd tl2 0 ((tl2 0) + 1)), ac2, wr2, tw2, rfl, rfl, (by exact br_mono (bl_12 l0 c_54 c_53) hfm), (by first | exact j1 | exact l1 | (refine ⟨⟨?_, ?_⟩, ?_, ?_⟩ <;> omega)), (by first | exact l2 | exact j2)⟩
                              · show _
                                refine lv_iload hx hb dX12_block_227 (lv_at hl 5 rfl) ?_
                                refine W.bound (fun gb1 gb2 => ?_)
                                have gb1 : H.size ≤ s.heap.size + (Y2.2.2.2.2.2.2.2.1 - Y.2.2.2.2.2.2.2.1) := gb1
                                have gb2 : hsum H ≤ hsum s.heap + (10 * (Y2.2.2.2.2.2.2.2.1 - Y.2.2.2.2.2.2.2.1) + 2 * (Y2.2.2.2.2.2.2.2.2.1 - Y.2.2.2.2.2.2.2.2.1)) := gb2
                                refine W.widen (k := 96000 - Y.2.2.2.2.2.2.2.1) (n := 10 * (96000 - Y.2.2.2.2.2.2.2.1) + 2 * (1542237 - Y.2.2.2.2.2.2.2.2.1)) (by show Y2.2.2.2.2.2.2.2.1 - Y.2.2.2.2.2.2.2.1 ≤ 96000 - Y.2.2.2.2.2.2.2.1; omega) (by show 10 * (Y2.2.2.2.2.2.2.2.1 - Y.2.2.2.2.2.2.2.1) + 2 * (Y2.2.2.2.2.2.2.2.2.1 - Y.2.2.2.2.2.2.2.2.1) ≤ 10 * (96000 - Y.2.2.2.2.2.2.2.1) + 2 * (1542237 - Y.2.2.2.2.2.2.2.2.1); omega) ?_
                                refine gr_i (wo := fun u : rY × (Nat → Int32) × (Nat → Int32) × rI × (Nat → Int32) × Int64 × Int32 × Int32 => rW g ty u.1 u.2.1 u.2.2.1 ks u.2.2.2.1 u.2.2.2.2.1 u.2.2.2.2.2.1 u.2.2.2.2.2.2.1 u.2.2.2.2.2.2.2) ((Y2, pa2, kp2, I2, tl2, ac2, wr2, tw2)) hx hb hr hlk hS hP hD (by show H.size ≤ sz + (Y2.2.2.2.2.2.2.2.1 - Y.2.2.2.2.2.2.2.1); rw [← hsz]; omega) (by show hsum H ≤ tot + (10 * (Y2.2.2.2.2.2.2.2.1 - Y.2.2.2.2.2.2.2.1) + 2 * (Y2.2.2.2.2.2.2.2.2.1 - Y.2.2.2.2.2.2.2.2.1)); rw [← htot]; omega) ?_ dX12_block_229
                                exact ⟨r2, Y2, pa2, kp2, I2, tl2, ac2, wr2, tw2, rfl, rfl, (by exact br_mono (bl_3 l0 c_53) hfm), (by first | exact j1 | exact l1 | (refine ⟨⟨?_, ?_⟩, ?_, ?_⟩ <;> omega)), (by first | exact l2 | exact j2)⟩
                            · show _
                              refine lv_iload hx hb dX12_block_200 (lv_at hl 5 rfl) ?_
                              refine lv_if_ne (tgt := 221) hx hb dX12_block_202 (by decide) (fun c_55 => ?_) (fun c_55 => ?_)
                              · show _
                                refine lv_iload hx hb dX12_block_221 (lv_at hl 5 rfl) ?_
                                refine lv_iconst (v := 3) hx hb dX12_block_223 (by decide) ?_
                                refine lv_icmp_ne (tgt := 230) hx hb dX12_block_224 (by decide) (fun c_56 => ?_) (fun c_56 => ?_)
                                · show _
                                  refine lv_iload hx hb dX12_block_230 (lv_at hl 5 rfl) ?_
                                  refine lv_if_eq (tgt := 248) hx hb dX12_block_232 (by decide) (fun c9 => absurd c9 c_55) (fun _ => ?_)
                                  refine lv_aload_n hx hb dX12_block_235 rfl (lv_at hl 0 rfl) ?_
                                  refine va_get (D := (dC, dI)) (ci := 14) (v := .ref (g 14)) (C := RX12) (T := TX12) (N := 21) hx hb hg inG12 hown hK hP 0 rfl rfl 17 (by decide) (hg _ wF_X12_49) (fun _ h9 => h9) rfl dX12_block_236 ?_
                                  refine lv_iconst (v := 0) hx hb dX12_block_239 (by decide) ?_
                                  refine lv_dup2_11 hx hb dX12_block_240 rfl rfl ?_
                                  refine va_iald hx hb hK hP 12 0 rfl rfl (by exact i32_in (by decide) (by decide)) dX12_block_241 ?_
                                  refine lv_iconst (v := 1) hx hb dX12_block_242 (by decide) ?_
                                  refine lv_iadd hx hb dX12_block_243 ?_
                                  refine va_iast hx hb hK hP hD hS 12 0 rfl rfl (by exact i32_in (by decide) (by decide)) dX12_block_244 (fun H locs hP hD hS => ?_)
                                  have hP : va_P (dC, dI) vwCl (rW g ty Y2 pa2 kp2 ks I2 (upd tl2 0 ((tl2 0) + 1)) ac2 wr2 tw2) H := hP
                                  have hD : va_D A (rW g ty Y2 pa2 kp2 ks I2 (upd tl2 0 ((tl2 0) + 1)) ac2 wr2 tw2) := hD
                                  refine lv_iload hx hb dX12_block_245 (lv_at hl 5 rfl) ?_
                                  refine W.bound (fun gb1 gb2 => ?_)
                                  have gb1 : H.size ≤ s.heap.size + (Y2.2.2.2.2.2.2.2.1 - Y.2.2.2.2.2.2.2.1) := gb1
                                  have gb2 : hsum H ≤ hsum s.heap + (10 * (Y2.2.2.2.2.2.2.2.1 - Y.2.2.2.2.2.2.2.1) + 2 * (Y2.2.2.2.2.2.2.2.2.1 - Y.2.2.2.2.2.2.2.2.1)) := gb2
                                  refine W.widen (k := 96000 - Y.2.2.2.2.2.2.2.1) (n := 10 * (96000 - Y.2.2.2.2.2.2.2.1) + 2 * (1542237 - Y.2.2.2.2.2.2.2.2.1)) (by show Y2.2.2.2.2.2.2.2.1 - Y.2.2.2.2.2.2.2.1 ≤ 96000 - Y.2.2.2.2.2.2.2.1; omega) (by show 10 * (Y2.2.2.2.2.2.2.2.1 - Y.2.2.2.2.2.2.2.1) + 2 * (Y2.2.2.2.2.2.2.2.2.1 - Y.2.2.2.2.2.2.2.2.1) ≤ 10 * (96000 - Y.2.2.2.2.2.2.2.1) + 2 * (1542237 - Y.2.2.2.2.2.2.2.2.1); omega) ?_
                                  refine gr_i (wo := fun u : rY × (Nat → Int32) × (Nat → Int32) × rI × (Nat → Int32) × Int64 × Int32 × Int32 => rW g ty u.1 u.2.1 u.2.2.1 ks u.2.2.2.1 u.2.2.2.2.1 u.2.2.2.2.2.1 u.2.2.2.2.2.2.1 u.2.2.2.2.2.2.2) ((Y2, pa2, kp2, I2, (upd tl2 0 ((tl2 0) + 1)), ac2, wr2, tw2)) hx hb hr hlk hS hP hD (by show H.size ≤ sz + (Y2.2.2.2.2.2.2.2.1 - Y.2.2.2.2.2.2.2.1); rw [← hsz]; omega) (by show hsum H ≤ tot + (10 * (Y2.2.2.2.2.2.2.2.1 - Y.2.2.2.2.2.2.2.1) + 2 * (Y2.2.2.2.2.2.2.2.2.1 - Y.2.2.2.2.2.2.2.2.1)); rw [← htot]; omega) ?_ dX12_block_247
                                  exact ⟨r2, Y2, pa2, kp2, I2, (upd tl2 0 ((tl2 0) + 1)), ac2, wr2, tw2, rfl, rfl, (by exact br_mono (bl_12 l0 c_55 c_56) hfm), (by first | exact j1 | exact l1 | (refine ⟨⟨?_, ?_⟩, ?_, ?_⟩ <;> omega)), (by first | exact l2 | exact j2)⟩
                                · show _
                                  refine lv_iload hx hb dX12_block_227 (lv_at hl 5 rfl) ?_
                                  refine W.bound (fun gb1 gb2 => ?_)
                                  have gb1 : H.size ≤ s.heap.size + (Y2.2.2.2.2.2.2.2.1 - Y.2.2.2.2.2.2.2.1) := gb1
                                  have gb2 : hsum H ≤ hsum s.heap + (10 * (Y2.2.2.2.2.2.2.2.1 - Y.2.2.2.2.2.2.2.1) + 2 * (Y2.2.2.2.2.2.2.2.2.1 - Y.2.2.2.2.2.2.2.2.1)) := gb2
                                  refine W.widen (k := 96000 - Y.2.2.2.2.2.2.2.1) (n := 10 * (96000 - Y.2.2.2.2.2.2.2.1) + 2 * (1542237 - Y.2.2.2.2.2.2.2.2.1)) (by show Y2.2.2.2.2.2.2.2.1 - Y.2.2.2.2.2.2.2.1 ≤ 96000 - Y.2.2.2.2.2.2.2.1; omega) (by show 10 * (Y2.2.2.2.2.2.2.2.1 - Y.2.2.2.2.2.2.2.1) + 2 * (Y2.2.2.2.2.2.2.2.2.1 - Y.2.2.2.2.2.2.2.2.1) ≤ 10 * (96000 - Y.2.2.2.2.2.2.2.1) + 2 * (1542237 - Y.2.2.2.2.2.2.2.2.1); omega) ?_
                                  refine gr_i (wo := fun u : rY × (Nat → Int32) × (Nat → Int32) × rI × (Nat → Int32) × Int64 × Int32 × Int32 => rW g ty u.1 u.2.1 u.2.2.1 ks u.2.2.2.1 u.2.2.2.2.1 u.2.2.2.2.2.1 u.2.2.2.2.2.2.1 u.2.2.2.2.2.2.2) ((Y2, pa2, kp2, I2, tl2, ac2, wr2, tw2)) hx hb hr hlk hS hP hD (by show H.size ≤ sz + (Y2.2.2.2.2.2.2.2.1 - Y.2.2.2.2.2.2.2.1); rw [← hsz]; omega) (by show hsum H ≤ tot + (10 * (Y2.2.2.2.2.2.2.2.1 - Y.2.2.2.2.2.2.2.1) + 2 * (Y2.2.2.2.2.2.2.2.2.1 - Y.2.2.2.2.2.2.2.2.1)); rw [← htot]; omega) ?_ dX12_block_229
                                  exact ⟨r2, Y2, pa2, kp2, I2, tl2, ac2, wr2, tw2, rfl, rfl, (by exact br_mono (bl_3 l0 c_56) hfm), (by first | exact j1 | exact l1 | (refine ⟨⟨?_, ?_⟩, ?_, ?_⟩ <;> omega)), (by first | exact l2 | exact j2)⟩
                              · show _
                                obtain ⟨hn0, Zo, hup, hbi⟩ := bl_A l0 c_49 c_52 c_55
                                have hle := (bi_fu hbi).2
                                have hb1 := i32_le2 hle
                                have hb2 := hup.2.1.2
                                refine lv_aload_n hx hb dX12_block_205 rfl (lv_at hl 0 rfl) ?_
                                refine lv_iload hx hb dX12_block_206 (lv_at hl 3 rfl) ?_
                                refine lv_iload hx hb dX12_block_208 (lv_at hl 4 rfl) ?_
                                refine gV_i (C := RX12) (n := 2) (rest := []) hx hb hml hown hg hT (IHB mb hmb l dC dI g ty H.size (hsum H) Y2 pa2 kp2 ks I2 tl2 ac2 wr2 tw2 Zo F (k1 + 1) to9 (by exact bi_self hbi) (by exact up_end hup) (by exact pre2) (by exact pre3) (by show I2.2.2.2.2.1.toNatClampNeg ≤ mb; omega) (by show Zo.2.2.2.2.2.2.2.2.2.2.2.toNatClampNeg + I2.2.2.2.2.1.toNatClampNeg ≤ 200; omega) (by exact pre6)) (cv_of hg wM_X12_168 wN_X12_block wL_X12_X12_block wK_X12_block wI_X12 (by decide +kernel) ⟨by show 5 + mb + 1 ≤ 5 + nb; omega, by show 8 + (10 + 11) + (133 + 29 * mb) ≤ 133 + 29 * nb; omega⟩) hK hP hD hS hA (va_recv hK hP (ci := 14) (q0 := 0) rfl rfl) rfl hl.1 rfl (Nat.le_of_ble_eq_true rfl) dX12_block_210 ⟨by show Y2.2.2.2.2.2.2.2.1 - Y.2.2.2.2.2.2.2.1 + (96000 - Y2.2.2.2.2.2.2.2.1) ≤ 96000 - Y.2.2.2.2.2.2.2.1; omega, by show 10 * (Y2.2.2.2.2.2.2.2.1 - Y.2.2.2.2.2.2.2.1) + 2 * (Y2.2.2.2.2.2.2.2.2.1 - Y.2.2.2.2.2.2.2.2.1) + (10 * (96000 - Y2.2.2.2.2.2.2.2.1) + 2 * (1542237 - Y2.2.2.2.2.2.2.2.2.1)) ≤ 10 * (96000 - Y.2.2.2.2.2.2.2.1) + 2 * (1542237 - Y.2.2.2.2.2.2.2.2.1); omega⟩ (fun r_58 u_59 H locs q_57 hP hD hS => ?_)
                                obtain ⟨r'_60, Y'_61, pa'_62, kp'_63, I'_64, tl'_65, ac'_66, wr'_67, tw'_68, rfl, rfl, f_69, f_70, f_71⟩ := q_57
                                have hP : va_P (dC, dI) vwCl (rW g ty Y'_61 pa'_62 kp'_63 ks I'_64 tl'_65 ac'_66 wr'_67 tw'_68) H := hP
                                have hD : va_D A (rW g ty Y'_61 pa'_62 kp'_63 ks I'_64 tl'_65 ac'_66 wr'_67 tw'_68) := hD
                                refine lv_istore (lv' := [(8, .int r'_60), (0, .ref (g 8)), (2, .int e0), (3, .int k1), (6, .int (k1 + 1)), (7, .int to9), (9, .int n2)]) hx hb dX12_block_213 hl (by decide) rfl (fun ls hl => ?_)
                                refine lv_iinc (v := (n2 + 1)) (lv' := [(9, .int (n2 + 1)), (8, .int r'_60), (0, .ref (g 8)), (2, .int e0), (3, .int k1), (6, .int (k1 + 1)), (7, .int to9)]) hx hb dX12_block_215 hl (k := 6) rfl rfl (by decide) rfl (fun ls hl => ?_)
                                refine lv_goto (tgt := 182) hx hb dX12_block_218 (by decide) ?_
                                refine W.widen (k := Y'_61.2.2.2.2.2.2.2.1 - Y.2.2.2.2.2.2.2.1) (n := 10 * (Y'_61.2.2.2.2.2.2.2.1 - Y.2.2.2.2.2.2.2.1) + 2 * (Y'_61.2.2.2.2.2.2.2.2.1 - Y.2.2.2.2.2.2.2.2.1)) (by show Y2.2.2.2.2.2.2.2.1 - Y.2.2.2.2.2.2.2.1 + (Y'_61.2.2.2.2.2.2.2.1 - Y2.2.2.2.2.2.2.2.1) ≤ Y'_61.2.2.2.2.2.2.2.1 - Y.2.2.2.2.2.2.2.1; omega) (by show 10 * (Y2.2.2.2.2.2.2.2.1 - Y.2.2.2.2.2.2.2.1) + 2 * (Y2.2.2.2.2.2.2.2.2.1 - Y.2.2.2.2.2.2.2.2.1) + (10 * (Y'_61.2.2.2.2.2.2.2.1 - Y2.2.2.2.2.2.2.2.1) + 2 * (Y'_61.2.2.2.2.2.2.2.2.1 - Y2.2.2.2.2.2.2.2.2.1)) ≤ 10 * (Y'_61.2.2.2.2.2.2.2.1 - Y.2.2.2.2.2.2.2.1) + 2 * (Y'_61.2.2.2.2.2.2.2.2.1 - Y.2.2.2.2.2.2.2.2.1); omega) ?_
                                exact IH182 _ (by rw [← hN182]; exact bl_dec hn0 c_52 c_55 (fun q9 => bl_two hbi f_69 q9 hk5)) Y'_61 pa'_62 kp'_63 I'_64 tl'_65 ac'_66 wr'_67 tw'_68 r'_60 (n2 + 1) _ _ _ rfl (by exact bl_st hup (br_mono f_69 hle) c_49 c_52 hn0 (fun q9 => bl_two hbi f_69 q9 hk5) hte) (by refine ⟨⟨?_, ?_⟩, ?_, ?_⟩ <;> omega) (by exact Eq.trans f_71 l2) hP hD hS (lv_sub hl [2, 3, 4, 5, 6, 1, 0] rfl)
                      refine W.widen (k := Y1.2.2.2.2.2.2.2.1 - Y.2.2.2.2.2.2.2.1) (n := 10 * (Y1.2.2.2.2.2.2.2.1 - Y.2.2.2.2.2.2.2.1) + 2 * (Y1.2.2.2.2.2.2.2.2.1 - Y.2.2.2.2.2.2.2.2.1)) (by show Y1.2.2.2.2.2.2.2.1 - Y.2.2.2.2.2.2.2.1 ≤ Y1.2.2.2.2.2.2.2.1 - Y.2.2.2.2.2.2.2.1; omega) (by show 10 * (Y1.2.2.2.2.2.2.2.1 - Y.2.2.2.2.2.2.2.1) + 2 * (Y1.2.2.2.2.2.2.2.2.1 - Y.2.2.2.2.2.2.2.2.1) ≤ 10 * (Y1.2.2.2.2.2.2.2.1 - Y.2.2.2.2.2.2.2.1) + 2 * (Y1.2.2.2.2.2.2.2.2.1 - Y.2.2.2.2.2.2.2.2.1); omega) ?_
                      exact LOOP182 _ Y1 pa1 kp1 (I1.1, I1.2.1, I1.2.2.1, I1.2.2.2.1, (I1.2.2.2.2.1 - 1), I1.2.2.2.2.2) tl1 ac1 wr1 tw1 0 0 _ _ _ rfl (by exact bg_rep hgo pre1 hd2 c_7 hto) (by exact j1) (by exact j2) hP hD hS (lv_sub hl [2, 3, 4, 6, 7, 1, 0] rfl)
                  · show _
                    refine lv_aload_n hx hb dX12_block_153 rfl (lv_at hl 0 rfl) ?_
                    refine va_get (D := (dC, dI)) (ci := 14) (v := .long ac1) (C := RX12) (T := TX12) (N := 21) hx hb hg inG12 hown hK hP 0 rfl rfl 13 (by decide) (hg _ wF_X12_143) (fun _ h9 => h9) rfl dX12_block_154 ?_
                    refine lv_lconst (v := 0) hx hb dX12_block_157 (by decide) ?_
                    refine W.lcmp hx hb dX12_block_158 ?_
                    refine lv_if_ge (tgt := 413) hx hb dX12_block_159 (by decide) (fun c_72 => ?_) (fun c_72 => ?_)
                    · show _
                      refine lv_aload_n hx hb dX12_block_413 rfl (lv_at hl 0 rfl) ?_
                      refine va_get (D := (dC, dI)) (ci := 14) (v := .ref (g 14)) (C := RX12) (T := TX12) (N := 21) hx hb hg inG12 hown hK hP 0 rfl rfl 17 (by decide) (hg _ wF_X12_49) (fun _ h9 => h9) rfl dX12_block_414 ?_
                      refine lv_iconst (v := 0) hx hb dX12_block_417 (by decide) ?_
                      refine lv_dup2_11 hx hb dX12_block_418 rfl rfl ?_
                      refine va_iald hx hb hK hP 12 0 rfl rfl (by exact i32_in (by decide) (by decide)) dX12_block_419 ?_
                      refine lv_iconst (v := 1) hx hb dX12_block_420 (by decide) ?_
                      refine lv_iadd hx hb dX12_block_421 ?_
                      refine va_iast hx hb hK hP hD hS 12 0 rfl rfl (by exact i32_in (by decide) (by decide)) dX12_block_422 (fun H locs hP hD hS => ?_)
                      have hP : va_P (dC, dI) vwCl (rW g ty Y1 pa1 kp1 ks (I1.1, I1.2.1, I1.2.2.1, I1.2.2.2.1, (I1.2.2.2.2.1 - 1), I1.2.2.2.2.2) (upd tl1 0 ((tl1 0) + 1)) ac1 wr1 tw1) H := hP
                      have hD : va_D A (rW g ty Y1 pa1 kp1 ks (I1.1, I1.2.1, I1.2.2.1, I1.2.2.2.1, (I1.2.2.2.2.1 - 1), I1.2.2.2.2.2) (upd tl1 0 ((tl1 0) + 1)) ac1 wr1 tw1) := hD
                      refine lv_iload hx hb dX12_block_423 (lv_at hl 4 rfl) ?_
                      refine lv_istore_n (lv' := [(3, .int (k1 + 1)), (0, .ref (g 8)), (2, .int e0), (4, .int (I1.1 k1.toNatClampNeg)), (6, .int (k1 + 1)), (7, .int to9)]) hx hb dX12_block_425 rfl hl (by decide) rfl (fun ls hl => ?_)
                      refine lv_goto (tgt := 2) hx hb dX12_block_426 (by decide) ?_
                      have hbk : bInv Z e0 (I1.2.2.2.2.1 - 1) F Y1 pa1 (I1.1, I1.2.1, I1.2.2.1, I1.2.2.2.1, (I1.2.2.2.2.1 - 1), I1.2.2.2.2.2) (upd tl1 0 ((tl1 0) + 1)) ac1 (k1 + 1) := bg_stay hgo pre1 c_6 c_72
                      have hb9 : (I1.2.2.2.2.1 - 1).toNatClampNeg ≤ (I1.2.2.2.2.1 - 1).toNatClampNeg := i32_le2 (bi_fu hbk).2
                      refine W.widen (k := Y1.2.2.2.2.2.2.2.1 - Y.2.2.2.2.2.2.2.1) (n := 10 * (Y1.2.2.2.2.2.2.2.1 - Y.2.2.2.2.2.2.2.1) + 2 * (Y1.2.2.2.2.2.2.2.2.1 - Y.2.2.2.2.2.2.2.2.1)) (by show Y1.2.2.2.2.2.2.2.1 - Y.2.2.2.2.2.2.2.1 ≤ Y1.2.2.2.2.2.2.2.1 - Y.2.2.2.2.2.2.2.1; omega) (by show 10 * (Y1.2.2.2.2.2.2.2.1 - Y.2.2.2.2.2.2.2.1) + 2 * (Y1.2.2.2.2.2.2.2.2.1 - Y.2.2.2.2.2.2.2.2.1) ≤ 10 * (Y1.2.2.2.2.2.2.2.1 - Y.2.2.2.2.2.2.2.1) + 2 * (Y1.2.2.2.2.2.2.2.2.1 - Y.2.2.2.2.2.2.2.2.1); omega) ?_
                      exact IH2 _ (by rw [← hN2]; show (I1.2.2.2.2.1 - 1).toNatClampNeg < I1.2.2.2.2.1.toNatClampNeg; omega) Y1 pa1 kp1 (I1.1, I1.2.1, I1.2.2.1, I1.2.2.2.1, (I1.2.2.2.2.1 - 1), I1.2.2.2.2.2) (upd tl1 0 ((tl1 0) + 1)) ac1 wr1 tw1 (k1 + 1) _ _ _ rfl (by exact bi_mono hbk hfm) (by first | exact j1 | exact l1 | (refine ⟨⟨?_, ?_⟩, ?_, ?_⟩ <;> omega)) (by first | exact l2 | exact j2) hP hD hS (lv_sub hl [1, 2, 0] rfl)
                    · show _
                      refine lv_iload hx hb dX12_block_162 (lv_at hl 5 rfl) ?_
                      refine lv_istore (lv' := [(6, .int to9), (0, .ref (g 8)), (2, .int e0), (3, .int k1), (4, .int (I1.1 k1.toNatClampNeg)), (7, .int to9)]) hx hb dX12_block_164 hl (by decide) rfl (fun ls hl => ?_)
                      refine lv_goto (tgt := 413) hx hb dX12_block_166 (by decide) ?_
                      refine lv_aload_n hx hb dX12_block_413 rfl (lv_at hl 1 rfl) ?_
                      refine va_get (D := (dC, dI)) (ci := 14) (v := .ref (g 14)) (C := RX12) (T := TX12) (N := 21) hx hb hg inG12 hown hK hP 0 rfl rfl 17 (by decide) (hg _ wF_X12_49) (fun _ h9 => h9) rfl dX12_block_414 ?_
                      refine lv_iconst (v := 0) hx hb dX12_block_417 (by decide) ?_
                      refine lv_dup2_11 hx hb dX12_block_418 rfl rfl ?_
                      refine va_iald hx hb hK hP 12 0 rfl rfl (by exact i32_in (by decide) (by decide)) dX12_block_419 ?_
                      refine lv_iconst (v := 1) hx hb dX12_block_420 (by decide) ?_
                      refine lv_iadd hx hb dX12_block_421 ?_
                      refine va_iast hx hb hK hP hD hS 12 0 rfl rfl (by exact i32_in (by decide) (by decide)) dX12_block_422 (fun H locs hP hD hS => ?_)
                      have hP : va_P (dC, dI) vwCl (rW g ty Y1 pa1 kp1 ks (I1.1, I1.2.1, I1.2.2.1, I1.2.2.2.1, (I1.2.2.2.2.1 - 1), I1.2.2.2.2.2) (upd tl1 0 ((tl1 0) + 1)) ac1 wr1 tw1) H := hP
                      have hD : va_D A (rW g ty Y1 pa1 kp1 ks (I1.1, I1.2.1, I1.2.2.1, I1.2.2.2.1, (I1.2.2.2.2.1 - 1), I1.2.2.2.2.2) (upd tl1 0 ((tl1 0) + 1)) ac1 wr1 tw1) := hD
                      refine lv_iload hx hb dX12_block_423 (lv_at hl 0 rfl) ?_
                      refine lv_istore_n (lv' := [(3, .int to9), (6, .int to9), (0, .ref (g 8)), (2, .int e0), (4, .int (I1.1 k1.toNatClampNeg)), (7, .int to9)]) hx hb dX12_block_425 rfl hl (by decide) rfl (fun ls hl => ?_)
                      refine lv_goto (tgt := 2) hx hb dX12_block_426 (by decide) ?_
                      have hbk : bInv Z e0 (I1.2.2.2.2.1 - 1) F Y1 pa1 (I1.1, I1.2.1, I1.2.2.1, I1.2.2.2.1, (I1.2.2.2.2.1 - 1), I1.2.2.2.2.2) (upd tl1 0 ((tl1 0) + 1)) ac1 to9 := bg_jmp hgo pre1 c_6 c_72 hto
                      have hb9 : (I1.2.2.2.2.1 - 1).toNatClampNeg ≤ (I1.2.2.2.2.1 - 1).toNatClampNeg := i32_le2 (bi_fu hbk).2
                      refine W.widen (k := Y1.2.2.2.2.2.2.2.1 - Y.2.2.2.2.2.2.2.1) (n := 10 * (Y1.2.2.2.2.2.2.2.1 - Y.2.2.2.2.2.2.2.1) + 2 * (Y1.2.2.2.2.2.2.2.2.1 - Y.2.2.2.2.2.2.2.2.1)) (by show Y1.2.2.2.2.2.2.2.1 - Y.2.2.2.2.2.2.2.1 ≤ Y1.2.2.2.2.2.2.2.1 - Y.2.2.2.2.2.2.2.1; omega) (by show 10 * (Y1.2.2.2.2.2.2.2.1 - Y.2.2.2.2.2.2.2.1) + 2 * (Y1.2.2.2.2.2.2.2.2.1 - Y.2.2.2.2.2.2.2.2.1) ≤ 10 * (Y1.2.2.2.2.2.2.2.1 - Y.2.2.2.2.2.2.2.1) + 2 * (Y1.2.2.2.2.2.2.2.2.1 - Y.2.2.2.2.2.2.2.2.1); omega) ?_
                      exact IH2 _ (by rw [← hN2]; show (I1.2.2.2.2.1 - 1).toNatClampNeg < I1.2.2.2.2.1.toNatClampNeg; omega) Y1 pa1 kp1 (I1.1, I1.2.1, I1.2.2.1, I1.2.2.2.1, (I1.2.2.2.2.1 - 1), I1.2.2.2.2.2) (upd tl1 0 ((tl1 0) + 1)) ac1 wr1 tw1 to9 _ _ _ rfl (by exact bi_mono hbk hfm) (by first | exact j1 | exact l1 | (refine ⟨⟨?_, ?_⟩, ?_, ?_⟩ <;> omega)) (by first | exact l2 | exact j2) hP hD hS (lv_sub hl [2, 3, 0] rfl)
                · show _
                  refine lv_aload_n hx hb dX12_block_127 rfl (lv_at hl 0 rfl) ?_
                  refine lv_dup hx hb dX12_block_128 rfl ?_
                  refine va_get (D := (dC, dI)) (ci := 14) (v := .long ac1) (C := RX12) (T := TX12) (N := 21) hx hb hg inG12 hown hK hP 0 rfl rfl 13 (by decide) (hg _ wF_X12_143) (fun _ h9 => h9) rfl dX12_block_129 ?_
                  refine lv_aload_n hx hb dX12_block_132 rfl (lv_at hl 0 rfl) ?_
                  refine va_get (D := (dC, dI)) (ci := 14) (v := .ref (g 11)) (C := RX12) (T := TX12) (N := 21) hx hb hg inG12 hown hK hP 0 rfl rfl 10 (by decide) (hg _ wF_X12_40) (fun _ h9 => h9) rfl dX12_block_133 ?_
                  refine lv_iload_n hx hb dX12_block_136 rfl (lv_at hl 2 rfl) ?_
                  refine va_iald hx hb hK hP 9 0 rfl rfl (by exact hk5) dX12_block_137 ?_
                  refine lv_i2l (v := ((I1.2.1 k1.toNatClampNeg).toInt64)) hx hb dX12_block_138 rfl ?_
                  refine lv_ladd hx hb dX12_block_139 ?_
                  refine va_put (D := (dC, dI)) (ci := 14) (v := .long (ac1 + ((I1.2.1 k1.toNatClampNeg).toInt64))) (ty := .long) (C := RX12) (T := TX12) (N := 21) hx hb hg inG12 tyX12 tyX12_ok nmX12 hown hK hP hD hS 0 rfl rfl 13 (by decide) (hg _ wF_X12_143) (fun _ h9 => h9) rfl (by decide +kernel) rfl rfl (Nat.le_of_ble_eq_true rfl) dX12_block_140 (fun H locs hP hD hS => ?_)
                  have hP : va_P (dC, dI) vwCl (rW g ty Y1 pa1 kp1 ks (I1.1, I1.2.1, I1.2.2.1, I1.2.2.2.1, (I1.2.2.2.2.1 - 1), I1.2.2.2.2.2) tl1 (ac1 + ((I1.2.1 k1.toNatClampNeg).toInt64)) wr1 tw1) H := hP
                  have hD : va_D A (rW g ty Y1 pa1 kp1 ks (I1.1, I1.2.1, I1.2.2.1, I1.2.2.2.1, (I1.2.2.2.2.1 - 1), I1.2.2.2.2.2) tl1 (ac1 + ((I1.2.1 k1.toNatClampNeg).toInt64)) wr1 tw1) := hD
                  refine lv_goto (tgt := 413) hx hb dX12_block_143 (by decide) ?_
                  refine lv_aload_n hx hb dX12_block_413 rfl (lv_at hl 0 rfl) ?_
                  refine va_get (D := (dC, dI)) (ci := 14) (v := .ref (g 14)) (C := RX12) (T := TX12) (N := 21) hx hb hg inG12 hown hK hP 0 rfl rfl 17 (by decide) (hg _ wF_X12_49) (fun _ h9 => h9) rfl dX12_block_414 ?_
                  refine lv_iconst (v := 0) hx hb dX12_block_417 (by decide) ?_
                  refine lv_dup2_11 hx hb dX12_block_418 rfl rfl ?_
                  refine va_iald hx hb hK hP 12 0 rfl rfl (by exact i32_in (by decide) (by decide)) dX12_block_419 ?_
                  refine lv_iconst (v := 1) hx hb dX12_block_420 (by decide) ?_
                  refine lv_iadd hx hb dX12_block_421 ?_
                  refine va_iast hx hb hK hP hD hS 12 0 rfl rfl (by exact i32_in (by decide) (by decide)) dX12_block_422 (fun H locs hP hD hS => ?_)
                  have hP : va_P (dC, dI) vwCl (rW g ty Y1 pa1 kp1 ks (I1.1, I1.2.1, I1.2.2.1, I1.2.2.2.1, (I1.2.2.2.2.1 - 1), I1.2.2.2.2.2) (upd tl1 0 ((tl1 0) + 1)) (ac1 + ((I1.2.1 k1.toNatClampNeg).toInt64)) wr1 tw1) H := hP
                  have hD : va_D A (rW g ty Y1 pa1 kp1 ks (I1.1, I1.2.1, I1.2.2.1, I1.2.2.2.1, (I1.2.2.2.2.1 - 1), I1.2.2.2.2.2) (upd tl1 0 ((tl1 0) + 1)) (ac1 + ((I1.2.1 k1.toNatClampNeg).toInt64)) wr1 tw1) := hD
                  refine lv_iload hx hb dX12_block_423 (lv_at hl 4 rfl) ?_
                  refine lv_istore_n (lv' := [(3, .int (k1 + 1)), (0, .ref (g 8)), (2, .int e0), (4, .int (I1.1 k1.toNatClampNeg)), (6, .int (k1 + 1)), (7, .int to9)]) hx hb dX12_block_425 rfl hl (by decide) rfl (fun ls hl => ?_)
                  refine lv_goto (tgt := 2) hx hb dX12_block_426 (by decide) ?_
                  have hbk : bInv Z e0 (I1.2.2.2.2.1 - 1) F Y1 pa1 (I1.1, I1.2.1, I1.2.2.1, I1.2.2.2.1, (I1.2.2.2.2.1 - 1), I1.2.2.2.2.2) (upd tl1 0 ((tl1 0) + 1)) (ac1 + ((I1.2.1 k1.toNatClampNeg).toInt64)) (k1 + 1) := bg_add hgo pre1 c_5
                  have hb9 : (I1.2.2.2.2.1 - 1).toNatClampNeg ≤ (I1.2.2.2.2.1 - 1).toNatClampNeg := i32_le2 (bi_fu hbk).2
                  refine W.widen (k := Y1.2.2.2.2.2.2.2.1 - Y.2.2.2.2.2.2.2.1) (n := 10 * (Y1.2.2.2.2.2.2.2.1 - Y.2.2.2.2.2.2.2.1) + 2 * (Y1.2.2.2.2.2.2.2.2.1 - Y.2.2.2.2.2.2.2.2.1)) (by show Y1.2.2.2.2.2.2.2.1 - Y.2.2.2.2.2.2.2.1 ≤ Y1.2.2.2.2.2.2.2.1 - Y.2.2.2.2.2.2.2.1; omega) (by show 10 * (Y1.2.2.2.2.2.2.2.1 - Y.2.2.2.2.2.2.2.1) + 2 * (Y1.2.2.2.2.2.2.2.2.1 - Y.2.2.2.2.2.2.2.2.1) ≤ 10 * (Y1.2.2.2.2.2.2.2.1 - Y.2.2.2.2.2.2.2.1) + 2 * (Y1.2.2.2.2.2.2.2.2.1 - Y.2.2.2.2.2.2.2.2.1); omega) ?_
                  exact IH2 _ (by rw [← hN2]; show (I1.2.2.2.2.1 - 1).toNatClampNeg < I1.2.2.2.2.1.toNatClampNeg; omega) Y1 pa1 kp1 (I1.1, I1.2.1, I1.2.2.1, I1.2.2.2.1, (I1.2.2.2.2.1 - 1), I1.2.2.2.2.2) (upd tl1 0 ((tl1 0) + 1)) (ac1 + ((I1.2.1 k1.toNatClampNeg).toInt64)) wr1 tw1 (k1 + 1) _ _ _ rfl (by exact bi_mono hbk hfm) (by first | exact j1 | exact l1 | (refine ⟨⟨?_, ?_⟩, ?_, ?_⟩ <;> omega)) (by first | exact l2 | exact j2) hP hD hS (lv_sub hl [1, 2, 0] rfl)
              · show _
                refine lv_aload_n hx hb dX12_block_106 rfl (lv_at hl 0 rfl) ?_
                refine lv_aload_n hx hb dX12_block_107 rfl (lv_at hl 0 rfl) ?_
                refine va_get (D := (dC, dI)) (ci := 14) (v := .ref (g 11)) (C := RX12) (T := TX12) (N := 21) hx hb hg inG12 hown hK hP 0 rfl rfl 10 (by decide) (hg _ wF_X12_40) (fun _ h9 => h9) rfl dX12_block_108 ?_
                refine lv_iload_n hx hb dX12_block_111 rfl (lv_at hl 2 rfl) ?_
                refine va_iald hx hb hK hP 9 0 rfl rfl (by exact hk5) dX12_block_112 ?_
                refine lv_i2l (v := ((I1.2.1 k1.toNatClampNeg).toInt64)) hx hb dX12_block_113 rfl ?_
                refine va_put (D := (dC, dI)) (ci := 14) (v := .long ((I1.2.1 k1.toNatClampNeg).toInt64)) (ty := .long) (C := RX12) (T := TX12) (N := 21) hx hb hg inG12 tyX12 tyX12_ok nmX12 hown hK hP hD hS 0 rfl rfl 13 (by decide) (hg _ wF_X12_143) (fun _ h9 => h9) rfl (by decide +kernel) rfl rfl (Nat.le_of_ble_eq_true rfl) dX12_block_114 (fun H locs hP hD hS => ?_)
                have hP : va_P (dC, dI) vwCl (rW g ty Y1 pa1 kp1 ks (I1.1, I1.2.1, I1.2.2.1, I1.2.2.2.1, (I1.2.2.2.2.1 - 1), I1.2.2.2.2.2) tl1 ((I1.2.1 k1.toNatClampNeg).toInt64) wr1 tw1) H := hP
                have hD : va_D A (rW g ty Y1 pa1 kp1 ks (I1.1, I1.2.1, I1.2.2.1, I1.2.2.2.1, (I1.2.2.2.2.1 - 1), I1.2.2.2.2.2) tl1 ((I1.2.1 k1.toNatClampNeg).toInt64) wr1 tw1) := hD
                refine lv_goto (tgt := 413) hx hb dX12_block_117 (by decide) ?_
                refine lv_aload_n hx hb dX12_block_413 rfl (lv_at hl 0 rfl) ?_
                refine va_get (D := (dC, dI)) (ci := 14) (v := .ref (g 14)) (C := RX12) (T := TX12) (N := 21) hx hb hg inG12 hown hK hP 0 rfl rfl 17 (by decide) (hg _ wF_X12_49) (fun _ h9 => h9) rfl dX12_block_414 ?_
                refine lv_iconst (v := 0) hx hb dX12_block_417 (by decide) ?_
                refine lv_dup2_11 hx hb dX12_block_418 rfl rfl ?_
                refine va_iald hx hb hK hP 12 0 rfl rfl (by exact i32_in (by decide) (by decide)) dX12_block_419 ?_
                refine lv_iconst (v := 1) hx hb dX12_block_420 (by decide) ?_
                refine lv_iadd hx hb dX12_block_421 ?_
                refine va_iast hx hb hK hP hD hS 12 0 rfl rfl (by exact i32_in (by decide) (by decide)) dX12_block_422 (fun H locs hP hD hS => ?_)
                have hP : va_P (dC, dI) vwCl (rW g ty Y1 pa1 kp1 ks (I1.1, I1.2.1, I1.2.2.1, I1.2.2.2.1, (I1.2.2.2.2.1 - 1), I1.2.2.2.2.2) (upd tl1 0 ((tl1 0) + 1)) ((I1.2.1 k1.toNatClampNeg).toInt64) wr1 tw1) H := hP
                have hD : va_D A (rW g ty Y1 pa1 kp1 ks (I1.1, I1.2.1, I1.2.2.1, I1.2.2.2.1, (I1.2.2.2.2.1 - 1), I1.2.2.2.2.2) (upd tl1 0 ((tl1 0) + 1)) ((I1.2.1 k1.toNatClampNeg).toInt64) wr1 tw1) := hD
                refine lv_iload hx hb dX12_block_423 (lv_at hl 4 rfl) ?_
                refine lv_istore_n (lv' := [(3, .int (k1 + 1)), (0, .ref (g 8)), (2, .int e0), (4, .int (I1.1 k1.toNatClampNeg)), (6, .int (k1 + 1)), (7, .int to9)]) hx hb dX12_block_425 rfl hl (by decide) rfl (fun ls hl => ?_)
                refine lv_goto (tgt := 2) hx hb dX12_block_426 (by decide) ?_
                have hbk : bInv Z e0 (I1.2.2.2.2.1 - 1) F Y1 pa1 (I1.1, I1.2.1, I1.2.2.1, I1.2.2.2.1, (I1.2.2.2.2.1 - 1), I1.2.2.2.2.2) (upd tl1 0 ((tl1 0) + 1)) ((I1.2.1 k1.toNatClampNeg).toInt64) (k1 + 1) := bg_set hgo pre1 c_4
                have hb9 : (I1.2.2.2.2.1 - 1).toNatClampNeg ≤ (I1.2.2.2.2.1 - 1).toNatClampNeg := i32_le2 (bi_fu hbk).2
                refine W.widen (k := Y1.2.2.2.2.2.2.2.1 - Y.2.2.2.2.2.2.2.1) (n := 10 * (Y1.2.2.2.2.2.2.2.1 - Y.2.2.2.2.2.2.2.1) + 2 * (Y1.2.2.2.2.2.2.2.2.1 - Y.2.2.2.2.2.2.2.2.1)) (by show Y1.2.2.2.2.2.2.2.1 - Y.2.2.2.2.2.2.2.1 ≤ Y1.2.2.2.2.2.2.2.1 - Y.2.2.2.2.2.2.2.1; omega) (by show 10 * (Y1.2.2.2.2.2.2.2.1 - Y.2.2.2.2.2.2.2.1) + 2 * (Y1.2.2.2.2.2.2.2.2.1 - Y.2.2.2.2.2.2.2.2.1) ≤ 10 * (Y1.2.2.2.2.2.2.2.1 - Y.2.2.2.2.2.2.2.1) + 2 * (Y1.2.2.2.2.2.2.2.2.1 - Y.2.2.2.2.2.2.2.2.1); omega) ?_
                exact IH2 _ (by rw [← hN2]; show (I1.2.2.2.2.1 - 1).toNatClampNeg < I1.2.2.2.2.1.toNatClampNeg; omega) Y1 pa1 kp1 (I1.1, I1.2.1, I1.2.2.1, I1.2.2.2.1, (I1.2.2.2.2.1 - 1), I1.2.2.2.2.2) (upd tl1 0 ((tl1 0) + 1)) ((I1.2.1 k1.toNatClampNeg).toInt64) wr1 tw1 (k1 + 1) _ _ _ rfl (by exact bi_mono hbk hfm) (by first | exact j1 | exact l1 | (refine ⟨⟨?_, ?_⟩, ?_, ?_⟩ <;> omega)) (by first | exact l2 | exact j2) hP hD hS (lv_sub hl [1, 2, 0] rfl)
            · show _
              refine lv_aload_n hx hb dX12_block_87 rfl (lv_at hl 0 rfl) ?_
              refine va_get (D := (dC, dI)) (ci := 14) (v := .ref (g 14)) (C := RX12) (T := TX12) (N := 21) hx hb hg inG12 hown hK hP 0 rfl rfl 17 (by decide) (hg _ wF_X12_49) (fun _ h9 => h9) rfl dX12_block_88 ?_
              refine lv_iconst (v := 0) hx hb dX12_block_91 (by decide) ?_
              refine lv_dup2_11 hx hb dX12_block_92 rfl rfl ?_
              refine va_iald hx hb hK hP 12 0 rfl rfl (by exact i32_in (by decide) (by decide)) dX12_block_93 ?_
              refine lv_iconst (v := 1) hx hb dX12_block_94 (by decide) ?_
              refine lv_iadd hx hb dX12_block_95 ?_
              refine va_iast hx hb hK hP hD hS 12 0 rfl rfl (by exact i32_in (by decide) (by decide)) dX12_block_96 (fun H locs hP hD hS => ?_)
              have hP : va_P (dC, dI) vwCl (rW g ty Y1 pa1 kp1 ks (I1.1, I1.2.1, I1.2.2.1, I1.2.2.2.1, (I1.2.2.2.2.1 - 1), I1.2.2.2.2.2) (upd tl1 0 ((tl1 0) + 1)) ac1 wr1 tw1) H := hP
              have hD : va_D A (rW g ty Y1 pa1 kp1 ks (I1.1, I1.2.1, I1.2.2.1, I1.2.2.2.1, (I1.2.2.2.2.1 - 1), I1.2.2.2.2.2) (upd tl1 0 ((tl1 0) + 1)) ac1 wr1 tw1) := hD
              refine lv_iconst (v := 1) hx hb dX12_block_97 (by decide) ?_
              refine W.bound (fun gb1 gb2 => ?_)
              have gb1 : H.size ≤ s.heap.size + (Y1.2.2.2.2.2.2.2.1 - Y.2.2.2.2.2.2.2.1) := gb1
              have gb2 : hsum H ≤ hsum s.heap + (10 * (Y1.2.2.2.2.2.2.2.1 - Y.2.2.2.2.2.2.2.1) + 2 * (Y1.2.2.2.2.2.2.2.2.1 - Y.2.2.2.2.2.2.2.2.1)) := gb2
              refine W.widen (k := 96000 - Y.2.2.2.2.2.2.2.1) (n := 10 * (96000 - Y.2.2.2.2.2.2.2.1) + 2 * (1542237 - Y.2.2.2.2.2.2.2.2.1)) (by show Y1.2.2.2.2.2.2.2.1 - Y.2.2.2.2.2.2.2.1 ≤ 96000 - Y.2.2.2.2.2.2.2.1; omega) (by show 10 * (Y1.2.2.2.2.2.2.2.1 - Y.2.2.2.2.2.2.2.1) + 2 * (Y1.2.2.2.2.2.2.2.2.1 - Y.2.2.2.2.2.2.2.2.1) ≤ 10 * (96000 - Y.2.2.2.2.2.2.2.1) + 2 * (1542237 - Y.2.2.2.2.2.2.2.2.1); omega) ?_
              refine gr_i (wo := fun u : rY × (Nat → Int32) × (Nat → Int32) × rI × (Nat → Int32) × Int64 × Int32 × Int32 => rW g ty u.1 u.2.1 u.2.2.1 ks u.2.2.2.1 u.2.2.2.2.1 u.2.2.2.2.2.1 u.2.2.2.2.2.2.1 u.2.2.2.2.2.2.2) ((Y1, pa1, kp1, (I1.1, I1.2.1, I1.2.2.1, I1.2.2.2.1, (I1.2.2.2.2.1 - 1), I1.2.2.2.2.2), (upd tl1 0 ((tl1 0) + 1)), ac1, wr1, tw1)) hx hb hr hlk hS hP hD (by show H.size ≤ sz + (Y1.2.2.2.2.2.2.2.1 - Y.2.2.2.2.2.2.2.1); rw [← hsz]; omega) (by show hsum H ≤ tot + (10 * (Y1.2.2.2.2.2.2.2.1 - Y.2.2.2.2.2.2.2.1) + 2 * (Y1.2.2.2.2.2.2.2.2.1 - Y.2.2.2.2.2.2.2.2.1)); rw [← htot]; omega) ?_ dX12_block_98
              exact ⟨1, Y1, pa1, kp1, (I1.1, I1.2.1, I1.2.2.1, I1.2.2.2.1, (I1.2.2.2.2.1 - 1), I1.2.2.2.2.2), (upd tl1 0 ((tl1 0) + 1)), ac1, wr1, tw1, rfl, rfl, (by exact br_mono (bg_stop hgo c_3) hfm), (by first | exact j1 | exact l1 | (refine ⟨⟨?_, ?_⟩, ?_, ?_⟩ <;> omega)), (by first | exact l2 | exact j2)⟩
          refine lv_aload_n hx hb dX12_block_34 rfl (lv_at hl 1 rfl) ?_
          refine va_get (D := (dC, dI)) (ci := 14) (v := .ref (g 11)) (C := RX12) (T := TX12) (N := 21) hx hb hg inG12 hown hK hP 0 rfl rfl 10 (by decide) (hg _ wF_X12_40) (fun _ h9 => h9) rfl dX12_block_35 ?_
          refine lv_iload_n hx hb dX12_block_38 rfl (lv_at hl 3 rfl) ?_
          refine va_iald hx hb hK hP 9 0 rfl rfl (by exact hk5) dX12_block_39 ?_
          refine lv_if_ge (tgt := 47) hx hb dX12_block_40 (by decide) (fun c_73 => ?_) (fun c_73 => ?_)
          · show _
            refine lv_aload_n hx hb dX12_block_47 rfl (lv_at hl 1 rfl) ?_
            refine va_get (D := (dC, dI)) (ci := 14) (v := .ref (g 11)) (C := RX12) (T := TX12) (N := 21) hx hb hg inG12 hown hK hP 0 rfl rfl 10 (by decide) (hg _ wF_X12_40) (fun _ h9 => h9) rfl dX12_block_48 ?_
            refine lv_iload_n hx hb dX12_block_51 rfl (lv_at hl 3 rfl) ?_
            refine va_iald hx hb hK hP 9 0 rfl rfl (by exact hk5) dX12_block_52 ?_
            refine lv_istore (lv' := [(5, .int (I1.2.1 k1.toNatClampNeg)), (4, .int (I1.1 k1.toNatClampNeg)), (0, .ref (g 8)), (2, .int e0), (3, .int k1)]) hx hb dX12_block_53 hl (by decide) rfl (fun ls hl => ?_)
            refine lv_iload_n hx hb dX12_block_55 rfl (lv_at hl 4 rfl) ?_
            refine lv_iconst (v := 1) hx hb dX12_block_56 (by decide) ?_
            refine lv_iadd hx hb dX12_block_57 ?_
            refine lv_istore (lv' := [(6, .int (k1 + 1)), (5, .int (I1.2.1 k1.toNatClampNeg)), (4, .int (I1.1 k1.toNatClampNeg)), (0, .ref (g 8)), (2, .int e0), (3, .int k1)]) hx hb dX12_block_58 hl (by decide) rfl (fun ls hl => ?_)
            refine lv_iload hx hb dX12_block_60 (lv_at hl 1 rfl) ?_
            refine lv_iload_n hx hb dX12_block_62 rfl (lv_at hl 4 rfl) ?_
            refine lv_iload hx hb dX12_block_63 (lv_at hl 0 rfl) ?_
            refine lv_isub hx hb dX12_block_65 ?_
            refine lv_icmp_le (tgt := 73) hx hb dX12_block_66 (by decide) (fun c_74 => ?_) (fun c_74 => ?_)
            · show _
              refine lv_iload hx hb dX12_block_73 (lv_at hl 0 rfl) ?_
              refine lv_iload hx hb dX12_block_75 (lv_at hl 1 rfl) ?_
              refine lv_iadd hx hb dX12_block_77 ?_
              refine lv_istore (lv' := [(7, .int ((k1 + 1) + (I1.2.1 k1.toNatClampNeg))), (6, .int (k1 + 1)), (5, .int (I1.2.1 k1.toNatClampNeg)), (4, .int (I1.1 k1.toNatClampNeg)), (0, .ref (g 8)), (2, .int e0), (3, .int k1)]) hx hb dX12_block_78 hl (by decide) rfl (fun ls hl => ?_)
              exact J80 _ _ (to_of (by first | exact Or.inl ⟨by assumption, rfl⟩ | exact Or.inr ⟨by assumption, rfl⟩) (by first | exact Or.inl ⟨by assumption, rfl⟩ | exact Or.inr ⟨by assumption, rfl⟩)) (lv_sub hl [4, 5, 6, 3, 1, 0] rfl)
            · show _
              refine lv_iload_n hx hb dX12_block_69 rfl (lv_at hl 4 rfl) ?_
              refine lv_goto (tgt := 78) hx hb dX12_block_70 (by decide) ?_
              refine lv_istore (lv' := [(7, .int e0), (6, .int (k1 + 1)), (5, .int (I1.2.1 k1.toNatClampNeg)), (4, .int (I1.1 k1.toNatClampNeg)), (0, .ref (g 8)), (2, .int e0), (3, .int k1)]) hx hb dX12_block_78 hl (by decide) rfl (fun ls hl => ?_)
              exact J80 _ _ (to_of (by first | exact Or.inl ⟨by assumption, rfl⟩ | exact Or.inr ⟨by assumption, rfl⟩) (by first | exact Or.inl ⟨by assumption, rfl⟩ | exact Or.inr ⟨by assumption, rfl⟩)) (lv_sub hl [4, 5, 6, 3, 1, 0] rfl)
          · show _
            refine lv_iconst (v := 0) hx hb dX12_block_43 (by decide) ?_
            refine lv_goto (tgt := 53) hx hb dX12_block_44 (by decide) ?_
            refine lv_istore (lv' := [(5, .int 0), (4, .int (I1.1 k1.toNatClampNeg)), (0, .ref (g 8)), (2, .int e0), (3, .int k1)]) hx hb dX12_block_53 hl (by decide) rfl (fun ls hl => ?_)
            refine lv_iload_n hx hb dX12_block_55 rfl (lv_at hl 4 rfl) ?_
            refine lv_iconst (v := 1) hx hb dX12_block_56 (by decide) ?_
            refine lv_iadd hx hb dX12_block_57 ?_
            refine lv_istore (lv' := [(6, .int (k1 + 1)), (5, .int 0), (4, .int (I1.1 k1.toNatClampNeg)), (0, .ref (g 8)), (2, .int e0), (3, .int k1)]) hx hb dX12_block_58 hl (by decide) rfl (fun ls hl => ?_)
            refine lv_iload hx hb dX12_block_60 (lv_at hl 1 rfl) ?_
            refine lv_iload_n hx hb dX12_block_62 rfl (lv_at hl 4 rfl) ?_
            refine lv_iload hx hb dX12_block_63 (lv_at hl 0 rfl) ?_
            refine lv_isub hx hb dX12_block_65 ?_
            refine lv_icmp_le (tgt := 73) hx hb dX12_block_66 (by decide) (fun c_75 => ?_) (fun c_75 => ?_)
            · show _
              refine lv_iload hx hb dX12_block_73 (lv_at hl 0 rfl) ?_
              refine lv_iload hx hb dX12_block_75 (lv_at hl 1 rfl) ?_
              refine lv_iadd hx hb dX12_block_77 ?_
              refine lv_istore (lv' := [(7, .int ((k1 + 1) + 0)), (6, .int (k1 + 1)), (5, .int 0), (4, .int (I1.1 k1.toNatClampNeg)), (0, .ref (g 8)), (2, .int e0), (3, .int k1)]) hx hb dX12_block_78 hl (by decide) rfl (fun ls hl => ?_)
              exact J80 _ _ (to_of (by first | exact Or.inl ⟨by assumption, rfl⟩ | exact Or.inr ⟨by assumption, rfl⟩) (by first | exact Or.inl ⟨by assumption, rfl⟩ | exact Or.inr ⟨by assumption, rfl⟩)) (lv_sub hl [4, 5, 6, 3, 1, 0] rfl)
            · show _
              refine lv_iload_n hx hb dX12_block_69 rfl (lv_at hl 4 rfl) ?_
              refine lv_goto (tgt := 78) hx hb dX12_block_70 (by decide) ?_
              refine lv_istore (lv' := [(7, .int e0), (6, .int (k1 + 1)), (5, .int 0), (4, .int (I1.1 k1.toNatClampNeg)), (0, .ref (g 8)), (2, .int e0), (3, .int k1)]) hx hb dX12_block_78 hl (by decide) rfl (fun ls hl => ?_)
              exact J80 _ _ (to_of (by first | exact Or.inl ⟨by assumption, rfl⟩ | exact Or.inr ⟨by assumption, rfl⟩) (by first | exact Or.inl ⟨by assumption, rfl⟩ | exact Or.inr ⟨by assumption, rfl⟩)) (lv_sub hl [4, 5, 6, 3, 1, 0] rfl)
        · show _
          refine lv_iconst (v := 2) hx hb dX12_block_14 (by decide) ?_
          refine W.bound (fun gb1 gb2 => ?_)
          have gb1 : H.size ≤ s.heap.size + (Y1.2.2.2.2.2.2.2.1 - Y.2.2.2.2.2.2.2.1) := gb1
          have gb2 : hsum H ≤ hsum s.heap + (10 * (Y1.2.2.2.2.2.2.2.1 - Y.2.2.2.2.2.2.2.1) + 2 * (Y1.2.2.2.2.2.2.2.2.1 - Y.2.2.2.2.2.2.2.2.1)) := gb2
          refine W.widen (k := 96000 - Y.2.2.2.2.2.2.2.1) (n := 10 * (96000 - Y.2.2.2.2.2.2.2.1) + 2 * (1542237 - Y.2.2.2.2.2.2.2.2.1)) (by show Y1.2.2.2.2.2.2.2.1 - Y.2.2.2.2.2.2.2.1 ≤ 96000 - Y.2.2.2.2.2.2.2.1; omega) (by show 10 * (Y1.2.2.2.2.2.2.2.1 - Y.2.2.2.2.2.2.2.1) + 2 * (Y1.2.2.2.2.2.2.2.2.1 - Y.2.2.2.2.2.2.2.2.1) ≤ 10 * (96000 - Y.2.2.2.2.2.2.2.1) + 2 * (1542237 - Y.2.2.2.2.2.2.2.2.1); omega) ?_
          refine gr_i (wo := fun u : rY × (Nat → Int32) × (Nat → Int32) × rI × (Nat → Int32) × Int64 × Int32 × Int32 => rW g ty u.1 u.2.1 u.2.2.1 ks u.2.2.2.1 u.2.2.2.2.1 u.2.2.2.2.2.1 u.2.2.2.2.2.2.1 u.2.2.2.2.2.2.2) ((Y1, pa1, kp1, I1, tl1, ac1, wr1, tw1)) hx hb hr hlk hS hP hD (by show H.size ≤ sz + (Y1.2.2.2.2.2.2.2.1 - Y.2.2.2.2.2.2.2.1); rw [← hsz]; omega) (by show hsum H ≤ tot + (10 * (Y1.2.2.2.2.2.2.2.1 - Y.2.2.2.2.2.2.2.1) + 2 * (Y1.2.2.2.2.2.2.2.2.1 - Y.2.2.2.2.2.2.2.2.1)); rw [← htot]; omega) ?_ dX12_block_15
          exact ⟨2, Y1, pa1, kp1, I1, tl1, ac1, wr1, tw1, rfl, rfl, (by exact bk_lack j0 pre1 c_1 c_2), (by first | exact j1 | exact l1 | (refine ⟨⟨?_, ?_⟩, ?_, ?_⟩ <;> omega)), (by first | exact l2 | exact j2)⟩
  refine W.widen (k := Y.2.2.2.2.2.2.2.1 - Y.2.2.2.2.2.2.2.1) (n := 10 * (Y.2.2.2.2.2.2.2.1 - Y.2.2.2.2.2.2.2.1) + 2 * (Y.2.2.2.2.2.2.2.2.1 - Y.2.2.2.2.2.2.2.2.1)) (by show 0 ≤ Y.2.2.2.2.2.2.2.1 - Y.2.2.2.2.2.2.2.1; omega) (by show 0 ≤ 10 * (Y.2.2.2.2.2.2.2.1 - Y.2.2.2.2.2.2.2.1) + 2 * (Y.2.2.2.2.2.2.2.2.1 - Y.2.2.2.2.2.2.2.2.1); omega) ?_
  exact LOOP2 _ Y pa kp I tl ac wr tw b0 _ _ _ rfl (by exact pre0) (by exact ⟨⟨Nat.le_refl _, Nat.le_refl _⟩, bi_L pre0⟩) (by rfl) hP hD hS (lv_sub hl [1, 3, 0] rfl)
theorem c_X12_block (nb : Nat) : bStat nb := by
  induction nb with
  | zero => exact blk_s 0 (fun mb h => absurd h (Nat.succ_ne_zero mb))
  | succ n ih => exact blk_s (n + 1) (fun mb h => by obtain rfl := Nat.succ.inj h; exact ih)

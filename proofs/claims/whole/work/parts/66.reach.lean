theorem ln_i {Y : rY} {t : Nat} {k : Int32} (h1 : 8 ≤ Y.1 t) (h2 : Y.1 t ≤ 11) : rLn Y t k := Or.inl ⟨h1, h2⟩
theorem ln_b {Y : rY} {t : Nat} {k : Int32} (h1 : 12 ≤ Y.1 t) (h2 : Y.1 t ≤ 14) (h3 : k = 1) : rLn Y t k := Or.inr ⟨h1, h2, h3⟩
theorem i_lt_le {a b : Int32} (h : ¬ a < b) : b ≤ a := le_of h
theorem i_lt_leN {a b : Int32} (h : a < b) : ¬ b ≤ a := ge_of h
theorem i_gt_le {a b : Int32} (h : ¬ b < a) : a ≤ b := le_of h
theorem ln_n1 {Y : rY} {t : Nat} {k : Int32} (h1 : ¬ (8 ≤ Y.1 t ∧ Y.1 t ≤ 11)) (h2 : ¬ (12 ≤ Y.1 t ∧ Y.1 t ≤ 14 ∧ k = 1)) : ¬ rLn Y t k := by
  rintro (q | q)
  · exact h1 q
  · exact h2 q
set_option maxHeartbeats 800000 in
set_option maxRecDepth 100000 in
theorem c_X12_links (l : Launch) (dC : Nat → ClassId) (dI : Nat → Nat → Nat) (g : Nat → Nat) (ty : Nat → ClassId) (sz : Nat) (Y : rY) (pa : Nat → Int32) (kp : Nat → Int32) (ks : Int32) (I : rI) (tl : Nat → Int32) (ac : Int64) (wr : Int32) (tw : Int32) (t0 : Int32) (k0 : Int32) (pre0 : vp_in t0 Y.2.2.2.2.2.2.2.1) : Met l yX12_links (Cond.code yX12_links cX12_links 3 (some .boolean) :: gT) ({ frames := 0, cells := 0, slots := 0, locals := 0 }) (cP (dC, dI) (rTy ty) (rW g ty Y pa kp ks I tl ac wr tw) sz [.ref (g 8), .int t0, .int k0]) (va_Qi (fun (rz : Int32) (u : Unit) => (1 = rz ∧ rLn Y t0.toNatClampNeg k0) ∨ (0 = rz ∧ ¬ rLn Y t0.toNatClampNeg k0)) (cB (dC, dI) (fun u : Unit => rW g ty Y pa kp ks I tl ac wr tw) (va_A (rW g ty Y pa kp ks I tl ac wr tw) sz)) (va_A (rW g ty Y pa kp ks I tl ac wr tw) sz)) 0 0 (va_A (rW g ty Y pa kp ks I tl ac wr tw) sz) := by
  refine cc_of (Qa := fun A => va_Qi (fun (rz : Int32) (u : Unit) => (1 = rz ∧ rLn Y t0.toNatClampNeg k0) ∨ (0 = rz ∧ ¬ rLn Y t0.toNatClampNeg k0)) (cB (dC, dI) (fun u : Unit => rW g ty Y pa kp ks I tl ac wr tw) A) A) (by decide) (Nat.le_of_ble_eq_true rfl) ?_
  intro p e s m below meth c A hx hb hr hml hown hg hlk hmn hP hK hD hT hS hA hsz ls hl
  have hown : s.vm.findClass RX12 = some m.cls := hown
  have hl : lv_has ls 3 [(0, .ref (g 8)), (1, .int t0), (2, .int k0)] := hl
  refine lv_aload_n hx hb dX12_links_0 rfl (lv_at hl 0 rfl) ?_
  refine va_get (D := (dC, dI)) (ci := 14) (v := .ref (Y.2.2.2.2.2.2.1 0)) (C := RX12) (T := TX12) (N := 21) hx hb hg inG12 hown hK hP 0 rfl rfl 0 (by decide) (hg _ wF_X12_7) (fun _ h9 => h9) rfl dX12_links_1 ?_
  refine lv_iload_n hx hb dX12_links_4 rfl (lv_at hl 1 rfl) ?_
  refine va_iald hx hb hK hP 1 0 rfl rfl (by first | assumption | exact ln_i (le_of (by assumption)) (by assumption) | exact ln_b (le_of (by assumption)) (le_of (by assumption)) (by assumption) | exact ln_n1 (by first | (intro q9; exact absurd q9.1 (ge_of (by assumption))) | (intro q9; exact absurd q9.2 (by assumption)) | (intro q9; exact absurd q9.2.1 (by assumption)) | (intro q9; exact absurd q9.2.1 (ge_of (by assumption))) | (intro q9; exact absurd q9.2 (ge_of (by assumption))) | (intro q9; exact absurd q9.2.2 (by assumption))) (by first | (intro q9; exact absurd q9.1 (ge_of (by assumption))) | (intro q9; exact absurd q9.2 (by assumption)) | (intro q9; exact absurd q9.2.1 (by assumption)) | (intro q9; exact absurd q9.2.1 (ge_of (by assumption))) | (intro q9; exact absurd q9.2 (ge_of (by assumption))) | (intro q9; exact absurd q9.2.2 (by assumption)))) dX12_links_5 ?_
  refine lv_bipush (v := 8) hx hb dX12_links_6 (by decide) ?_
  refine lv_icmp_lt (tgt := 22) hx hb dX12_links_8 (by decide) (fun c_1 => ?_) (fun c_1 => ?_)
  · show _
    refine lv_aload_n hx hb dX12_links_22 rfl (lv_at hl 0 rfl) ?_
    refine va_get (D := (dC, dI)) (ci := 14) (v := .ref (Y.2.2.2.2.2.2.1 0)) (C := RX12) (T := TX12) (N := 21) hx hb hg inG12 hown hK hP 0 rfl rfl 0 (by decide) (hg _ wF_X12_7) (fun _ h9 => h9) rfl dX12_links_23 ?_
    refine lv_iload_n hx hb dX12_links_26 rfl (lv_at hl 1 rfl) ?_
    refine va_iald hx hb hK hP 1 0 rfl rfl (by first | assumption | exact ln_i (le_of (by assumption)) (by assumption) | exact ln_b (le_of (by assumption)) (le_of (by assumption)) (by assumption) | exact ln_n1 (by first | (intro q9; exact absurd q9.1 (ge_of (by assumption))) | (intro q9; exact absurd q9.2 (by assumption)) | (intro q9; exact absurd q9.2.1 (by assumption)) | (intro q9; exact absurd q9.2.1 (ge_of (by assumption))) | (intro q9; exact absurd q9.2 (ge_of (by assumption))) | (intro q9; exact absurd q9.2.2 (by assumption))) (by first | (intro q9; exact absurd q9.1 (ge_of (by assumption))) | (intro q9; exact absurd q9.2 (by assumption)) | (intro q9; exact absurd q9.2.1 (by assumption)) | (intro q9; exact absurd q9.2.1 (ge_of (by assumption))) | (intro q9; exact absurd q9.2 (ge_of (by assumption))) | (intro q9; exact absurd q9.2.2 (by assumption)))) dX12_links_27 ?_
    refine lv_bipush (v := 12) hx hb dX12_links_28 (by decide) ?_
    refine lv_icmp_lt (tgt := 53) hx hb dX12_links_30 (by decide) (fun c_2 => ?_) (fun c_2 => ?_)
    · show _
      refine lv_iconst (v := 0) hx hb dX12_links_53 (by decide) ?_
      refine cr_z (wo := fun u : Unit => rW g ty Y pa kp ks I tl ac wr tw) (()) hx hb hr hlk hS hP hD rfl ?_ dX12_links_54
      exact Or.inr ⟨rfl, (by first | assumption | exact ln_i (le_of (by assumption)) (by assumption) | exact ln_b (le_of (by assumption)) (le_of (by assumption)) (by assumption) | exact ln_n1 (by first | (intro q9; exact absurd q9.1 (ge_of (by assumption))) | (intro q9; exact absurd q9.2 (by assumption)) | (intro q9; exact absurd q9.2.1 (by assumption)) | (intro q9; exact absurd q9.2.1 (ge_of (by assumption))) | (intro q9; exact absurd q9.2 (ge_of (by assumption))) | (intro q9; exact absurd q9.2.2 (by assumption))) (by first | (intro q9; exact absurd q9.1 (ge_of (by assumption))) | (intro q9; exact absurd q9.2 (by assumption)) | (intro q9; exact absurd q9.2.1 (by assumption)) | (intro q9; exact absurd q9.2.1 (ge_of (by assumption))) | (intro q9; exact absurd q9.2 (ge_of (by assumption))) | (intro q9; exact absurd q9.2.2 (by assumption))))⟩
    · show _
      refine lv_aload_n hx hb dX12_links_33 rfl (lv_at hl 0 rfl) ?_
      refine va_get (D := (dC, dI)) (ci := 14) (v := .ref (Y.2.2.2.2.2.2.1 0)) (C := RX12) (T := TX12) (N := 21) hx hb hg inG12 hown hK hP 0 rfl rfl 0 (by decide) (hg _ wF_X12_7) (fun _ h9 => h9) rfl dX12_links_34 ?_
      refine lv_iload_n hx hb dX12_links_37 rfl (lv_at hl 1 rfl) ?_
      refine va_iald hx hb hK hP 1 0 rfl rfl (by first | assumption | exact ln_i (le_of (by assumption)) (by assumption) | exact ln_b (le_of (by assumption)) (le_of (by assumption)) (by assumption) | exact ln_n1 (by first | (intro q9; exact absurd q9.1 (ge_of (by assumption))) | (intro q9; exact absurd q9.2 (by assumption)) | (intro q9; exact absurd q9.2.1 (by assumption)) | (intro q9; exact absurd q9.2.1 (ge_of (by assumption))) | (intro q9; exact absurd q9.2 (ge_of (by assumption))) | (intro q9; exact absurd q9.2.2 (by assumption))) (by first | (intro q9; exact absurd q9.1 (ge_of (by assumption))) | (intro q9; exact absurd q9.2 (by assumption)) | (intro q9; exact absurd q9.2.1 (by assumption)) | (intro q9; exact absurd q9.2.1 (ge_of (by assumption))) | (intro q9; exact absurd q9.2 (ge_of (by assumption))) | (intro q9; exact absurd q9.2.2 (by assumption)))) dX12_links_38 ?_
      refine lv_bipush (v := 14) hx hb dX12_links_39 (by decide) ?_
      refine lv_icmp_gt (tgt := 53) hx hb dX12_links_41 (by decide) (fun c_3 => ?_) (fun c_3 => ?_)
      · show _
        refine lv_iconst (v := 0) hx hb dX12_links_53 (by decide) ?_
        refine cr_z (wo := fun u : Unit => rW g ty Y pa kp ks I tl ac wr tw) (()) hx hb hr hlk hS hP hD rfl ?_ dX12_links_54
        exact Or.inr ⟨rfl, (by first | assumption | exact ln_i (le_of (by assumption)) (by assumption) | exact ln_b (le_of (by assumption)) (le_of (by assumption)) (by assumption) | exact ln_n1 (by first | (intro q9; exact absurd q9.1 (ge_of (by assumption))) | (intro q9; exact absurd q9.2 (by assumption)) | (intro q9; exact absurd q9.2.1 (by assumption)) | (intro q9; exact absurd q9.2.1 (ge_of (by assumption))) | (intro q9; exact absurd q9.2 (ge_of (by assumption))) | (intro q9; exact absurd q9.2.2 (by assumption))) (by first | (intro q9; exact absurd q9.1 (ge_of (by assumption))) | (intro q9; exact absurd q9.2 (by assumption)) | (intro q9; exact absurd q9.2.1 (by assumption)) | (intro q9; exact absurd q9.2.1 (ge_of (by assumption))) | (intro q9; exact absurd q9.2 (ge_of (by assumption))) | (intro q9; exact absurd q9.2.2 (by assumption))))⟩
      · show _
        refine lv_iload_n hx hb dX12_links_44 rfl (lv_at hl 2 rfl) ?_
        refine lv_iconst (v := 1) hx hb dX12_links_45 (by decide) ?_
        refine lv_icmp_ne (tgt := 53) hx hb dX12_links_46 (by decide) (fun c_4 => ?_) (fun c_4 => ?_)
        · show _
          refine lv_iconst (v := 0) hx hb dX12_links_53 (by decide) ?_
          refine cr_z (wo := fun u : Unit => rW g ty Y pa kp ks I tl ac wr tw) (()) hx hb hr hlk hS hP hD rfl ?_ dX12_links_54
          exact Or.inr ⟨rfl, (by first | assumption | exact ln_i (le_of (by assumption)) (by assumption) | exact ln_b (le_of (by assumption)) (le_of (by assumption)) (by assumption) | exact ln_n1 (by first | (intro q9; exact absurd q9.1 (ge_of (by assumption))) | (intro q9; exact absurd q9.2 (by assumption)) | (intro q9; exact absurd q9.2.1 (by assumption)) | (intro q9; exact absurd q9.2.1 (ge_of (by assumption))) | (intro q9; exact absurd q9.2 (ge_of (by assumption))) | (intro q9; exact absurd q9.2.2 (by assumption))) (by first | (intro q9; exact absurd q9.1 (ge_of (by assumption))) | (intro q9; exact absurd q9.2 (by assumption)) | (intro q9; exact absurd q9.2.1 (by assumption)) | (intro q9; exact absurd q9.2.1 (ge_of (by assumption))) | (intro q9; exact absurd q9.2 (ge_of (by assumption))) | (intro q9; exact absurd q9.2.2 (by assumption))))⟩
        · show _
          refine lv_iconst (v := 1) hx hb dX12_links_49 (by decide) ?_
          refine lv_goto (tgt := 54) hx hb dX12_links_50 (by decide) ?_
          refine cr_z (wo := fun u : Unit => rW g ty Y pa kp ks I tl ac wr tw) (()) hx hb hr hlk hS hP hD rfl ?_ dX12_links_54
          exact Or.inl ⟨rfl, (by first | assumption | exact ln_i (le_of (by assumption)) (by assumption) | exact ln_b (le_of (by assumption)) (le_of (by assumption)) (by assumption) | exact ln_n1 (by first | (intro q9; exact absurd q9.1 (ge_of (by assumption))) | (intro q9; exact absurd q9.2 (by assumption)) | (intro q9; exact absurd q9.2.1 (by assumption)) | (intro q9; exact absurd q9.2.1 (ge_of (by assumption))) | (intro q9; exact absurd q9.2 (ge_of (by assumption))) | (intro q9; exact absurd q9.2.2 (by assumption))) (by first | (intro q9; exact absurd q9.1 (ge_of (by assumption))) | (intro q9; exact absurd q9.2 (by assumption)) | (intro q9; exact absurd q9.2.1 (by assumption)) | (intro q9; exact absurd q9.2.1 (ge_of (by assumption))) | (intro q9; exact absurd q9.2 (ge_of (by assumption))) | (intro q9; exact absurd q9.2.2 (by assumption))))⟩
  · show _
    refine lv_aload_n hx hb dX12_links_11 rfl (lv_at hl 0 rfl) ?_
    refine va_get (D := (dC, dI)) (ci := 14) (v := .ref (Y.2.2.2.2.2.2.1 0)) (C := RX12) (T := TX12) (N := 21) hx hb hg inG12 hown hK hP 0 rfl rfl 0 (by decide) (hg _ wF_X12_7) (fun _ h9 => h9) rfl dX12_links_12 ?_
    refine lv_iload_n hx hb dX12_links_15 rfl (lv_at hl 1 rfl) ?_
    refine va_iald hx hb hK hP 1 0 rfl rfl (by first | assumption | exact ln_i (le_of (by assumption)) (by assumption) | exact ln_b (le_of (by assumption)) (le_of (by assumption)) (by assumption) | exact ln_n1 (by first | (intro q9; exact absurd q9.1 (ge_of (by assumption))) | (intro q9; exact absurd q9.2 (by assumption)) | (intro q9; exact absurd q9.2.1 (by assumption)) | (intro q9; exact absurd q9.2.1 (ge_of (by assumption))) | (intro q9; exact absurd q9.2 (ge_of (by assumption))) | (intro q9; exact absurd q9.2.2 (by assumption))) (by first | (intro q9; exact absurd q9.1 (ge_of (by assumption))) | (intro q9; exact absurd q9.2 (by assumption)) | (intro q9; exact absurd q9.2.1 (by assumption)) | (intro q9; exact absurd q9.2.1 (ge_of (by assumption))) | (intro q9; exact absurd q9.2 (ge_of (by assumption))) | (intro q9; exact absurd q9.2.2 (by assumption)))) dX12_links_16 ?_
    refine lv_bipush (v := 11) hx hb dX12_links_17 (by decide) ?_
    refine lv_icmp_le (tgt := 49) hx hb dX12_links_19 (by decide) (fun c_5 => ?_) (fun c_5 => ?_)
    · show _
      refine lv_iconst (v := 1) hx hb dX12_links_49 (by decide) ?_
      refine lv_goto (tgt := 54) hx hb dX12_links_50 (by decide) ?_
      refine cr_z (wo := fun u : Unit => rW g ty Y pa kp ks I tl ac wr tw) (()) hx hb hr hlk hS hP hD rfl ?_ dX12_links_54
      exact Or.inl ⟨rfl, (by first | assumption | exact ln_i (le_of (by assumption)) (by assumption) | exact ln_b (le_of (by assumption)) (le_of (by assumption)) (by assumption) | exact ln_n1 (by first | (intro q9; exact absurd q9.1 (ge_of (by assumption))) | (intro q9; exact absurd q9.2 (by assumption)) | (intro q9; exact absurd q9.2.1 (by assumption)) | (intro q9; exact absurd q9.2.1 (ge_of (by assumption))) | (intro q9; exact absurd q9.2 (ge_of (by assumption))) | (intro q9; exact absurd q9.2.2 (by assumption))) (by first | (intro q9; exact absurd q9.1 (ge_of (by assumption))) | (intro q9; exact absurd q9.2 (by assumption)) | (intro q9; exact absurd q9.2.1 (by assumption)) | (intro q9; exact absurd q9.2.1 (ge_of (by assumption))) | (intro q9; exact absurd q9.2 (ge_of (by assumption))) | (intro q9; exact absurd q9.2.2 (by assumption))))⟩
    · show _
      refine lv_aload_n hx hb dX12_links_22 rfl (lv_at hl 0 rfl) ?_
      refine va_get (D := (dC, dI)) (ci := 14) (v := .ref (Y.2.2.2.2.2.2.1 0)) (C := RX12) (T := TX12) (N := 21) hx hb hg inG12 hown hK hP 0 rfl rfl 0 (by decide) (hg _ wF_X12_7) (fun _ h9 => h9) rfl dX12_links_23 ?_
      refine lv_iload_n hx hb dX12_links_26 rfl (lv_at hl 1 rfl) ?_
      refine va_iald hx hb hK hP 1 0 rfl rfl (by first | assumption | exact ln_i (le_of (by assumption)) (by assumption) | exact ln_b (le_of (by assumption)) (le_of (by assumption)) (by assumption) | exact ln_n1 (by first | (intro q9; exact absurd q9.1 (ge_of (by assumption))) | (intro q9; exact absurd q9.2 (by assumption)) | (intro q9; exact absurd q9.2.1 (by assumption)) | (intro q9; exact absurd q9.2.1 (ge_of (by assumption))) | (intro q9; exact absurd q9.2 (ge_of (by assumption))) | (intro q9; exact absurd q9.2.2 (by assumption))) (by first | (intro q9; exact absurd q9.1 (ge_of (by assumption))) | (intro q9; exact absurd q9.2 (by assumption)) | (intro q9; exact absurd q9.2.1 (by assumption)) | (intro q9; exact absurd q9.2.1 (ge_of (by assumption))) | (intro q9; exact absurd q9.2 (ge_of (by assumption))) | (intro q9; exact absurd q9.2.2 (by assumption)))) dX12_links_27 ?_
      refine lv_bipush (v := 12) hx hb dX12_links_28 (by decide) ?_
      refine lv_icmp_lt (tgt := 53) hx hb dX12_links_30 (by decide) (fun c_6 => ?_) (fun c_6 => ?_)
      · show _
        refine lv_iconst (v := 0) hx hb dX12_links_53 (by decide) ?_
        refine cr_z (wo := fun u : Unit => rW g ty Y pa kp ks I tl ac wr tw) (()) hx hb hr hlk hS hP hD rfl ?_ dX12_links_54
        exact Or.inr ⟨rfl, (by first | assumption | exact ln_i (le_of (by assumption)) (by assumption) | exact ln_b (le_of (by assumption)) (le_of (by assumption)) (by assumption) | exact ln_n1 (by first | (intro q9; exact absurd q9.1 (ge_of (by assumption))) | (intro q9; exact absurd q9.2 (by assumption)) | (intro q9; exact absurd q9.2.1 (by assumption)) | (intro q9; exact absurd q9.2.1 (ge_of (by assumption))) | (intro q9; exact absurd q9.2 (ge_of (by assumption))) | (intro q9; exact absurd q9.2.2 (by assumption))) (by first | (intro q9; exact absurd q9.1 (ge_of (by assumption))) | (intro q9; exact absurd q9.2 (by assumption)) | (intro q9; exact absurd q9.2.1 (by assumption)) | (intro q9; exact absurd q9.2.1 (ge_of (by assumption))) | (intro q9; exact absurd q9.2 (ge_of (by assumption))) | (intro q9; exact absurd q9.2.2 (by assumption))))⟩
      · show _
        refine lv_aload_n hx hb dX12_links_33 rfl (lv_at hl 0 rfl) ?_
        refine va_get (D := (dC, dI)) (ci := 14) (v := .ref (Y.2.2.2.2.2.2.1 0)) (C := RX12) (T := TX12) (N := 21) hx hb hg inG12 hown hK hP 0 rfl rfl 0 (by decide) (hg _ wF_X12_7) (fun _ h9 => h9) rfl dX12_links_34 ?_
        refine lv_iload_n hx hb dX12_links_37 rfl (lv_at hl 1 rfl) ?_
        refine va_iald hx hb hK hP 1 0 rfl rfl (by first | assumption | exact ln_i (le_of (by assumption)) (by assumption) | exact ln_b (le_of (by assumption)) (le_of (by assumption)) (by assumption) | exact ln_n1 (by first | (intro q9; exact absurd q9.1 (ge_of (by assumption))) | (intro q9; exact absurd q9.2 (by assumption)) | (intro q9; exact absurd q9.2.1 (by assumption)) | (intro q9; exact absurd q9.2.1 (ge_of (by assumption))) | (intro q9; exact absurd q9.2 (ge_of (by assumption))) | (intro q9; exact absurd q9.2.2 (by assumption))) (by first | (intro q9; exact absurd q9.1 (ge_of (by assumption))) | (intro q9; exact absurd q9.2 (by assumption)) | (intro q9; exact absurd q9.2.1 (by assumption)) | (intro q9; exact absurd q9.2.1 (ge_of (by assumption))) | (intro q9; exact absurd q9.2 (ge_of (by assumption))) | (intro q9; exact absurd q9.2.2 (by assumption)))) dX12_links_38 ?_
        refine lv_bipush (v := 14) hx hb dX12_links_39 (by decide) ?_
        refine lv_icmp_gt (tgt := 53) hx hb dX12_links_41 (by decide) (fun c_7 => ?_) (fun c_7 => ?_)
        · show _
          refine lv_iconst (v := 0) hx hb dX12_links_53 (by decide) ?_
          refine cr_z (wo := fun u : Unit => rW g ty Y pa kp ks I tl ac wr tw) (()) hx hb hr hlk hS hP hD rfl ?_ dX12_links_54
          exact Or.inr ⟨rfl, (by first | assumption | exact ln_i (le_of (by assumption)) (by assumption) | exact ln_b (le_of (by assumption)) (le_of (by assumption)) (by assumption) | exact ln_n1 (by first | (intro q9; exact absurd q9.1 (ge_of (by assumption))) | (intro q9; exact absurd q9.2 (by assumption)) | (intro q9; exact absurd q9.2.1 (by assumption)) | (intro q9; exact absurd q9.2.1 (ge_of (by assumption))) | (intro q9; exact absurd q9.2 (ge_of (by assumption))) | (intro q9; exact absurd q9.2.2 (by assumption))) (by first | (intro q9; exact absurd q9.1 (ge_of (by assumption))) | (intro q9; exact absurd q9.2 (by assumption)) | (intro q9; exact absurd q9.2.1 (by assumption)) | (intro q9; exact absurd q9.2.1 (ge_of (by assumption))) | (intro q9; exact absurd q9.2 (ge_of (by assumption))) | (intro q9; exact absurd q9.2.2 (by assumption))))⟩
        · show _
          refine lv_iload_n hx hb dX12_links_44 rfl (lv_at hl 2 rfl) ?_
          refine lv_iconst (v := 1) hx hb dX12_links_45 (by decide) ?_
          refine lv_icmp_ne (tgt := 53) hx hb dX12_links_46 (by decide) (fun c_8 => ?_) (fun c_8 => ?_)
          · show _
            refine lv_iconst (v := 0) hx hb dX12_links_53 (by decide) ?_
            refine cr_z (wo := fun u : Unit => rW g ty Y pa kp ks I tl ac wr tw) (()) hx hb hr hlk hS hP hD rfl ?_ dX12_links_54
            exact Or.inr ⟨rfl, (by first | assumption | exact ln_i (le_of (by assumption)) (by assumption) | exact ln_b (le_of (by assumption)) (le_of (by assumption)) (by assumption) | exact ln_n1 (by first | (intro q9; exact absurd q9.1 (ge_of (by assumption))) | (intro q9; exact absurd q9.2 (by assumption)) | (intro q9; exact absurd q9.2.1 (by assumption)) | (intro q9; exact absurd q9.2.1 (ge_of (by assumption))) | (intro q9; exact absurd q9.2 (ge_of (by assumption))) | (intro q9; exact absurd q9.2.2 (by assumption))) (by first | (intro q9; exact absurd q9.1 (ge_of (by assumption))) | (intro q9; exact absurd q9.2 (by assumption)) | (intro q9; exact absurd q9.2.1 (by assumption)) | (intro q9; exact absurd q9.2.1 (ge_of (by assumption))) | (intro q9; exact absurd q9.2 (ge_of (by assumption))) | (intro q9; exact absurd q9.2.2 (by assumption))))⟩
          · show _
            refine lv_iconst (v := 1) hx hb dX12_links_49 (by decide) ?_
            refine lv_goto (tgt := 54) hx hb dX12_links_50 (by decide) ?_
            refine cr_z (wo := fun u : Unit => rW g ty Y pa kp ks I tl ac wr tw) (()) hx hb hr hlk hS hP hD rfl ?_ dX12_links_54
            exact Or.inl ⟨rfl, (by first | assumption | exact ln_i (le_of (by assumption)) (by assumption) | exact ln_b (le_of (by assumption)) (le_of (by assumption)) (by assumption) | exact ln_n1 (by first | (intro q9; exact absurd q9.1 (ge_of (by assumption))) | (intro q9; exact absurd q9.2 (by assumption)) | (intro q9; exact absurd q9.2.1 (by assumption)) | (intro q9; exact absurd q9.2.1 (ge_of (by assumption))) | (intro q9; exact absurd q9.2 (ge_of (by assumption))) | (intro q9; exact absurd q9.2.2 (by assumption))) (by first | (intro q9; exact absurd q9.1 (ge_of (by assumption))) | (intro q9; exact absurd q9.2 (by assumption)) | (intro q9; exact absurd q9.2.1 (by assumption)) | (intro q9; exact absurd q9.2.1 (ge_of (by assumption))) | (intro q9; exact absurd q9.2 (ge_of (by assumption))) | (intro q9; exact absurd q9.2.2 (by assumption))))⟩
set_option maxHeartbeats 800000 in
set_option maxRecDepth 100000 in
theorem c_X12_reach (l : Launch) (dC : Nat → ClassId) (dI : Nat → Nat → Nat) (g : Nat → Nat) (ty : Nat → ClassId) (sz : Nat) (Y : rY) (pa : Nat → Int32) (kp : Nat → Int32) (ks : Int32) (I : rI) (tl : Nat → Int32) (ac : Int64) (wr : Int32) (tw : Int32) (t0 : Int32) (w0 : Int32) (pre0 : t0 = 0 ∨ vp_in t0 Y.2.2.2.2.2.2.2.1) (pre1 : vp_in w0 Y.2.2.2.2.2.2.2.1) : Met l yX12_reach (Cond.code yX12_reach cX12_reach 3 (some .int) :: gT) ({ frames := 0, cells := 0, slots := 0, locals := 0 }) (cP (dC, dI) (rTy ty) (rW g ty Y pa kp ks I tl ac wr tw) sz [.ref (g 8), .int t0, .int w0]) (va_Qi (fun (rz : Int32) (u : rY) => (w0 = rz ∧ Y = u ∧ (t0 = 0 ∨ ¬ Y.2.2.2.2.1 t0.toNatClampNeg = 0)) ∨ ((w0 + 1) = rz ∧ (Y.1, Y.2.1, Y.2.2.1, (upd Y.2.2.2.1 w0.toNatClampNeg t0), (updZ Y.2.2.2.2.1 t0.toNatClampNeg 1), Y.2.2.2.2.2.1, Y.2.2.2.2.2.2.1, Y.2.2.2.2.2.2.2.1, Y.2.2.2.2.2.2.2.2.1, Y.2.2.2.2.2.2.2.2.2.1, Y.2.2.2.2.2.2.2.2.2.2) = u ∧ ¬ t0 = 0 ∧ Y.2.2.2.2.1 t0.toNatClampNeg = 0)) (cB (dC, dI) (fun u : rY => rW g ty u pa kp ks I tl ac wr tw) (va_A (rW g ty Y pa kp ks I tl ac wr tw) sz)) (va_A (rW g ty Y pa kp ks I tl ac wr tw) sz)) 0 0 (va_A (rW g ty Y pa kp ks I tl ac wr tw) sz) := by
  refine cc_of (Qa := fun A => va_Qi (fun (rz : Int32) (u : rY) => (w0 = rz ∧ Y = u ∧ (t0 = 0 ∨ ¬ Y.2.2.2.2.1 t0.toNatClampNeg = 0)) ∨ ((w0 + 1) = rz ∧ (Y.1, Y.2.1, Y.2.2.1, (upd Y.2.2.2.1 w0.toNatClampNeg t0), (updZ Y.2.2.2.2.1 t0.toNatClampNeg 1), Y.2.2.2.2.2.1, Y.2.2.2.2.2.2.1, Y.2.2.2.2.2.2.2.1, Y.2.2.2.2.2.2.2.2.1, Y.2.2.2.2.2.2.2.2.2.1, Y.2.2.2.2.2.2.2.2.2.2) = u ∧ ¬ t0 = 0 ∧ Y.2.2.2.2.1 t0.toNatClampNeg = 0)) (cB (dC, dI) (fun u : rY => rW g ty u pa kp ks I tl ac wr tw) A) A) (by decide) (Nat.le_of_ble_eq_true rfl) ?_
  intro p e s m below meth c A hx hb hr hml hown hg hlk hmn hP hK hD hT hS hA hsz ls hl
  have hown : s.vm.findClass RX12 = some m.cls := hown
  have hl : lv_has ls 3 [(0, .ref (g 8)), (1, .int t0), (2, .int w0)] := hl
  refine lv_iload_n hx hb dX12_reach_0 rfl (lv_at hl 1 rfl) ?_
  refine lv_if_eq (tgt := 13) hx hb dX12_reach_1 (by decide) (fun c_1 => ?_) (fun c_1 => ?_)
  · show _
    refine lv_iload_n hx hb dX12_reach_13 rfl (lv_at hl 2 rfl) ?_
    refine cr_i (wo := fun u : rY => rW g ty u pa kp ks I tl ac wr tw) (Y) hx hb hr hlk hS hP hD ?_ dX12_reach_14
    exact Or.inl ⟨rfl, rfl, (by first | assumption | exact Or.inl (by assumption) | exact Or.inr (by assumption) | exact pre0.resolve_left (by assumption))⟩
  · show _
    refine lv_aload_n hx hb dX12_reach_4 rfl (lv_at hl 0 rfl) ?_
    refine va_get (D := (dC, dI)) (ci := 14) (v := .ref (Y.2.2.2.2.2.2.1 4)) (C := RX12) (T := TX12) (N := 21) hx hb hg inG12 hown hK hP 0 rfl rfl 4 (by decide) (hg _ wF_X12_22) (fun _ h9 => h9) rfl dX12_reach_5 ?_
    refine lv_iload_n hx hb dX12_reach_8 rfl (lv_at hl 1 rfl) ?_
    refine va_zald hx hb hK hP 5 3 rfl rfl (by first | assumption | exact Or.inl (by assumption) | exact Or.inr (by assumption) | exact pre0.resolve_left (by assumption)) dX12_reach_9 ?_
    refine lv_if_eq (tgt := 15) hx hb dX12_reach_10 (by decide) (fun c_2 => ?_) (fun c_2 => ?_)
    · show _
      refine lv_aload_n hx hb dX12_reach_15 rfl (lv_at hl 0 rfl) ?_
      refine va_get (D := (dC, dI)) (ci := 14) (v := .ref (Y.2.2.2.2.2.2.1 4)) (C := RX12) (T := TX12) (N := 21) hx hb hg inG12 hown hK hP 0 rfl rfl 4 (by decide) (hg _ wF_X12_22) (fun _ h9 => h9) rfl dX12_reach_16 ?_
      refine lv_iload_n hx hb dX12_reach_19 rfl (lv_at hl 1 rfl) ?_
      refine lv_iconst (v := 1) hx hb dX12_reach_20 (by decide) ?_
      refine va_zast hx hb hK hP hD hS 5 3 rfl rfl (by first | assumption | exact Or.inl (by assumption) | exact Or.inr (by assumption) | exact pre0.resolve_left (by assumption)) dX12_reach_21 (fun H locs hP hD hS => ?_)
      have hP : va_P (dC, dI) vwCl (rW g ty (Y.1, Y.2.1, Y.2.2.1, Y.2.2.2.1, (updZ Y.2.2.2.2.1 t0.toNatClampNeg 1), Y.2.2.2.2.2.1, Y.2.2.2.2.2.2.1, Y.2.2.2.2.2.2.2.1, Y.2.2.2.2.2.2.2.2.1, Y.2.2.2.2.2.2.2.2.2.1, Y.2.2.2.2.2.2.2.2.2.2) pa kp ks I tl ac wr tw) H := hP
      have hD : va_D A (rW g ty (Y.1, Y.2.1, Y.2.2.1, Y.2.2.2.1, (updZ Y.2.2.2.2.1 t0.toNatClampNeg 1), Y.2.2.2.2.2.1, Y.2.2.2.2.2.2.1, Y.2.2.2.2.2.2.2.1, Y.2.2.2.2.2.2.2.2.1, Y.2.2.2.2.2.2.2.2.2.1, Y.2.2.2.2.2.2.2.2.2.2) pa kp ks I tl ac wr tw) := hD
      refine lv_aload_n hx hb dX12_reach_22 rfl (lv_at hl 0 rfl) ?_
      refine va_get (D := (dC, dI)) (ci := 14) (v := .ref (Y.2.2.2.2.2.2.1 3)) (C := RX12) (T := TX12) (N := 21) hx hb hg inG12 hown hK hP 0 rfl rfl 3 (by decide) (hg _ wF_X12_19) (fun _ h9 => h9) rfl dX12_reach_23 ?_
      refine lv_iload_n hx hb dX12_reach_26 rfl (lv_at hl 2 rfl) ?_
      refine lv_iload_n hx hb dX12_reach_27 rfl (lv_at hl 1 rfl) ?_
      refine va_iast hx hb hK hP hD hS 4 0 rfl rfl (by first | assumption | exact Or.inl (by assumption) | exact Or.inr (by assumption) | exact pre0.resolve_left (by assumption)) dX12_reach_28 (fun H locs hP hD hS => ?_)
      have hP : va_P (dC, dI) vwCl (rW g ty (Y.1, Y.2.1, Y.2.2.1, (upd Y.2.2.2.1 w0.toNatClampNeg t0), (updZ Y.2.2.2.2.1 t0.toNatClampNeg 1), Y.2.2.2.2.2.1, Y.2.2.2.2.2.2.1, Y.2.2.2.2.2.2.2.1, Y.2.2.2.2.2.2.2.2.1, Y.2.2.2.2.2.2.2.2.2.1, Y.2.2.2.2.2.2.2.2.2.2) pa kp ks I tl ac wr tw) H := hP
      have hD : va_D A (rW g ty (Y.1, Y.2.1, Y.2.2.1, (upd Y.2.2.2.1 w0.toNatClampNeg t0), (updZ Y.2.2.2.2.1 t0.toNatClampNeg 1), Y.2.2.2.2.2.1, Y.2.2.2.2.2.2.1, Y.2.2.2.2.2.2.2.1, Y.2.2.2.2.2.2.2.2.1, Y.2.2.2.2.2.2.2.2.2.1, Y.2.2.2.2.2.2.2.2.2.2) pa kp ks I tl ac wr tw) := hD
      refine lv_iload_n hx hb dX12_reach_29 rfl (lv_at hl 2 rfl) ?_
      refine lv_iconst (v := 1) hx hb dX12_reach_30 (by decide) ?_
      refine lv_iadd hx hb dX12_reach_31 ?_
      refine cr_i (wo := fun u : rY => rW g ty u pa kp ks I tl ac wr tw) ((Y.1, Y.2.1, Y.2.2.1, (upd Y.2.2.2.1 w0.toNatClampNeg t0), (updZ Y.2.2.2.2.1 t0.toNatClampNeg 1), Y.2.2.2.2.2.1, Y.2.2.2.2.2.2.1, Y.2.2.2.2.2.2.2.1, Y.2.2.2.2.2.2.2.2.1, Y.2.2.2.2.2.2.2.2.2.1, Y.2.2.2.2.2.2.2.2.2.2)) hx hb hr hlk hS hP hD ?_ dX12_reach_32
      exact Or.inr ⟨rfl, rfl, (by first | assumption | exact Or.inl (by assumption) | exact Or.inr (by assumption) | exact pre0.resolve_left (by assumption)), (by first | assumption | exact Or.inl (by assumption) | exact Or.inr (by assumption) | exact pre0.resolve_left (by assumption))⟩
    · show _
      refine lv_iload_n hx hb dX12_reach_13 rfl (lv_at hl 2 rfl) ?_
      refine cr_i (wo := fun u : rY => rW g ty u pa kp ks I tl ac wr tw) (Y) hx hb hr hlk hS hP hD ?_ dX12_reach_14
      exact Or.inl ⟨rfl, rfl, (by first | assumption | exact Or.inl (by assumption) | exact Or.inr (by assumption) | exact pre0.resolve_left (by assumption))⟩

set_option maxHeartbeats 4000000 in
set_option maxRecDepth 100000 in
theorem c_X3_isOf (l : Launch) (dC : Nat → ClassId) (dI : Nat → Nat → Nat) (tys : List (ClassId × FieldType)) (ws : va_W) (sz : Nat)  (a0 : Nat) (s0 : Int32) : Met l yX3_isOf (Cond.code yX3_isOf cX3_isOf 2 (some .boolean) :: gT) ({ frames := 0, cells := 0, slots := 0, locals := 0 }) (cP (dC, dI) tys (ws) sz [.ref (a0), .int s0]) (va_Qi (fun (rz : Int32) (u : Unit) => (1 = rz ∧ (s0 = 12 ∨ s0 = 13 ∨ s0 = 14)) ∨ (0 = rz ∧ ¬ s0 = 12 ∧ ¬ s0 = 13 ∧ ¬ s0 = 14)) (cB (dC, dI) (fun u : Unit => ws) (va_A (ws) sz)) (va_A (ws) sz)) 0 0 (va_A (ws) sz) := by
  refine cc_of (Qa := fun A => va_Qi (fun (rz : Int32) (u : Unit) => (1 = rz ∧ (s0 = 12 ∨ s0 = 13 ∨ s0 = 14)) ∨ (0 = rz ∧ ¬ s0 = 12 ∧ ¬ s0 = 13 ∧ ¬ s0 = 14)) (cB (dC, dI) (fun u : Unit => ws) A) A) (by decide) (Nat.le_of_ble_eq_true rfl) ?_
  intro p e s m below meth c A hx hb hr hml hown hg hlk hmn hP hK hD hT hS hA hsz ls hl
  have hown : s.vm.findClass RX3 = some m.cls := hown
  have hl : lv_has ls 2 [(0, .ref a0), (1, .int s0)] := hl
  refine lv_iload_n hx hb dX3_isOf_0 rfl (lv_at hl 1 rfl) ?_
  refine lv_bipush (v := 12) hx hb dX3_isOf_1 (by decide) ?_
  refine lv_icmp_eq (tgt := 18) hx hb dX3_isOf_3 (by decide) (fun c_1 => ?_) (fun c_1 => ?_)
  · show _
    refine lv_iconst (v := 1) hx hb dX3_isOf_18 (by decide) ?_
    refine lv_goto (tgt := 23) hx hb dX3_isOf_19 (by decide) ?_
    refine cr_z (wo := fun u : Unit => ws) (()) hx hb hr hlk hS hP hD rfl ?_ dX3_isOf_23
    exact Or.inl ⟨rfl, (by first | assumption | exact Or.inl (by assumption) | exact Or.inr (Or.inl (by assumption)) | exact Or.inr (Or.inr (by assumption)) | exact ⟨by assumption, by assumption⟩ | exact Or.inr (by assumption) | exact Or.inl (by symm; assumption) | exact Or.inr ⟨by assumption, by assumption⟩ | exact fun h9 => absurd h9 (by assumption) | exact fun h9 => absurd h9.1 (by assumption) | exact fun h9 => absurd h9.2 (by assumption))⟩
  · show _
    refine lv_iload_n hx hb dX3_isOf_6 rfl (lv_at hl 1 rfl) ?_
    refine lv_bipush (v := 13) hx hb dX3_isOf_7 (by decide) ?_
    refine lv_icmp_eq (tgt := 18) hx hb dX3_isOf_9 (by decide) (fun c_2 => ?_) (fun c_2 => ?_)
    · show _
      refine lv_iconst (v := 1) hx hb dX3_isOf_18 (by decide) ?_
      refine lv_goto (tgt := 23) hx hb dX3_isOf_19 (by decide) ?_
      refine cr_z (wo := fun u : Unit => ws) (()) hx hb hr hlk hS hP hD rfl ?_ dX3_isOf_23
      exact Or.inl ⟨rfl, (by first | assumption | exact Or.inl (by assumption) | exact Or.inr (Or.inl (by assumption)) | exact Or.inr (Or.inr (by assumption)) | exact ⟨by assumption, by assumption⟩ | exact Or.inr (by assumption) | exact Or.inl (by symm; assumption) | exact Or.inr ⟨by assumption, by assumption⟩ | exact fun h9 => absurd h9 (by assumption) | exact fun h9 => absurd h9.1 (by assumption) | exact fun h9 => absurd h9.2 (by assumption))⟩
    · show _
      refine lv_iload_n hx hb dX3_isOf_12 rfl (lv_at hl 1 rfl) ?_
      refine lv_bipush (v := 14) hx hb dX3_isOf_13 (by decide) ?_
      refine lv_icmp_ne (tgt := 22) hx hb dX3_isOf_15 (by decide) (fun c_3 => ?_) (fun c_3 => ?_)
      · show _
        refine lv_iconst (v := 0) hx hb dX3_isOf_22 (by decide) ?_
        refine cr_z (wo := fun u : Unit => ws) (()) hx hb hr hlk hS hP hD rfl ?_ dX3_isOf_23
        exact Or.inr ⟨rfl, (by first | assumption | exact Or.inl (by assumption) | exact Or.inr (Or.inl (by assumption)) | exact Or.inr (Or.inr (by assumption)) | exact ⟨by assumption, by assumption⟩ | exact Or.inr (by assumption) | exact Or.inl (by symm; assumption) | exact Or.inr ⟨by assumption, by assumption⟩ | exact fun h9 => absurd h9 (by assumption) | exact fun h9 => absurd h9.1 (by assumption) | exact fun h9 => absurd h9.2 (by assumption)), (by first | assumption | exact Or.inl (by assumption) | exact Or.inr (Or.inl (by assumption)) | exact Or.inr (Or.inr (by assumption)) | exact ⟨by assumption, by assumption⟩ | exact Or.inr (by assumption) | exact Or.inl (by symm; assumption) | exact Or.inr ⟨by assumption, by assumption⟩ | exact fun h9 => absurd h9 (by assumption) | exact fun h9 => absurd h9.1 (by assumption) | exact fun h9 => absurd h9.2 (by assumption)), (by first | assumption | exact Or.inl (by assumption) | exact Or.inr (Or.inl (by assumption)) | exact Or.inr (Or.inr (by assumption)) | exact ⟨by assumption, by assumption⟩ | exact Or.inr (by assumption) | exact Or.inl (by symm; assumption) | exact Or.inr ⟨by assumption, by assumption⟩ | exact fun h9 => absurd h9 (by assumption) | exact fun h9 => absurd h9.1 (by assumption) | exact fun h9 => absurd h9.2 (by assumption))⟩
      · show _
        refine lv_iconst (v := 1) hx hb dX3_isOf_18 (by decide) ?_
        refine lv_goto (tgt := 23) hx hb dX3_isOf_19 (by decide) ?_
        refine cr_z (wo := fun u : Unit => ws) (()) hx hb hr hlk hS hP hD rfl ?_ dX3_isOf_23
        exact Or.inl ⟨rfl, (by first | assumption | exact Or.inl (by assumption) | exact Or.inr (Or.inl (by assumption)) | exact Or.inr (Or.inr (by assumption)) | exact ⟨by assumption, by assumption⟩ | exact Or.inr (by assumption) | exact Or.inl (by symm; assumption) | exact Or.inr ⟨by assumption, by assumption⟩ | exact fun h9 => absurd h9 (by assumption) | exact fun h9 => absurd h9.1 (by assumption) | exact fun h9 => absurd h9.2 (by assumption))⟩
set_option maxHeartbeats 4000000 in
set_option maxRecDepth 100000 in
theorem c_X4_isOf (l : Launch) (dC : Nat → ClassId) (dI : Nat → Nat → Nat) (tys : List (ClassId × FieldType)) (ws : va_W) (sz : Nat)  (a0 : Nat) (s0 : Int32) : Met l yX4_isOf (Cond.code yX4_isOf cX4_isOf 2 (some .boolean) :: gT) ({ frames := 0, cells := 0, slots := 0, locals := 0 }) (cP (dC, dI) tys (ws) sz [.ref (a0), .int s0]) (va_Qi (fun (rz : Int32) (u : Unit) => (1 = rz ∧ s0 = 14) ∨ (0 = rz ∧ ¬ s0 = 14)) (cB (dC, dI) (fun u : Unit => ws) (va_A (ws) sz)) (va_A (ws) sz)) 0 0 (va_A (ws) sz) := by
  refine cc_of (Qa := fun A => va_Qi (fun (rz : Int32) (u : Unit) => (1 = rz ∧ s0 = 14) ∨ (0 = rz ∧ ¬ s0 = 14)) (cB (dC, dI) (fun u : Unit => ws) A) A) (by decide) (Nat.le_of_ble_eq_true rfl) ?_
  intro p e s m below meth c A hx hb hr hml hown hg hlk hmn hP hK hD hT hS hA hsz ls hl
  have hown : s.vm.findClass RX4 = some m.cls := hown
  have hl : lv_has ls 2 [(0, .ref a0), (1, .int s0)] := hl
  refine lv_iload_n hx hb dX4_isOf_0 rfl (lv_at hl 1 rfl) ?_
  refine lv_bipush (v := 14) hx hb dX4_isOf_1 (by decide) ?_
  refine lv_icmp_ne (tgt := 10) hx hb dX4_isOf_3 (by decide) (fun c_1 => ?_) (fun c_1 => ?_)
  · show _
    refine lv_iconst (v := 0) hx hb dX4_isOf_10 (by decide) ?_
    refine cr_z (wo := fun u : Unit => ws) (()) hx hb hr hlk hS hP hD rfl ?_ dX4_isOf_11
    exact Or.inr ⟨rfl, (by first | assumption | exact Or.inl (by assumption) | exact Or.inr (Or.inl (by assumption)) | exact Or.inr (Or.inr (by assumption)) | exact ⟨by assumption, by assumption⟩ | exact Or.inr (by assumption) | exact Or.inl (by symm; assumption) | exact Or.inr ⟨by assumption, by assumption⟩ | exact fun h9 => absurd h9 (by assumption) | exact fun h9 => absurd h9.1 (by assumption) | exact fun h9 => absurd h9.2 (by assumption))⟩
  · show _
    refine lv_iconst (v := 1) hx hb dX4_isOf_6 (by decide) ?_
    refine lv_goto (tgt := 11) hx hb dX4_isOf_7 (by decide) ?_
    refine cr_z (wo := fun u : Unit => ws) (()) hx hb hr hlk hS hP hD rfl ?_ dX4_isOf_11
    exact Or.inl ⟨rfl, (by first | assumption | exact Or.inl (by assumption) | exact Or.inr (Or.inl (by assumption)) | exact Or.inr (Or.inr (by assumption)) | exact ⟨by assumption, by assumption⟩ | exact Or.inr (by assumption) | exact Or.inl (by symm; assumption) | exact Or.inr ⟨by assumption, by assumption⟩ | exact fun h9 => absurd h9 (by assumption) | exact fun h9 => absurd h9.1 (by assumption) | exact fun h9 => absurd h9.2 (by assumption))⟩
set_option maxHeartbeats 4000000 in
set_option maxRecDepth 100000 in
theorem c_X5_isOf (l : Launch) (dC : Nat → ClassId) (dI : Nat → Nat → Nat) (tys : List (ClassId × FieldType)) (ws : va_W) (sz : Nat)  (a0 : Nat) (s0 : Int32) : Met l yX5_isOf (Cond.code yX5_isOf cX5_isOf 2 (some .boolean) :: gT) ({ frames := 0, cells := 0, slots := 0, locals := 0 }) (cP (dC, dI) tys (ws) sz [.ref (a0), .int s0]) (va_Qi (fun (rz : Int32) (u : Unit) => (1 = rz ∧ s0 = 15) ∨ (0 = rz ∧ ¬ s0 = 15)) (cB (dC, dI) (fun u : Unit => ws) (va_A (ws) sz)) (va_A (ws) sz)) 0 0 (va_A (ws) sz) := by
  refine cc_of (Qa := fun A => va_Qi (fun (rz : Int32) (u : Unit) => (1 = rz ∧ s0 = 15) ∨ (0 = rz ∧ ¬ s0 = 15)) (cB (dC, dI) (fun u : Unit => ws) A) A) (by decide) (Nat.le_of_ble_eq_true rfl) ?_
  intro p e s m below meth c A hx hb hr hml hown hg hlk hmn hP hK hD hT hS hA hsz ls hl
  have hown : s.vm.findClass RX5 = some m.cls := hown
  have hl : lv_has ls 2 [(0, .ref a0), (1, .int s0)] := hl
  refine lv_iload_n hx hb dX5_isOf_0 rfl (lv_at hl 1 rfl) ?_
  refine lv_bipush (v := 15) hx hb dX5_isOf_1 (by decide) ?_
  refine lv_icmp_ne (tgt := 10) hx hb dX5_isOf_3 (by decide) (fun c_1 => ?_) (fun c_1 => ?_)
  · show _
    refine lv_iconst (v := 0) hx hb dX5_isOf_10 (by decide) ?_
    refine cr_z (wo := fun u : Unit => ws) (()) hx hb hr hlk hS hP hD rfl ?_ dX5_isOf_11
    exact Or.inr ⟨rfl, (by first | assumption | exact Or.inl (by assumption) | exact Or.inr (Or.inl (by assumption)) | exact Or.inr (Or.inr (by assumption)) | exact ⟨by assumption, by assumption⟩ | exact Or.inr (by assumption) | exact Or.inl (by symm; assumption) | exact Or.inr ⟨by assumption, by assumption⟩ | exact fun h9 => absurd h9 (by assumption) | exact fun h9 => absurd h9.1 (by assumption) | exact fun h9 => absurd h9.2 (by assumption))⟩
  · show _
    refine lv_iconst (v := 1) hx hb dX5_isOf_6 (by decide) ?_
    refine lv_goto (tgt := 11) hx hb dX5_isOf_7 (by decide) ?_
    refine cr_z (wo := fun u : Unit => ws) (()) hx hb hr hlk hS hP hD rfl ?_ dX5_isOf_11
    exact Or.inl ⟨rfl, (by first | assumption | exact Or.inl (by assumption) | exact Or.inr (Or.inl (by assumption)) | exact Or.inr (Or.inr (by assumption)) | exact ⟨by assumption, by assumption⟩ | exact Or.inr (by assumption) | exact Or.inl (by symm; assumption) | exact Or.inr ⟨by assumption, by assumption⟩ | exact fun h9 => absurd h9 (by assumption) | exact fun h9 => absurd h9.1 (by assumption) | exact fun h9 => absurd h9.2 (by assumption))⟩
set_option maxHeartbeats 4000000 in
set_option maxRecDepth 100000 in
theorem c_X9_isOf (l : Launch) (dC : Nat → ClassId) (dI : Nat → Nat → Nat) (tys : List (ClassId × FieldType)) (ws : va_W) (sz : Nat)  (a0 : Nat) (s0 : Int32) : Met l yX9_isOf (Cond.code yX9_isOf cX9_isOf 2 (some .boolean) :: gT) ({ frames := 0, cells := 0, slots := 0, locals := 0 }) (cP (dC, dI) tys (ws) sz [.ref (a0), .int s0]) (va_Qi (fun (rz : Int32) (u : Unit) => (1 = rz ∧ s0 = 12) ∨ (0 = rz ∧ ¬ s0 = 12)) (cB (dC, dI) (fun u : Unit => ws) (va_A (ws) sz)) (va_A (ws) sz)) 0 0 (va_A (ws) sz) := by
  refine cc_of (Qa := fun A => va_Qi (fun (rz : Int32) (u : Unit) => (1 = rz ∧ s0 = 12) ∨ (0 = rz ∧ ¬ s0 = 12)) (cB (dC, dI) (fun u : Unit => ws) A) A) (by decide) (Nat.le_of_ble_eq_true rfl) ?_
  intro p e s m below meth c A hx hb hr hml hown hg hlk hmn hP hK hD hT hS hA hsz ls hl
  have hown : s.vm.findClass RX9 = some m.cls := hown
  have hl : lv_has ls 2 [(0, .ref a0), (1, .int s0)] := hl
  refine lv_iload_n hx hb dX9_isOf_0 rfl (lv_at hl 1 rfl) ?_
  refine lv_bipush (v := 12) hx hb dX9_isOf_1 (by decide) ?_
  refine lv_icmp_ne (tgt := 10) hx hb dX9_isOf_3 (by decide) (fun c_1 => ?_) (fun c_1 => ?_)
  · show _
    refine lv_iconst (v := 0) hx hb dX9_isOf_10 (by decide) ?_
    refine cr_z (wo := fun u : Unit => ws) (()) hx hb hr hlk hS hP hD rfl ?_ dX9_isOf_11
    exact Or.inr ⟨rfl, (by first | assumption | exact Or.inl (by assumption) | exact Or.inr (Or.inl (by assumption)) | exact Or.inr (Or.inr (by assumption)) | exact ⟨by assumption, by assumption⟩ | exact Or.inr (by assumption) | exact Or.inl (by symm; assumption) | exact Or.inr ⟨by assumption, by assumption⟩ | exact fun h9 => absurd h9 (by assumption) | exact fun h9 => absurd h9.1 (by assumption) | exact fun h9 => absurd h9.2 (by assumption))⟩
  · show _
    refine lv_iconst (v := 1) hx hb dX9_isOf_6 (by decide) ?_
    refine lv_goto (tgt := 11) hx hb dX9_isOf_7 (by decide) ?_
    refine cr_z (wo := fun u : Unit => ws) (()) hx hb hr hlk hS hP hD rfl ?_ dX9_isOf_11
    exact Or.inl ⟨rfl, (by first | assumption | exact Or.inl (by assumption) | exact Or.inr (Or.inl (by assumption)) | exact Or.inr (Or.inr (by assumption)) | exact ⟨by assumption, by assumption⟩ | exact Or.inr (by assumption) | exact Or.inl (by symm; assumption) | exact Or.inr ⟨by assumption, by assumption⟩ | exact fun h9 => absurd h9 (by assumption) | exact fun h9 => absurd h9.1 (by assumption) | exact fun h9 => absurd h9.2 (by assumption))⟩
set_option maxHeartbeats 4000000 in
set_option maxRecDepth 100000 in
theorem c_X7_isOf (l : Launch) (dC : Nat → ClassId) (dI : Nat → Nat → Nat) (tys : List (ClassId × FieldType)) (ws : va_W) (sz : Nat)  (a0 : Nat) (k0 : Nat) (v0 : Int32) (x0 : Value) (s0 : Int32) (pre0 : ws[k0]? = some (a0, .inr (10, [.int v0, x0]))) : Met l yX7_isOf (Cond.code yX7_isOf cX7_isOf 2 (some .boolean) :: gT) ({ frames := 0, cells := 0, slots := 0, locals := 0 }) (cP (dC, dI) tys (ws) sz [.ref (a0), .int s0]) (va_Qi (fun (rz : Int32) (u : Unit) => (1 = rz ∧ s0 = v0) ∨ (0 = rz ∧ ¬ s0 = v0)) (cB (dC, dI) (fun u : Unit => ws) (va_A (ws) sz)) (va_A (ws) sz)) 0 0 (va_A (ws) sz) := by
  refine cc_of (Qa := fun A => va_Qi (fun (rz : Int32) (u : Unit) => (1 = rz ∧ s0 = v0) ∨ (0 = rz ∧ ¬ s0 = v0)) (cB (dC, dI) (fun u : Unit => ws) A) A) (by decide) (Nat.le_of_ble_eq_true rfl) ?_
  intro p e s m below meth c A hx hb hr hml hown hg hlk hmn hP hK hD hT hS hA hsz ls hl
  have hown : s.vm.findClass RX7 = some m.cls := hown
  have hl : lv_has ls 2 [(0, .ref a0), (1, .int s0)] := hl
  refine lv_iload_n hx hb dX7_isOf_0 rfl (lv_at hl 1 rfl) ?_
  refine lv_aload_n hx hb dX7_isOf_1 rfl (lv_at hl 0 rfl) ?_
  refine va_get (D := (dC, dI)) (ci := 10) (v := .int v0) (C := RX7) (T := TX7) (N := 2) hx hb hg inG7 hown hK hP k0 pre0 rfl 0 (by decide) (hg _ wF_X7_9) (fun _ h9 => h9) rfl dX7_isOf_2 ?_
  refine lv_icmp_ne (tgt := 12) hx hb dX7_isOf_5 (by decide) (fun c_1 => ?_) (fun c_1 => ?_)
  · show _
    refine lv_iconst (v := 0) hx hb dX7_isOf_12 (by decide) ?_
    refine cr_z (wo := fun u : Unit => ws) (()) hx hb hr hlk hS hP hD rfl ?_ dX7_isOf_13
    exact Or.inr ⟨rfl, (by first | assumption | exact Or.inl (by assumption) | exact Or.inr (Or.inl (by assumption)) | exact Or.inr (Or.inr (by assumption)) | exact ⟨by assumption, by assumption⟩ | exact Or.inr (by assumption) | exact Or.inl (by symm; assumption) | exact Or.inr ⟨by assumption, by assumption⟩ | exact fun h9 => absurd h9 (by assumption) | exact fun h9 => absurd h9.1 (by assumption) | exact fun h9 => absurd h9.2 (by assumption))⟩
  · show _
    refine lv_iconst (v := 1) hx hb dX7_isOf_8 (by decide) ?_
    refine lv_goto (tgt := 13) hx hb dX7_isOf_9 (by decide) ?_
    refine cr_z (wo := fun u : Unit => ws) (()) hx hb hr hlk hS hP hD rfl ?_ dX7_isOf_13
    exact Or.inl ⟨rfl, (by first | assumption | exact Or.inl (by assumption) | exact Or.inr (Or.inl (by assumption)) | exact Or.inr (Or.inr (by assumption)) | exact ⟨by assumption, by assumption⟩ | exact Or.inr (by assumption) | exact Or.inl (by symm; assumption) | exact Or.inr ⟨by assumption, by assumption⟩ | exact fun h9 => absurd h9 (by assumption) | exact fun h9 => absurd h9.1 (by assumption) | exact fun h9 => absurd h9.2 (by assumption))⟩
set_option maxHeartbeats 4000000 in
set_option maxRecDepth 100000 in
theorem c_X8_isOf (l : Launch) (dC : Nat → ClassId) (dI : Nat → Nat → Nat) (tys : List (ClassId × FieldType)) (ws : va_W) (sz : Nat)  (a0 : Nat) (k0 : Nat) (v0 w0 : Int32) (x0 : Value) (s0 : Int32) (pre0 : ws[k0]? = some (a0, .inr (11, [.int v0, .int w0, x0]))) : Met l yX8_isOf (Cond.code yX8_isOf cX8_isOf 2 (some .boolean) :: gT) ({ frames := 0, cells := 0, slots := 0, locals := 0 }) (cP (dC, dI) tys (ws) sz [.ref (a0), .int s0]) (va_Qi (fun (rz : Int32) (u : Unit) => (1 = rz ∧ (s0 = v0 ∨ (s0 = 9 ∧ v0 = 10))) ∨ (0 = rz ∧ ¬ s0 = v0 ∧ ¬ (s0 = 9 ∧ v0 = 10))) (cB (dC, dI) (fun u : Unit => ws) (va_A (ws) sz)) (va_A (ws) sz)) 0 0 (va_A (ws) sz) := by
  refine cc_of (Qa := fun A => va_Qi (fun (rz : Int32) (u : Unit) => (1 = rz ∧ (s0 = v0 ∨ (s0 = 9 ∧ v0 = 10))) ∨ (0 = rz ∧ ¬ s0 = v0 ∧ ¬ (s0 = 9 ∧ v0 = 10))) (cB (dC, dI) (fun u : Unit => ws) A) A) (by decide) (Nat.le_of_ble_eq_true rfl) ?_
  intro p e s m below meth c A hx hb hr hml hown hg hlk hmn hP hK hD hT hS hA hsz ls hl
  have hown : s.vm.findClass RX8 = some m.cls := hown
  have hl : lv_has ls 2 [(0, .ref a0), (1, .int s0)] := hl
  refine lv_iload_n hx hb dX8_isOf_0 rfl (lv_at hl 1 rfl) ?_
  refine lv_aload_n hx hb dX8_isOf_1 rfl (lv_at hl 0 rfl) ?_
  refine va_get (D := (dC, dI)) (ci := 11) (v := .int v0) (C := RX8) (T := TX8) (N := 3) hx hb hg inG8 hown hK hP k0 pre0 rfl 0 (by decide) (hg _ wF_X8_9) (fun _ h9 => h9) rfl dX8_isOf_2 ?_
  refine lv_icmp_eq (tgt := 23) hx hb dX8_isOf_5 (by decide) (fun c_1 => ?_) (fun c_1 => ?_)
  · show _
    refine lv_iconst (v := 1) hx hb dX8_isOf_23 (by decide) ?_
    refine lv_goto (tgt := 28) hx hb dX8_isOf_24 (by decide) ?_
    refine cr_z (wo := fun u : Unit => ws) (()) hx hb hr hlk hS hP hD rfl ?_ dX8_isOf_28
    exact Or.inl ⟨rfl, (by first | assumption | exact Or.inl (by assumption) | exact Or.inr (Or.inl (by assumption)) | exact Or.inr (Or.inr (by assumption)) | exact ⟨by assumption, by assumption⟩ | exact Or.inr (by assumption) | exact Or.inl (by symm; assumption) | exact Or.inr ⟨by assumption, by assumption⟩ | exact fun h9 => absurd h9 (by assumption) | exact fun h9 => absurd h9.1 (by assumption) | exact fun h9 => absurd h9.2 (by assumption))⟩
  · show _
    refine lv_iload_n hx hb dX8_isOf_8 rfl (lv_at hl 1 rfl) ?_
    refine lv_bipush (v := 9) hx hb dX8_isOf_9 (by decide) ?_
    refine lv_icmp_ne (tgt := 27) hx hb dX8_isOf_11 (by decide) (fun c_2 => ?_) (fun c_2 => ?_)
    · show _
      refine lv_iconst (v := 0) hx hb dX8_isOf_27 (by decide) ?_
      refine cr_z (wo := fun u : Unit => ws) (()) hx hb hr hlk hS hP hD rfl ?_ dX8_isOf_28
      exact Or.inr ⟨rfl, (by first | assumption | exact Or.inl (by assumption) | exact Or.inr (Or.inl (by assumption)) | exact Or.inr (Or.inr (by assumption)) | exact ⟨by assumption, by assumption⟩ | exact Or.inr (by assumption) | exact Or.inl (by symm; assumption) | exact Or.inr ⟨by assumption, by assumption⟩ | exact fun h9 => absurd h9 (by assumption) | exact fun h9 => absurd h9.1 (by assumption) | exact fun h9 => absurd h9.2 (by assumption)), (by first | assumption | exact Or.inl (by assumption) | exact Or.inr (Or.inl (by assumption)) | exact Or.inr (Or.inr (by assumption)) | exact ⟨by assumption, by assumption⟩ | exact Or.inr (by assumption) | exact Or.inl (by symm; assumption) | exact Or.inr ⟨by assumption, by assumption⟩ | exact fun h9 => absurd h9 (by assumption) | exact fun h9 => absurd h9.1 (by assumption) | exact fun h9 => absurd h9.2 (by assumption))⟩
    · show _
      refine lv_aload_n hx hb dX8_isOf_14 rfl (lv_at hl 0 rfl) ?_
      refine va_get (D := (dC, dI)) (ci := 11) (v := .int v0) (C := RX8) (T := TX8) (N := 3) hx hb hg inG8 hown hK hP k0 pre0 rfl 0 (by decide) (hg _ wF_X8_9) (fun _ h9 => h9) rfl dX8_isOf_15 ?_
      refine lv_bipush (v := 10) hx hb dX8_isOf_18 (by decide) ?_
      refine lv_icmp_ne (tgt := 27) hx hb dX8_isOf_20 (by decide) (fun c_3 => ?_) (fun c_3 => ?_)
      · show _
        refine lv_iconst (v := 0) hx hb dX8_isOf_27 (by decide) ?_
        refine cr_z (wo := fun u : Unit => ws) (()) hx hb hr hlk hS hP hD rfl ?_ dX8_isOf_28
        exact Or.inr ⟨rfl, (by first | assumption | exact Or.inl (by assumption) | exact Or.inr (Or.inl (by assumption)) | exact Or.inr (Or.inr (by assumption)) | exact ⟨by assumption, by assumption⟩ | exact Or.inr (by assumption) | exact Or.inl (by symm; assumption) | exact Or.inr ⟨by assumption, by assumption⟩ | exact fun h9 => absurd h9 (by assumption) | exact fun h9 => absurd h9.1 (by assumption) | exact fun h9 => absurd h9.2 (by assumption)), (by first | assumption | exact Or.inl (by assumption) | exact Or.inr (Or.inl (by assumption)) | exact Or.inr (Or.inr (by assumption)) | exact ⟨by assumption, by assumption⟩ | exact Or.inr (by assumption) | exact Or.inl (by symm; assumption) | exact Or.inr ⟨by assumption, by assumption⟩ | exact fun h9 => absurd h9 (by assumption) | exact fun h9 => absurd h9.1 (by assumption) | exact fun h9 => absurd h9.2 (by assumption))⟩
      · show _
        refine lv_iconst (v := 1) hx hb dX8_isOf_23 (by decide) ?_
        refine lv_goto (tgt := 28) hx hb dX8_isOf_24 (by decide) ?_
        refine cr_z (wo := fun u : Unit => ws) (()) hx hb hr hlk hS hP hD rfl ?_ dX8_isOf_28
        exact Or.inl ⟨rfl, (by first | assumption | exact Or.inl (by assumption) | exact Or.inr (Or.inl (by assumption)) | exact Or.inr (Or.inr (by assumption)) | exact ⟨by assumption, by assumption⟩ | exact Or.inr (by assumption) | exact Or.inl (by symm; assumption) | exact Or.inr ⟨by assumption, by assumption⟩ | exact fun h9 => absurd h9 (by assumption) | exact fun h9 => absurd h9.1 (by assumption) | exact fun h9 => absurd h9.2 (by assumption))⟩
set_option maxHeartbeats 4000000 in
set_option maxRecDepth 100000 in
theorem c_X3_weight (l : Launch) (dC : Nat → ClassId) (dI : Nat → Nat → Nat) (tys : List (ClassId × FieldType)) (ws : va_W) (sz : Nat)  (a0 : Nat) (k0 : Nat) (v0 w0 : Int32) (x0 : Value) (s0 : Int32) (pre0 : ws[k0]? = some (a0, .inr (7, [.int v0, x0, .int w0]))) : Met l yX3_weight (Cond.code yX3_weight cX3_weight 2 (some .int) :: gT) ({ frames := 0, cells := 0, slots := 0, locals := 0 }) (cP (dC, dI) tys (ws) sz [.ref (a0), .int s0]) (va_Qi (fun (rz : Int32) (u : Unit) => (v0 * 5 - s0) = rz) (cB (dC, dI) (fun u : Unit => ws) (va_A (ws) sz)) (va_A (ws) sz)) 0 0 (va_A (ws) sz) := by
  refine cc_of (Qa := fun A => va_Qi (fun (rz : Int32) (u : Unit) => (v0 * 5 - s0) = rz) (cB (dC, dI) (fun u : Unit => ws) A) A) (by decide) (Nat.le_of_ble_eq_true rfl) ?_
  intro p e s m below meth c A hx hb hr hml hown hg hlk hmn hP hK hD hT hS hA hsz ls hl
  have hown : s.vm.findClass RX3 = some m.cls := hown
  have hl : lv_has ls 2 [(0, .ref a0), (1, .int s0)] := hl
  refine lv_aload_n hx hb dX3_weight_0 rfl (lv_at hl 0 rfl) ?_
  refine va_get (D := (dC, dI)) (ci := 7) (v := .int v0) (C := RX3) (T := TX3) (N := 3) hx hb hg inG3 hown hK hP k0 pre0 rfl 0 (by decide) (hg _ wF_X3_15) (fun x h9 => u_same (hg _ wY_X3_value) x h9) rfl dX3_weight_1 ?_
  refine lv_iconst (v := 5) hx hb dX3_weight_4 (by decide) ?_
  refine lv_imul hx hb dX3_weight_5 ?_
  refine lv_iload_n hx hb dX3_weight_6 rfl (lv_at hl 1 rfl) ?_
  refine lv_isub hx hb dX3_weight_7 ?_
  refine cr_i (wo := fun u : Unit => ws) (()) hx hb hr hlk hS hP hD ?_ dX3_weight_8
  exact rfl
set_option maxHeartbeats 4000000 in
set_option maxRecDepth 100000 in
theorem c_X9_weight (l : Launch) (dC : Nat → ClassId) (dI : Nat → Nat → Nat) (tys : List (ClassId × FieldType)) (ws : va_W) (sz : Nat)  (a0 : Nat) (k0 : Nat) (v0 : Int32) (x0 : Value) (s0 : Int32) (pre0 : ws[k0]? = some (a0, .inr (12, [.int v0, x0]))) : Met l yX9_weight (Cond.code yX9_weight cX9_weight 2 (some .int) :: gT) ({ frames := 0, cells := 0, slots := 0, locals := 0 }) (cP (dC, dI) tys (ws) sz [.ref (a0), .int s0]) (va_Qi (fun (rz : Int32) (u : Unit) => (v0 * 3 + s0) = rz) (cB (dC, dI) (fun u : Unit => ws) (va_A (ws) sz)) (va_A (ws) sz)) 0 0 (va_A (ws) sz) := by
  refine cc_of (Qa := fun A => va_Qi (fun (rz : Int32) (u : Unit) => (v0 * 3 + s0) = rz) (cB (dC, dI) (fun u : Unit => ws) A) A) (by decide) (Nat.le_of_ble_eq_true rfl) ?_
  intro p e s m below meth c A hx hb hr hml hown hg hlk hmn hP hK hD hT hS hA hsz ls hl
  have hown : s.vm.findClass RX9 = some m.cls := hown
  have hl : lv_has ls 2 [(0, .ref a0), (1, .int s0)] := hl
  refine lv_aload_n hx hb dX9_weight_0 rfl (lv_at hl 0 rfl) ?_
  refine va_get (D := (dC, dI)) (ci := 12) (v := .int v0) (C := RX9) (T := TX9) (N := 2) hx hb hg inG9 hown hK hP k0 pre0 rfl 0 (by decide) (hg _ wF_X9_9) (fun x h9 => u_same (hg _ wY_X9_value) x h9) rfl dX9_weight_1 ?_
  refine lv_iconst (v := 3) hx hb dX9_weight_4 (by decide) ?_
  refine lv_imul hx hb dX9_weight_5 ?_
  refine lv_iload_n hx hb dX9_weight_6 rfl (lv_at hl 1 rfl) ?_
  refine lv_iadd hx hb dX9_weight_7 ?_
  refine cr_i (wo := fun u : Unit => ws) (()) hx hb hr hlk hS hP hD ?_ dX9_weight_8
  exact rfl
set_option maxHeartbeats 4000000 in
set_option maxRecDepth 100000 in
theorem c_X3_rolled (l : Launch) (dC : Nat → ClassId) (dI : Nat → Nat → Nat) (tys : List (ClassId × FieldType)) (ws : va_W) (sz : Nat)  (a0 : Nat) (k0 : Nat) (v0 w0 : Int32) (x0 : Value) (s0 : Int32) (pre0 : ws[k0]? = some (a0, .inr (7, [.int v0, x0, .int w0]))) : Met l yX3_rolled (Cond.code yX3_rolled cX3_rolled 2 (some .int) :: gT) ({ frames := 0, cells := 0, slots := 0, locals := 0 }) (cP (dC, dI) tys (ws) sz [.ref (a0), .int s0]) (va_Qi (fun (rz : Int32) (u : Unit) => (v0 ^^^ s0) = rz) (cB (dC, dI) (fun u : Unit => ws) (va_A (ws) sz)) (va_A (ws) sz)) 0 0 (va_A (ws) sz) := by
  refine cc_of (Qa := fun A => va_Qi (fun (rz : Int32) (u : Unit) => (v0 ^^^ s0) = rz) (cB (dC, dI) (fun u : Unit => ws) A) A) (by decide) (Nat.le_of_ble_eq_true rfl) ?_
  intro p e s m below meth c A hx hb hr hml hown hg hlk hmn hP hK hD hT hS hA hsz ls hl
  have hown : s.vm.findClass RX3 = some m.cls := hown
  have hl : lv_has ls 2 [(0, .ref a0), (1, .int s0)] := hl
  refine lv_aload_n hx hb dX3_rolled_0 rfl (lv_at hl 0 rfl) ?_
  refine va_get (D := (dC, dI)) (ci := 7) (v := .int v0) (C := RX3) (T := TX3) (N := 3) hx hb hg inG3 hown hK hP k0 pre0 rfl 0 (by decide) (hg _ wF_X3_15) (fun x h9 => u_same (hg _ wY_X3_value) x h9) rfl dX3_rolled_1 ?_
  refine lv_iload_n hx hb dX3_rolled_4 rfl (lv_at hl 1 rfl) ?_
  refine lv_ixor hx hb dX3_rolled_5 ?_
  refine cr_i (wo := fun u : Unit => ws) (()) hx hb hr hlk hS hP hD ?_ dX3_rolled_6
  exact rfl
set_option maxHeartbeats 4000000 in
set_option maxRecDepth 100000 in
theorem c_X0_rolled (l : Launch) (dC : Nat → ClassId) (dI : Nat → Nat → Nat) (tys : List (ClassId × FieldType)) (ws : va_W) (sz : Nat)  (a0 : Nat) (k0 : Nat) (v0 w0 : Int32) (x0 : Value) (s0 : Int32) (pre0 : ws[k0]? = some (a0, .inr (5, [.int w0, .int v0, x0]))) : Met l yX0_rolled (Cond.code yX0_rolled cX0_rolled 2 (some .int) :: gT) ({ frames := 0, cells := 0, slots := 0, locals := 0 }) (cP (dC, dI) tys (ws) sz [.ref (a0), .int s0]) (va_Qi (fun (rz : Int32) (u : Unit) => (v0 ||| s0) = rz) (cB (dC, dI) (fun u : Unit => ws) (va_A (ws) sz)) (va_A (ws) sz)) 0 0 (va_A (ws) sz) := by
  refine cc_of (Qa := fun A => va_Qi (fun (rz : Int32) (u : Unit) => (v0 ||| s0) = rz) (cB (dC, dI) (fun u : Unit => ws) A) A) (by decide) (Nat.le_of_ble_eq_true rfl) ?_
  intro p e s m below meth c A hx hb hr hml hown hg hlk hmn hP hK hD hT hS hA hsz ls hl
  have hown : s.vm.findClass RX0 = some m.cls := hown
  have hl : lv_has ls 2 [(0, .ref a0), (1, .int s0)] := hl
  refine lv_aload_n hx hb dX0_rolled_0 rfl (lv_at hl 0 rfl) ?_
  refine va_get (D := (dC, dI)) (ci := 5) (v := .int v0) (C := RX0) (T := TX0) (N := 3) hx hb hg inG0 hown hK hP k0 pre0 rfl 1 (by decide) (hg _ wF_X0_11) (fun x h9 => u_same (hg _ wY_X0_value) x h9) rfl dX0_rolled_1 ?_
  refine lv_iload_n hx hb dX0_rolled_4 rfl (lv_at hl 1 rfl) ?_
  refine lv_ior hx hb dX0_rolled_5 ?_
  refine cr_i (wo := fun u : Unit => ws) (()) hx hb hr hlk hS hP hD ?_ dX0_rolled_6
  exact rfl
set_option maxHeartbeats 4000000 in
set_option maxRecDepth 100000 in
theorem c_X4_rolled (l : Launch) (dC : Nat → ClassId) (dI : Nat → Nat → Nat) (tys : List (ClassId × FieldType)) (ws : va_W) (sz : Nat)  (a0 : Nat) (k0 : Nat) (v0 : Int32) (s0 : Int32) (pre0 : ws[k0]? = some (a0, .inr (8, [.int v0]))) : Met l yX4_rolled (Cond.code yX4_rolled cX4_rolled 2 (some .int) :: gT) ({ frames := 0, cells := 0, slots := 0, locals := 0 }) (cP (dC, dI) tys (ws) sz [.ref (a0), .int s0]) (va_Qi (fun (rz : Int32) (u : Unit) => (v0 &&& s0) = rz) (cB (dC, dI) (fun u : Unit => ws) (va_A (ws) sz)) (va_A (ws) sz)) 0 0 (va_A (ws) sz) := by
  refine cc_of (Qa := fun A => va_Qi (fun (rz : Int32) (u : Unit) => (v0 &&& s0) = rz) (cB (dC, dI) (fun u : Unit => ws) A) A) (by decide) (Nat.le_of_ble_eq_true rfl) ?_
  intro p e s m below meth c A hx hb hr hml hown hg hlk hmn hP hK hD hT hS hA hsz ls hl
  have hown : s.vm.findClass RX4 = some m.cls := hown
  have hl : lv_has ls 2 [(0, .ref a0), (1, .int s0)] := hl
  refine lv_aload_n hx hb dX4_rolled_0 rfl (lv_at hl 0 rfl) ?_
  refine va_get (D := (dC, dI)) (ci := 8) (v := .int v0) (C := RX4) (T := TX4) (N := 1) hx hb hg inG4 hown hK hP k0 pre0 rfl 0 (by decide) (hg _ wF_X4_9) (fun _ h9 => h9) rfl dX4_rolled_1 ?_
  refine lv_iload_n hx hb dX4_rolled_4 rfl (lv_at hl 1 rfl) ?_
  refine lv_iand hx hb dX4_rolled_5 ?_
  refine cr_i (wo := fun u : Unit => ws) (()) hx hb hr hlk hS hP hD ?_ dX4_rolled_6
  exact rfl

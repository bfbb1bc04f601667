/-! ===== the law's start: what the tables and the premises give ===== -/
theorem inJ0 : ∀ w ∈ u_ws RJx00060 TJx00060 6, w ∈ lw_tbl := by decide +kernel
theorem inJ1 : ∀ w ∈ u_ws RJx4e25b TJx4e25b 6, w ∈ lw_tbl := by decide +kernel
theorem inJ2 : ∀ w ∈ u_ws RJx3273f TJx3273f 6, w ∈ lw_tbl := by decide +kernel
theorem inJ3 : ∀ w ∈ u_ws RJxde1cd TJxde1cd 6, w ∈ lw_tbl := by decide +kernel
theorem inJ4 : ∀ w ∈ u_ws RJx5d777 TJx5d777 8, w ∈ lw_tbl := by decide +kernel
theorem inJ5 : Cond.instantiable RJx00060 6 ∈ lw_tbl ∧ Cond.instantiable RJx4e25b 6 ∈ lw_tbl ∧ Cond.instantiable RJx3273f 6 ∈ lw_tbl ∧ Cond.instantiable RJxde1cd 6 ∈ lw_tbl ∧ Cond.instantiable RJx5d777 8 ∈ lw_tbl := by decide +kernel
theorem inJ6 : (∀ k : Fin 5, cNF k.1 ∈ lw_tbl) ∧ (∀ k : Fin 5, cNM k.1 ∈ lw_tbl) ∧ Cond.arrayOver (.object RX10) ∈ lw_tbl ∧ Cond.declares yIsOf ∈ lw_tbl ∧ Cond.declares yWeight ∈ lw_tbl := by decide +kernel
theorem inJ7 : (∀ k : Fin 8, Cond.declares (cDx k.1) ∈ lw_tbl) ∧ (∀ k : Fin 7, Cond.castable (cCa k.1).1 (cCa k.1).2 ∈ lw_tbl) ∧ Cond.stringRef RX11 42 "the program's operations are 0 to 255" ∈ lw_tbl := by decide +kernel
theorem inJ8 : ∀ k : Fin 7, ∀ t : Fin 7, (cIs k.1 t.1 = true → Cond.castable (cNm k.1) (cTg t.1) ∈ lw_tbl) := by decide +kernel
theorem inJ9 : ∀ k : Fin 7, ∀ t : Fin 7, (cIs k.1 t.1 = false → Cond.not (.castable (cNm k.1) (cTg t.1)) ∈ flatC (Cond.and given_1 narrow_1)) := by decide +kernel
theorem inJ10 : ∀ j : Fin 7, ∀ i : Fin 7, i.1 < j.1 → Cond.not (.castable (cCa j.1).1 (cCa i.1).1) ∈ flatC (Cond.and given_1 narrow_1) := by decide +kernel
theorem inJ11 : Cond.arrayClass .int ∈ lw_tbl ∧ Cond.arrayClass .long ∈ lw_tbl ∧ Cond.arrayClass .boolean ∈ lw_tbl := by decide +kernel
theorem inJ12 : (Cond.declares yRolled ∈ lw_tbl ∧ Cond.interfaceMethod yRolled.cls yRolled.cls yRolled.name yRolled.desc ∈ lw_tbl) ∧ (Cond.publicMethod yX0_rolled ∈ lw_tbl ∧ Cond.publicMethod yX3_rolled ∈ lw_tbl ∧ Cond.publicMethod yX4_rolled ∈ lw_tbl) ∧ (Cond.unhidden RX0 yRolled.name yRolled.desc ∈ lw_tbl ∧ Cond.unhidden RX3 yRolled.name yRolled.desc ∈ lw_tbl ∧ Cond.unhidden RX4 yRolled.name yRolled.desc ∈ lw_tbl) ∧ (Cond.castable RX0 yRolled.cls ∈ lw_tbl ∧ Cond.castable RX3 yRolled.cls ∈ lw_tbl ∧ Cond.castable RX4 yRolled.cls ∈ lw_tbl) := by decide +kernel
theorem inJ13 : (Cond.laysStatic Bundle.tN "UNASSIGNED_STACK" Bundle.steD ∈ lw_tbl ∧ Cond.laysStatic Bundle.tN "SUPPRESSED_SENTINEL" Bundle.listD ∈ lw_tbl ∧ Cond.initialized Bundle.tN ∈ lw_tbl) ∧ Cond.isRef (.static Bundle.tN "UNASSIGNED_STACK" Bundle.steD) ∈ flatC (Cond.and given_1 narrow_1) ∧ Cond.isRef (.static Bundle.tN "SUPPRESSED_SENTINEL" Bundle.listD) ∈ flatC (Cond.and given_1 narrow_1) := by decide +kernel
theorem inJ14 : Cond.superclass Bundle.nN Bundle.rN ∈ lw_tbl ∧ Cond.lays Bundle.nN Bundle.tN "cause" "Ljava/lang/Throwable;" ∈ lw_tbl ∧ Cond.instantiable Bundle.tN 6 ∈ lw_tbl := by decide +kernel
theorem sub_mono (vm : Vm) : ∀ (f : Nat) (s t : ClassId), vm.isSubclassAux f s t = true → vm.isSubclassAux (f + 1) s t = true
  | 0, s, t, h => by simp [Vm.isSubclassAux] at h
  | f + 1, s, t, h => by
    rw [Vm.isSubclassAux] at h ⊢
    rcases Bool.or_eq_true_iff.mp h with h | h
    · simp [h]
    · cases hk : vm.classes[s]? with
      | none => simp [hk] at h
      | some k =>
        cases hp : k.super with
        | none => simp [hk, hp] at h
        | some q =>
          simp only [hk, hp] at h ⊢
          rw [sub_mono vm f q t h, Bool.or_true]
theorem up_cast {args : Array Value} {s : State} {A B T nm ds : String} {n : Nat} (hne : A ≠ T) (h1 : (Cond.superclass A B).before args s = true) (h2 : (Cond.lays A T nm ds).before args s = true) (h3 : (Cond.instantiable T n).before args s = true) : (Cond.castable B T).before args s = true := by
  obtain ⟨c, k, c', k', i, f, e1, e2, e3, -, -, e4, -⟩ := Cond.lays_spec h2
  have hT : s.vm.findClass T = some c' := by
    have h2' := h2
    simp only [Cond.before, Cond.holds, Cond.value, e1, e3, e2, Option.map_some] at h2'
    simp at h2'
    exact h2'.1.1.2
  obtain ⟨t, kt, f1, f2, f3, f4, -⟩ := Cond.instantiable_spec h3
  cases Option.some.inj (f1.symm.trans hT)
  obtain ⟨p, k2, kp, g1, g2, g3, g4, g5, g6, -⟩ := Cond.superclass_spec e1 h1
  cases Option.some.inj (g2.symm.trans e2)
  have hni : kt.isInterface = false := by
    cases hx : kt.isInterface
    · rfl
    · rw [hx] at f4; cases f4
  have hs := isSubclass_of_assignable e2 f2 g5 f3 hni e4
  have hct : (c == c') = false := by
    refine Bool.eq_false_iff.mpr fun hh => hne ?_
    have := eq_of_beq hh
    subst this
    obtain ⟨q1, r1, r2⟩ := Vm.findClass_spec e1
    obtain ⟨q2, r3, r4⟩ := Vm.findClass_spec f1
    rw [← r2, ← r4, Option.some.inj (r1.symm.trans r3)]
  have hs2 : s.vm.isSubclass p c' = true := by
    unfold Vm.isSubclass at hs ⊢
    rw [Vm.isSubclassAux] at hs
    simp only [hct, e2, g4, Bool.false_or] at hs
    exact sub_mono _ _ _ _ hs
  have ha : s.vm.assignable p c' = true := by
    unfold Vm.assignable Vm.assignableAux
    simp only [g3, f2, g6, f3, hni, hs2]
    simp
  simp [Cond.before, Cond.holds, Cond.value, g1, f1, ha]
section WStart
variable {s : State} {args : Array Value}
theorem wd_arr {t : FieldType} (h : (Cond.arrayClass t).before args s = true) : ∃ c : ClassId, ArrOfT s c t ∧ s.vm.findClass ("[" ++ t.toString) = some c := by
  obtain ⟨c, k, comp, h1, h2, h3⟩ := Cond.arrayClass_spec h
  exact ⟨c, fun n z => ⟨fun k h => (by cases h), k, h2, comp, h3⟩, h1⟩
theorem wd_K (hts : ∀ w ∈ lw_tbl, w.before args s = true) : ∃ (dC : Nat → ClassId) (dI : Nat → Nat → Nat) (ty : Nat → ClassId), va_K (dC, dI) vwCl (rTy ty) s := by
  have hg : ∀ w ∈ gT, w.before args s = true := fun w h => hts w (List.mem_filter.mp h).1
  obtain ⟨c0, i0, h0⟩ := u_known (C := RJx00060) (T := TJx00060) (N := 6) (n := 6) hts inJ0 (hts _ inJ5.1)
  obtain ⟨c1, i1, h1⟩ := u_known (C := RJx4e25b) (T := TJx4e25b) (N := 6) (n := 6) hts inJ1 (hts _ inJ5.2.1)
  obtain ⟨c2, i2, h2⟩ := u_known (C := RJx3273f) (T := TJx3273f) (N := 6) (n := 6) hts inJ2 (hts _ inJ5.2.2.1)
  obtain ⟨c3, i3, h3⟩ := u_known (C := RJxde1cd) (T := TJxde1cd) (N := 6) (n := 6) hts inJ3 (hts _ inJ5.2.2.2.1)
  obtain ⟨c4, i4, h4⟩ := u_known (C := RJx5d777) (T := TJx5d777) (N := 8) (n := 8) hts inJ4 (hts _ inJ5.2.2.2.2)
  obtain ⟨c5, i5, h5⟩ := u_known (C := RX0) (T := TX0) (N := 3) (n := 3) hg inG0 (hg _ wT_X0)
  obtain ⟨c6, i6, h6⟩ := u_known (C := RX1) (T := TX1) (N := 5) (n := 5) hg inG1 (hg _ wT_X1)
  obtain ⟨c7, i7, h7⟩ := u_known (C := RX3) (T := TX3) (N := 3) (n := 3) hg inG3 (hg _ wT_X3)
  obtain ⟨c8, i8, h8⟩ := u_known (C := RX4) (T := TX4) (N := 1) (n := 1) hg inG4 (hg _ wT_X4)
  obtain ⟨c9, i9, h9⟩ := u_known (C := RX5) (T := TX5) (N := 1) (n := 1) hg inG5 (hg _ wT_X5)
  obtain ⟨c10, i10, h10⟩ := u_known (C := RX7) (T := TX7) (N := 2) (n := 2) hg inG7 (hg _ wT_X7)
  obtain ⟨c11, i11, h11⟩ := u_known (C := RX8) (T := TX8) (N := 3) (n := 3) hg inG8 (hg _ wT_X8)
  obtain ⟨c12, i12, h12⟩ := u_known (C := RX9) (T := TX9) (N := 2) (n := 2) hg inG9 (hg _ wT_X9)
  obtain ⟨c13, i13, h13⟩ := u_known (C := RX11) (T := TX11) (N := 12) (n := 12) hg inG11 (hg _ wT_X11)
  obtain ⟨c14, i14, h14⟩ := u_known (C := RX12) (T := TX12) (N := 21) (n := 21) hg inG12 (hg _ wT_X12)
  obtain ⟨t0, a0, b0⟩ := wd_arr (hts _ inJ11.1)
  obtain ⟨t2, a2, b2⟩ := wd_arr (hts _ inJ11.2.1)
  obtain ⟨t3, a3, b3⟩ := wd_arr (hts _ inJ11.2.2)
  obtain ⟨comp, t1, k1, e1, -, e2, e3, e4⟩ := Cond.arrayOver_spec (hts _ inJ6.2.2.1)
  refine ⟨fun k => match k with | 0 => c0 | 1 => c1 | 2 => c2 | 3 => c3 | 4 => c4 | 5 => c5 | 6 => c6 | 7 => c7 | 8 => c8 | 9 => c9 | 10 => c10 | 11 => c11 | 12 => c12 | 13 => c13 | _ => c14, fun k => match k with | 0 => i0 | 1 => i1 | 2 => i2 | 3 => i3 | 4 => i4 | 5 => i5 | 6 => i6 | 7 => i7 | 8 => i8 | 9 => i9 | 10 => i10 | 11 => i11 | 12 => i12 | 13 => i13 | _ => i14, fun k => match k with | 0 => t0 | 1 => t1 | 2 => t2 | _ => t3, ?_, ?_⟩
  · intro k q hq
    match k, hq with
    | 0, hq => cases hq; exact h0
    | 1, hq => cases hq; exact h1
    | 2, hq => cases hq; exact h2
    | 3, hq => cases hq; exact h3
    | 4, hq => cases hq; exact h4
    | 5, hq => cases hq; exact h5
    | 6, hq => cases hq; exact h6
    | 7, hq => cases hq; exact h7
    | 8, hq => cases hq; exact h8
    | 9, hq => cases hq; exact h9
    | 10, hq => cases hq; exact h10
    | 11, hq => cases hq; exact h11
    | 12, hq => cases hq; exact h12
    | 13, hq => cases hq; exact h13
    | 14, hq => cases hq; exact h14
    | k + 15, hq => simp [vwCl] at hq
  · intro k q hq
    match k, hq with
    | 0, hq => cases hq; exact ⟨a0, b0⟩
    | 1, hq => cases hq; exact ⟨fun n z => ⟨fun k h => (by cases h), k1, e2, comp, e3⟩, k1, comp, e2, e3, e1, e4⟩
    | 2, hq => cases hq; exact ⟨a2, b2⟩
    | 3, hq => cases hq; exact ⟨a3, b3⟩
    | k + 4, hq => simp at hq
theorem wd_T (hts : ∀ w ∈ lw_tbl, w.before args s = true) (hs : ∀ w ∈ flatC (Cond.and given_1 narrow_1), w.before args s = true) : cT s := by
  refine ⟨fun k hk => ?_, fun k hk => ?_, fun k t hk ht => ⟨fun hi => va_Nw.of rfl (hts _ (inJ8 ⟨k, hk⟩ ⟨t, ht⟩ hi)), fun hi => va_Nc.of (hs _ (inJ9 ⟨k, hk⟩ ⟨t, ht⟩ hi))⟩, va_AO.of (hts _ inJ6.2.2.1), va_Nw.of rfl (hts _ inJ6.2.2.2.1), va_Nw.of rfl (hts _ inJ6.2.2.2.2), va_Fw.of (hts _ inJ12.1.1) (hts _ inJ12.1.2) (hts _ inJ12.2.1.1) (hts _ inJ12.2.2.1.1) (hts _ inJ12.2.2.2.1), va_Fw.of (hts _ inJ12.1.1) (hts _ inJ12.1.2) (hts _ inJ12.2.1.2.1) (hts _ inJ12.2.2.1.2.1) (hts _ inJ12.2.2.2.2.1), va_Fw.of (hts _ inJ12.1.1) (hts _ inJ12.1.2) (hts _ inJ12.2.1.2.2) (hts _ inJ12.2.2.1.2.2) (hts _ inJ12.2.2.2.2.2)⟩
  · match k, hk with
    | 0, _ => exact va_Nw.of rfl (hts _ (inJ6.1 0))
    | 1, _ => exact va_Nw.of rfl (hts _ (inJ6.1 1))
    | 2, _ => exact va_Nw.of rfl (hts _ (inJ6.1 2))
    | 3, _ => exact va_Nw.of rfl (hts _ (inJ6.1 3))
    | 4, _ => exact va_Nw.of rfl (hts _ (inJ6.1 4))
  · match k, hk with
    | 0, _ => exact va_Nw.of rfl (hts _ (inJ6.2.1 0))
    | 1, _ => exact va_Nw.of rfl (hts _ (inJ6.2.1 1))
    | 2, _ => exact va_Nw.of rfl (hts _ (inJ6.2.1 2))
    | 3, _ => exact va_Nw.of rfl (hts _ (inJ6.2.1 3))
    | 4, _ => exact va_Nw.of rfl (hts _ (inJ6.2.1 4))
theorem wd_Tx (hts : ∀ w ∈ lw_tbl, w.before args s = true) : cTx s := by
  have hg : ∀ w ∈ gT, w.before args s = true := fun w h => hts w (List.mem_filter.mp h).1
  refine ⟨fun k hk => va_Nw.of rfl (hts _ (inJ7.1 ⟨k, hk⟩)), fun k hk => ?_, ?_⟩
  · by_cases h7 : k < 7
    · exact va_Nw.of rfl (hts _ (inJ7.2.1 ⟨k, h7⟩))
    · obtain rfl : k = 7 := by omega
      exact va_Nw.of rfl (up_cast (by decide) (hts _ inJ14.1) (hts _ inJ14.2.1) (hts _ inJ14.2.2))
  obtain ⟨c, k, h1, -⟩ := Cond.instantiable_spec (hg _ wT_X11)
  obtain ⟨_, _, _, a, _, _, _, _, _, h2⟩ := Cond.stringRef_spec h1 (hts _ inJ7.2.2)
  exact ⟨a, vk_R.of (hts _ inJ7.2.2) h2⟩
theorem wd_N (hs : ∀ w ∈ flatC (Cond.and given_1 narrow_1), w.before args s = true) : cN s := fun i j h1 h2 => va_Nc.of (hs _ (inJ10 ⟨j, h2⟩ ⟨i, Nat.lt_trans h1 h2⟩ h1))
theorem wd_Z (hts : ∀ w ∈ lw_tbl, w.before args s = true) (hs : ∀ w ∈ flatC (Cond.and given_1 narrow_1), w.before args s = true) : cZx (fun q => s.heap.size ≤ q) s s.heap :=
  ⟨vx_Zqof (hts _ inJ13.1.1) (hts _ inJ13.1.2.2) (hs _ inJ13.2.1) (fun a h => Nat.not_le.mpr h), vx_Zqof (hts _ inJ13.1.2.1) (hts _ inJ13.1.2.2) (hs _ inJ13.2.2) (fun a h => Nat.not_le.mpr h)⟩
end WStart

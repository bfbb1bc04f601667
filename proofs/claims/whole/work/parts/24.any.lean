/-- a thing of the pool may lie in a row of things -/
theorem cI_any {s : State} {H : Heap} {D : va_G} {tys : List (ClassId × FieldType)} {X : va_W} {ty : Nat → ClassId} {P : cQ} {a : Nat} (hT : cT s) (hK : va_K D vwCl tys s) (hP : va_P D vwCl (X ++ va_pl P.1 (cpf ty P)) H) (ha : a ∈ P.1) (hk : P.2.1 a < 7) : va_Any RX10 s H a := by
  obtain ⟨j, hj⟩ := cg_k (X := X) (ty := ty) ha rfl hk
  obtain ⟨q, hq, hn⟩ := cCi_ok hk
  refine va_rAny hK hP hj hq (fun comp c0 h1 h2 => ?_)
  obtain ⟨c1, t1, f1, f2, f3⟩ := Cond.castable_spec (va_Nw.use (A := #[]) rfl ((hT.2.2.1 _ 6 hk (by decide)).1 rfl))
  rw [hn] at h2
  cases h2.symm.trans f1
  cases h1.symm.trans f2
  exact f3
theorem cln_lt {n : Nat} {i : Int32} (hn : n < 100) (h0 : ¬ i < 0) (h1 : i < Int32.ofNat n) : vp_in i n := cin_lt h0 h1 (nI_toInt (by omega))
theorem cln_no {n : Nat} {i : Int32} (hn : n < 100) (h : i < 0 ∨ ¬ i < Int32.ofNat n) : ¬ vp_in i n := by
  rcases h with h | h
  · exact cin_ng h
  · exact cin_nl h (nI_toInt (by omega))
/-! what a thing of a sort is -/
theorem ki_all {P : cQ} {pl : Nat → Option Nat} {a : Nat} (wf : cWF pl P) (ha : a ∈ P.1) (hk : P.2.1 a < 7) {s0 : Int32} (h : kOf (P.2.1 a) (P.2.2.1 a) s0 = true) :
    ((P.2.1 a = 0 ∨ P.2.1 a = 1) ∧ (s0 = 12 ∨ s0 = 13 ∨ s0 = 14)) ∨ (P.2.1 a = 2 ∧ s0 = 12) ∨ (P.2.1 a = 3 ∧ s0 = 14) ∨ (P.2.1 a = 4 ∧ s0 = 15) ∨ (P.2.1 a = 5 ∧ ∃ k : Nat, k < 8 ∧ P.2.2.1 a = nI k ∧ s0 = nI k) ∨
      (P.2.1 a = 6 ∧ ((s0 = 8 ∧ P.2.2.1 a = 8 ∧ P.2.2.2.1 a = 0) ∨ (s0 = 9 ∧ P.2.2.1 a = 9 ∧ P.2.2.2.1 a = 12) ∨ (s0 = 9 ∧ P.2.2.1 a = 10 ∧ P.2.2.2.1 a = 13) ∨ (s0 = 10 ∧ P.2.2.1 a = 10 ∧ P.2.2.2.1 a = 13) ∨ (s0 = 11 ∧ P.2.2.1 a = 11 ∧ P.2.2.2.1 a = 14))) := by
  have hc : P.2.1 a = 0 ∨ P.2.1 a = 1 ∨ P.2.1 a = 2 ∨ P.2.1 a = 3 ∨ P.2.1 a = 4 ∨ P.2.1 a = 5 ∨ P.2.1 a = 6 := by omega
  rcases hc with e | e | e | e | e | e | e
  · rw [e] at h; simp only [kOf, Bool.or_eq_true, beq_iff_eq] at h; exact Or.inl ⟨Or.inl e, h⟩
  · rw [e] at h; simp only [kOf, Bool.or_eq_true, beq_iff_eq] at h; exact Or.inl ⟨Or.inr e, h⟩
  · rw [e] at h; simp only [kOf, beq_iff_eq] at h; exact Or.inr (Or.inl ⟨e, h⟩)
  · rw [e] at h; simp only [kOf, beq_iff_eq] at h; exact Or.inr (Or.inr (Or.inl ⟨e, h⟩))
  · rw [e] at h; simp only [kOf, beq_iff_eq] at h; exact Or.inr (Or.inr (Or.inr (Or.inl ⟨e, h⟩)))
  · rw [e] at h; simp only [kOf, beq_iff_eq] at h
    obtain ⟨k, hk8, hv⟩ := wf.2.2.2.2.2.2.1 a ha e
    exact Or.inr (Or.inr (Or.inr (Or.inr (Or.inl ⟨e, k, hk8, hv, h.trans hv⟩))))
  · rw [e] at h; simp only [kOf, Bool.or_eq_true, Bool.and_eq_true, beq_iff_eq] at h
    refine Or.inr (Or.inr (Or.inr (Or.inr (Or.inr ⟨e, ?_⟩))))
    rcases wf.2.2.2.2.2.1 a ha e with ⟨h1, h2⟩ | ⟨h1, h2⟩ | ⟨h1, h2⟩ | ⟨h1, h2⟩ <;> rw [h1, h2] <;> rw [h1] at h
    · rcases h with h | ⟨h, h3⟩
      · exact Or.inl ⟨h, rfl, rfl⟩
      · exact absurd h3 (by decide)
    · rcases h with h | ⟨h, h3⟩
      · exact Or.inr (Or.inl ⟨h, rfl, rfl⟩)
      · exact absurd h3 (by decide)
    · rcases h with h | ⟨h, h3⟩
      · exact Or.inr (Or.inr (Or.inr (Or.inl ⟨h, rfl, rfl⟩)))
      · exact Or.inr (Or.inr (Or.inl ⟨h, rfl, rfl⟩))
    · rcases h with h | ⟨h, h3⟩
      · exact Or.inr (Or.inr (Or.inr (Or.inr ⟨h, rfl, rfl⟩)))
      · exact absurd h3 (by decide)
theorem nI_lit {k : Nat} (hk : k < 8) {z : Int32} (hz : z.toInt < 0 ∨ 8 ≤ z.toInt) : ¬ z = nI k := fun q => by
  rw [q, nI_toInt (by omega)] at hz
  omega
theorem ki_row {P : cQ} {pl : Nat → Option Nat} {a : Nat} {b0 : Int32} (wf : cWF pl P) (ha : a ∈ P.1) (hk : P.2.1 a < 7) (h : kOf (P.2.1 a) (P.2.2.1 a) (b0 &&& 7) = true) : cIs (P.2.1 a) 0 = true := by
  obtain ⟨j, hj, ej⟩ := pk_andE b0 (m := 7) 3 (by decide)
  rw [ej] at h
  rcases ki_all wf ha hk h with ⟨-, h | h | h⟩ | ⟨-, h⟩ | ⟨-, h⟩ | ⟨-, h⟩ | ⟨e, -⟩ | ⟨-, ⟨h, -⟩ | ⟨h, -⟩ | ⟨h, -⟩ | ⟨h, -⟩ | ⟨h, -⟩⟩
  all_goals first | (rw [e]; rfl) | exact absurd h.symm (nI_lit (show j < 8 by omega) (by decide))
theorem ki_row0 {P : cQ} {pl : Nat → Option Nat} {a : Nat} (wf : cWF pl P) (ha : a ∈ P.1) (hk : P.2.1 a < 7) (h : kOf (P.2.1 a) (P.2.2.1 a) 0 = true) : cIs (P.2.1 a) 0 = true := by
  rcases ki_all wf ha hk h with ⟨-, h | h | h⟩ | ⟨-, h⟩ | ⟨-, h⟩ | ⟨-, h⟩ | ⟨e, -⟩ | ⟨-, ⟨h, -⟩ | ⟨h, -⟩ | ⟨h, -⟩ | ⟨h, -⟩ | ⟨h, -⟩⟩
  all_goals first | (rw [e]; rfl) | exact absurd h (by decide)
theorem ki_8 {P : cQ} {pl : Nat → Option Nat} {a : Nat} (wf : cWF pl P) (ha : a ∈ P.1) (hk : P.2.1 a < 7) (h : kOf (P.2.1 a) (P.2.2.1 a) 8 = true) : cIs (P.2.1 a) 1 = true := by
  rcases ki_all wf ha hk h with ⟨-, h | h | h⟩ | ⟨-, h⟩ | ⟨-, h⟩ | ⟨-, h⟩ | ⟨-, k, h1, -, h⟩ | ⟨e, -⟩
  all_goals first | (rw [e]; rfl) | exact absurd h (by decide) | exact absurd h (nI_lit h1 (by decide))
theorem ki_9 {P : cQ} {pl : Nat → Option Nat} {a : Nat} (wf : cWF pl P) (ha : a ∈ P.1) (hk : P.2.1 a < 7) (h : kOf (P.2.1 a) (P.2.2.1 a) 9 = true) : cIs (P.2.1 a) 1 = true := by
  rcases ki_all wf ha hk h with ⟨-, h | h | h⟩ | ⟨-, h⟩ | ⟨-, h⟩ | ⟨-, h⟩ | ⟨-, k, h1, -, h⟩ | ⟨e, -⟩
  all_goals first | (rw [e]; rfl) | exact absurd h (by decide) | exact absurd h (nI_lit h1 (by decide))
theorem ki_11 {P : cQ} {pl : Nat → Option Nat} {a : Nat} (wf : cWF pl P) (ha : a ∈ P.1) (hk : P.2.1 a < 7) (h : kOf (P.2.1 a) (P.2.2.1 a) 11 = true) : cIs (P.2.1 a) 1 = true := by
  rcases ki_all wf ha hk h with ⟨-, h | h | h⟩ | ⟨-, h⟩ | ⟨-, h⟩ | ⟨-, h⟩ | ⟨-, k, h1, -, h⟩ | ⟨e, -⟩
  all_goals first | (rw [e]; rfl) | exact absurd h (by decide) | exact absurd h (nI_lit h1 (by decide))
theorem ki_12 {P : cQ} {pl : Nat → Option Nat} {a : Nat} (wf : cWF pl P) (ha : a ∈ P.1) (hk : P.2.1 a < 7) (h : kOf (P.2.1 a) (P.2.2.1 a) 12 = true) : cIs (P.2.1 a) 2 = true := by
  rcases ki_all wf ha hk h with ⟨e | e, -⟩ | ⟨e, -⟩ | ⟨-, h⟩ | ⟨-, h⟩ | ⟨-, k, h1, -, h⟩ | ⟨-, ⟨h, -⟩ | ⟨h, -⟩ | ⟨h, -⟩ | ⟨h, -⟩ | ⟨h, -⟩⟩
  all_goals first | (rw [e]; rfl) | exact absurd h (by decide) | exact absurd h (nI_lit h1 (by decide))
theorem ki_13 {P : cQ} {pl : Nat → Option Nat} {a : Nat} (wf : cWF pl P) (ha : a ∈ P.1) (hk : P.2.1 a < 7) (h : kOf (P.2.1 a) (P.2.2.1 a) 13 = true) : cIs (P.2.1 a) 4 = true := by
  rcases ki_all wf ha hk h with ⟨e | e, -⟩ | ⟨-, h⟩ | ⟨-, h⟩ | ⟨-, h⟩ | ⟨-, k, h1, -, h⟩ | ⟨-, ⟨h, -⟩ | ⟨h, -⟩ | ⟨h, -⟩ | ⟨h, -⟩ | ⟨h, -⟩⟩
  all_goals first | (rw [e]; rfl) | exact absurd h (by decide) | exact absurd h (nI_lit h1 (by decide))
theorem ki_14 {P : cQ} {pl : Nat → Option Nat} {a : Nat} (wf : cWF pl P) (ha : a ∈ P.1) (hk : P.2.1 a < 7) (h : kOf (P.2.1 a) (P.2.2.1 a) 14 = true) : cIs (P.2.1 a) 3 = true := by
  rcases ki_all wf ha hk h with ⟨e | e, -⟩ | ⟨-, h⟩ | ⟨e, -⟩ | ⟨-, h⟩ | ⟨-, k, h1, -, h⟩ | ⟨-, ⟨h, -⟩ | ⟨h, -⟩ | ⟨h, -⟩ | ⟨h, -⟩ | ⟨h, -⟩⟩
  all_goals first | (rw [e]; rfl) | exact absurd h (by decide) | exact absurd h (nI_lit h1 (by decide))
theorem ki_15 {P : cQ} {pl : Nat → Option Nat} {a : Nat} (wf : cWF pl P) (ha : a ∈ P.1) (hk : P.2.1 a < 7) (h : kOf (P.2.1 a) (P.2.2.1 a) 15 = true) : cIs (P.2.1 a) 5 = true := by
  rcases ki_all wf ha hk h with ⟨-, h | h | h⟩ | ⟨-, h⟩ | ⟨-, h⟩ | ⟨e, -⟩ | ⟨-, k, h1, -, h⟩ | ⟨-, ⟨h, -⟩ | ⟨h, -⟩ | ⟨h, -⟩ | ⟨h, -⟩ | ⟨h, -⟩⟩
  all_goals first | (rw [e]; rfl) | exact absurd h (by decide) | exact absurd h (nI_lit h1 (by decide))
theorem kc_8 {P : cQ} {pl : Nat → Option Nat} {a r j t : Nat} (wf : cWF pl P) (ha : a ∈ P.1) (hk : P.2.1 a < 7) (h : kOf (P.2.1 a) (P.2.2.1 a) 8 = true) (hr : P.2.2.2.2.1 a = some r) (hj : P.2.2.2.2.2.2.2 r j = some t) : kOf (P.2.1 t) (P.2.2.1 t) 0 = true := by
  rcases ki_all wf ha hk h with ⟨-, h | h | h⟩ | ⟨-, h⟩ | ⟨-, h⟩ | ⟨-, h⟩ | ⟨-, k, h1, -, h⟩ | ⟨e, ⟨-, -, h0⟩ | ⟨h, -⟩ | ⟨h, -⟩ | ⟨h, -⟩ | ⟨h, -⟩⟩
  all_goals first | exact absurd h (by decide) | exact absurd h (nI_lit h1 (by decide)) | (have q := wf.2.2.2.2.2.2.2.2.1 a r j t ha e hr hj; rw [h0] at q; exact q)
theorem ki_sh {P : cQ} {pl : Nat → Option Nat} {a : Nat} {s1 : Int32} (hs : s1 = 8 ∨ s1 = 9 ∨ s1 = 11) (wf : cWF pl P) (ha : a ∈ P.1) (hk : P.2.1 a < 7) (h : kOf (P.2.1 a) (P.2.2.1 a) s1 = true) : cIs (P.2.1 a) 1 = true := by
  rcases hs with rfl | rfl | rfl
  · exact ki_8 wf ha hk h
  · exact ki_9 wf ha hk h
  · exact ki_11 wf ha hk h
/-- a cell's value from a long, and read again, by its kind -/
def aCell (k : Int32) (v : Int64) : Int64 := if k = 0 then v.toInt32.toInt64 else if k = 1 then v else if k = 2 then v.toInt32.toInt16.toInt32.toInt64 else if k = 3 then v.toInt32.toInt8.toInt32.toInt64 else if k = 4 then (v.toInt32.toUInt32 % 65536).toInt32.toInt64 else if k = 5 then (if lg_cmp v 0 = 0 then 0 else 1) else if k = 6 then FP.f2l (FP.l2f v) else FP.d2l (FP.l2d v)

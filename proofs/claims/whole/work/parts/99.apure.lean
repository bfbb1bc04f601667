/-! ===== the law: what its calls keep (pure) ===== -/
section LPure
variable {pl : Nat → Option Nat} {P : cQ} {md : Int32} {Z : cZ} {Y Y' : rY} {pa pa' : Nat → Int32} {I I' : rI} {tl tl' : Nat → Int32} {ac : Int64}
theorem bs_thr (h : bSt pl P md Z Y pa I tl) (x : Int32) : bSt pl P md Z Y pa (I.1, I.2.1, I.2.2.1, I.2.2.2.1, I.2.2.2.2.1, x) tl := by
  obtain ⟨⟨a, ⟨d1, d2⟩, d3, d7⟩, hz, h4⟩ := h
  exact ⟨⟨a, ⟨d1, d2⟩, d3, d7⟩, hz, h4⟩
theorem bs_op {w0 a0 b0 c0 : Int32} {rz r' : Int64} {u9 : (Nat → Option Nat) × Int32 × Int32 × cQ} (h : bSt pl P md Z Y pa I tl) (hq : q_X11_answerOf w0 a0 b0 c0 pl ac (-1) md Z P rz u9) (ho : rOp u9.2.1 rz u9.1 u9.2.2.2 u9.2.2.1 tl Y I r' Y' pa' I' tl') :
    (u9.2.1 = -1 → bSt u9.1 u9.2.2.2 u9.2.2.1 (zDn Z) Y' pa' I' tl' ∧ I'.2.2.2.2.2 = 0 ∧ r' = rz) ∧ (¬ u9.2.1 = -1 → bSt u9.1 u9.2.2.2 u9.2.2.1 (zLo Z) Y' pa' I' tl' ∧ I'.2.2.2.2.2 = u9.2.1 + 1) := by
  obtain ⟨⟨⟨a1, a2, a3, a4, a5⟩, ⟨d1, d2⟩, ⟨d3, d4, d5, d6⟩, d7⟩, hz, h4⟩ := h
  obtain ⟨k1, k2, k3, k4⟩ := wq_answerOf a2 hq
  have e := md_st (fun q => q.1) k3 k4 a5
  obtain ⟨ho, o2, -, o4⟩ := ho
  rcases ho with ⟨x1, x2, rfl, rfl⟩ | ⟨x1, rfl, rfl⟩
  · refine ⟨fun _ => ⟨⟨⟨⟨o4, k1, o2, rfl, e.1⟩, ⟨d1, d2⟩, ⟨?_, d4, d5, d6⟩, d7⟩, hz, h4⟩, rfl, x2⟩, fun hh => absurd x1 hh⟩
    show tl 0 + 1 = Z.2.2.2.1 + 1
    rw [d3]
  · refine ⟨fun hh => absurd hh x1, fun _ => ⟨⟨⟨⟨o4, k1, o2, rfl, e.1⟩, ⟨d1, d2⟩, ⟨d3, d4, d5, ?_⟩, d7⟩, hz, h4⟩, rfl⟩⟩
    show tl 3 + 1 = Z.2.2.2.2.2.2.1 + 1
    rw [d6]
theorem ld_4 {i : Int32} (h0 : ¬ i < 0) (h : i < 256) : (i * 4).toNatClampNeg = i.toNatClampNeg * 4 ∧ (i * 4 + 1).toNatClampNeg = i.toNatClampNeg * 4 + 1 ∧ (i * 4 + 2).toNatClampNeg = i.toNatClampNeg * 4 + 2 ∧ (i * 4 + 3).toNatClampNeg = i.toNatClampNeg * 4 + 3 := by
  obtain ⟨e, hl⟩ := i32_nI (s := i) (n := 256) (i32_in (nn_of h0) (by have := i32_lt (nn_of h0) h; have e : (256 : Int32).toNatClampNeg = 256 := (by decide); omega))
  have hh : ∀ k : Fin 256, (nI k.1 * 4).toNatClampNeg = k.1 * 4 ∧ (nI k.1 * 4 + 1).toNatClampNeg = k.1 * 4 + 1 ∧ (nI k.1 * 4 + 2).toNatClampNeg = k.1 * 4 + 2 ∧ (nI k.1 * 4 + 3).toNatClampNeg = k.1 * 4 + 3 := by decide +kernel
  generalize i.toNatClampNeg = k at e hl ⊢
  subst e
  exact hh ⟨k, hl⟩
theorem bs_load {i w a b c : Int32} (h : bSt pl P md Z Y pa I tl) (h0 : ¬ i < 0) (h1 : i < 256) : bSt pl P md (zLoad Z i w a b c) Y pa (upd I.1 i.toNatClampNeg w, upd I.2.1 i.toNatClampNeg a, upd I.2.2.1 i.toNatClampNeg b, upd I.2.2.2.1 i.toNatClampNeg c, I.2.2.2.2.1, 0) tl := by
  obtain ⟨⟨q, ⟨d1, d2⟩, d3, d7⟩, hz, h4⟩ := h
  refine ⟨⟨q, ⟨d1, fun k hk => ?_⟩, d3, d7⟩, hz, h4⟩
  obtain ⟨e1, e2, e3, e4⟩ := ld_4 h0 h1
  obtain ⟨g1, g2, g3, g4⟩ := d2 k hk
  show upd I.1 i.toNatClampNeg w k = (upd (upd (upd (upd Z.1 (i * 4).toNatClampNeg w) (i * 4 + 1).toNatClampNeg a) (i * 4 + 2).toNatClampNeg b) (i * 4 + 3).toNatClampNeg c) (k * 4) ∧ upd I.2.1 i.toNatClampNeg a k = (upd (upd (upd (upd Z.1 (i * 4).toNatClampNeg w) (i * 4 + 1).toNatClampNeg a) (i * 4 + 2).toNatClampNeg b) (i * 4 + 3).toNatClampNeg c) (k * 4 + 1) ∧ upd I.2.2.1 i.toNatClampNeg b k = (upd (upd (upd (upd Z.1 (i * 4).toNatClampNeg w) (i * 4 + 1).toNatClampNeg a) (i * 4 + 2).toNatClampNeg b) (i * 4 + 3).toNatClampNeg c) (k * 4 + 2) ∧ upd I.2.2.2.1 i.toNatClampNeg c k = (upd (upd (upd (upd Z.1 (i * 4).toNatClampNeg w) (i * 4 + 1).toNatClampNeg a) (i * 4 + 2).toNatClampNeg b) (i * 4 + 3).toNatClampNeg c) (k * 4 + 3)
  simp only [upd_at', e1, e2, e3, e4]
  generalize i.toNatClampNeg = n
  by_cases hn : k = n
  · subst hn
    refine ⟨?_, ?_, ?_, ?_⟩
    · rw [if_pos rfl, if_neg (by omega), if_neg (by omega), if_neg (by omega), if_pos rfl]
    · rw [if_pos rfl, if_neg (by omega), if_neg (by omega), if_pos rfl]
    · rw [if_pos rfl, if_neg (by omega), if_pos rfl]
    · rw [if_pos rfl, if_pos rfl]
  · refine ⟨?_, ?_, ?_, ?_⟩
    · rw [if_neg hn, if_neg (by omega), if_neg (by omega), if_neg (by omega), if_neg (by omega)]; exact g1
    · rw [if_neg hn, if_neg (by omega), if_neg (by omega), if_neg (by omega), if_neg (by omega)]; exact g2
    · rw [if_neg hn, if_neg (by omega), if_neg (by omega), if_neg (by omega), if_neg (by omega)]; exact g3
    · rw [if_neg hn, if_neg (by omega), if_neg (by omega), if_neg (by omega), if_neg (by omega)]; exact g4
theorem i_256 {i : Int32} : i ≤ 255 ↔ i < 256 := by
  rw [Int32.le_iff_toInt_le, Int32.lt_iff_toInt_lt, ci_256, show (255 : Int32).toInt = 255 by decide]
  omega
theorem nI_ne {f : Nat} (h : f < 7) : ¬ nI f = -1 := by
  have hh : ∀ f : Fin 7, ¬ nI f.1 = -1 := by decide
  exact hh ⟨f, h⟩
/-- the mill's steps of a run, as the reference's run asks for them -/
def lRun (i0 f0 : Int32) (pl : Nat → Option Nat) (ac : Int64) (md : Int32) (Z : cZ) (P : cQ) (k : Int32) (rz : Int64) (u : ((Nat → Option Nat) × Int64 × Int32 × Int32 × cZ × cQ)) : Prop :=
  ∃ (N : Nat) (F : ((Nat → Option Nat) × Int64 × Int32 × Int32 × cZ × cQ)), mSts N (pl, ac, -1, md, zSt Z i0 f0, P) F ∧ ¬ mGd F ∧
    ∀ {r : Int32} {Y' : rY} {pa' : Nat → Int32} {I' : rI} {tl' : Nat → Int32} {ac' : Int64}, rRun F r Y' pa' I' tl' ac' → bSt u.1 u.2.2.2.2.2 u.2.2.2.1 u.2.2.2.2.1 Y' pa' I' tl' ∧ u.2.1 = ac' ∧ I'.2.2.2.2.2 = k ∧ (k = 0 → rz = r.toInt64)
theorem gd_no {F : ((Nat → Option Nat) × Int64 × Int32 × Int32 × cZ × cQ)} (h : F.2.2.2.2.1.2.2.1 ≤ 0 ∨ 256 ≤ F.2.2.2.2.1.2.1) : ¬ mGd F := fun q => h.elim q.1 q.2
theorem bs_run {i0 f0 ft rz : Int32} {u : ((Nat → Option Nat) × Int64 × Int32 × Int32 × cZ × cQ)} (h : q_X11_run i0 f0 pl ac ft md Z P rz u) : lRun i0 f0 pl ac md Z P 0 rz.toInt64 u := by
  rcases h with ⟨n, F, rfl, rfl, hs, hg, hf, hat⟩ | ⟨n, F, rfl, rfl, hs, hg, hf, hat⟩
  · refine ⟨n, F, hs, gd_no hg, ?_⟩
    intro r Y' pa' I' tl' ac' hr
    obtain ⟨G, hS, ha, ⟨-, -, rfl, rfl, ht⟩ | ⟨-, hn, -⟩ | ⟨-, -, f, hf7, hf'⟩⟩ := hr
    · exact ⟨hS, ha, ht, fun _ => rfl⟩
    · exact absurd hat hn
    · exact absurd (hf'.symm.trans hf) (nI_ne hf7)
  · refine ⟨n, F, hs, gd_no hg, ?_⟩
    intro r Y' pa' I' tl' ac' hr
    obtain ⟨G, hS, ha, ⟨-, hn, -⟩ | ⟨-, -, rfl, rfl, ht⟩ | ⟨-, -, f, hf7, hf'⟩⟩ := hr
    · exact absurd hn hat
    · exact ⟨hS, ha, ht, fun _ => rfl⟩
    · exact absurd (hf'.symm.trans hf) (nI_ne hf7)
theorem k_ne {u : Int32} (h : ∃ k : Nat, k < 7 ∧ u = nI k) : ¬ u + 1 = 0 := by
  obtain ⟨k, hk, rfl⟩ := h
  have hh : ∀ f : Fin 7, ¬ nI f.1 + 1 = 0 := by decide
  exact hh ⟨k, hk⟩
theorem bs_runx {i0 f0 ft : Int32} {z : Int64} {u : ((Nat → Option Nat) × Int64 × Int32 × Int32 × cZ × cQ)} (hw : cWF pl P) (hz : zOk Z) (hm : 0 ≤ md ∧ md ≤ 6000) (h : px_X11_run i0 f0 pl ac ft md Z P u) : lRun i0 f0 pl ac md Z P (u.2.2.1 + 1) z u := by
  have h7 := run_f7 hw hz hm h
  obtain ⟨n, F, rfl, hs, hg, hf⟩ := h
  refine ⟨n, F, hs, gd_no hg, ?_⟩
  intro r Y' pa' I' tl' ac' hr
  obtain ⟨G, hS, ha, ⟨hn, -⟩ | ⟨hn, -⟩ | ⟨rfl, ht, -⟩⟩ := hr
  · exact absurd hn hf
  · exact absurd hn hf
  · exact ⟨hS, ha, ht, fun e => absurd e (k_ne h7)⟩
/-- the two counts are one -/
theorem bs_count {w r1 r2 : Int32} (h : bSt pl P md Z Y pa I tl)
    (h1 : (Z.2.2.2.1 = r1 ∧ w = 0) ∨ (Z.2.2.2.2.1 = r1 ∧ w = 1) ∨ (Z.2.2.2.2.2.1 = r1 ∧ w = 2) ∨ (Z.2.2.2.2.2.2.1 = r1 ∧ w = 3) ∨ (Z.2.2.1 = r1 ∧ w = 4) ∨ (md = r1 ∧ w = 5) ∨ ((-1) = r1 ∧ ¬ w = 0 ∧ ¬ w = 1 ∧ ¬ w = 2 ∧ ¬ w = 3 ∧ ¬ w = 4 ∧ ¬ w = 5))
    (h2 : ((-1) = r2 ∧ (w < 0 ∨ ¬ w ≤ 5)) ∨ (tl w.toNatClampNeg = r2 ∧ ¬ w < 0 ∧ w ≤ 5)) : r1 = r2 := by
  obtain ⟨⟨⟨a1, a2, a3, a4, a5⟩, -, ⟨d3, d4, d5, d6⟩, -⟩, -, h4⟩ := h
  rcases h2 with ⟨rfl, h2⟩ | ⟨rfl, h2, h3⟩
  · rcases h1 with ⟨-, rfl⟩ | ⟨-, rfl⟩ | ⟨-, rfl⟩ | ⟨-, rfl⟩ | ⟨-, rfl⟩ | ⟨-, rfl⟩ | ⟨rfl, -⟩
    · exact absurd h2 (by decide)
    · exact absurd h2 (by decide)
    · exact absurd h2 (by decide)
    · exact absurd h2 (by decide)
    · exact absurd h2 (by decide)
    · exact absurd h2 (by decide)
    · rfl
  · rcases h1 with ⟨rfl, rfl⟩ | ⟨rfl, rfl⟩ | ⟨rfl, rfl⟩ | ⟨rfl, rfl⟩ | ⟨rfl, rfl⟩ | ⟨rfl, rfl⟩ | ⟨-, n0, n1, n2, n3, n4, n5⟩
    · exact d3.symm
    · exact d4.symm
    · exact d5.symm
    · exact d6.symm
    · exact h4.symm
    · exact a4.symm
    · exfalso
      obtain ⟨e, hl⟩ := i32_nI (ct_in h2 h3)
      generalize w.toNatClampNeg = k at e hl
      subst e
      rcases (show k = 0 ∨ k = 1 ∨ k = 2 ∨ k = 3 ∨ k = 4 ∨ k = 5 by omega) with rfl | rfl | rfl | rfl | rfl | rfl
      · exact n0 rfl
      · exact n1 rfl
      · exact n2 rfl
      · exact n3 rfl
      · exact n4 rfl
      · exact n5 rfl
end LPure
/-- at the start -/
theorem bs_start {fa : Nat → Nat} {w z : Nat → Int32} (hw : ∀ k, k < 256 → w k = 40) (hz : ∀ j, j < 1024 → z j = if j % 4 = 0 then 40 else 0) :
    bSt (fun _ => none) ([], fun _ => 0, fun _ => 0, fun _ => 0, fun _ => none, fun _ => 0, fun _ _ => 0, fun _ _ => none) 0 (z, 0, 0, 0, 0, 0, 0, fun _ => 0, fun _ => 0, fun _ => 0, fun _ => 0, 0) (fun _ => 0, fun _ => 0, fun _ => 0, fun _ => 0, fun _ => 0, fun _ => 0, fa, 1500, 24000, 1, 0) (fun _ => 0) (w, fun _ => 0, fun _ => 0, fun _ => 0, 0, 0) (fun _ => 0) := by
  have c1 : (1 : Int32).toNatClampNeg = 1 := by decide
  have c0 : (0 : Int32).toNatClampNeg = 0 := by decide
  refine ⟨⟨⟨⟨fun _ => 0, ⟨⟨(show (0 : Int32) < 1 by decide), ?_⟩, ⟨(show (0 : Int32) ≤ 0 by decide), ?_⟩, ⟨0, by decide, (show 1500 = 1500 * 2 ^ 0 by decide), (show 24000 * 2 ^ 0 ≤ 24000 by decide), (show 24000 + 99 ≤ 24099 * 2 ^ 0 by decide)⟩, fun t h1 h2 => ?_, fun t t' h1 h2 h3 => ?_⟩, ⟨(show (0 : Int32) < 1 by decide), (show (1 : Int32) ≤ 1 by decide)⟩, fun t h1 h2 => ?_, fun t t' h1 h2 => ?_, fun p _ => Or.inl ⟨rfl, rfl⟩⟩, ?_, ⟨?_, ?_⟩, rfl, by decide⟩, ⟨rfl, fun k hk => ⟨?_, ?_, ?_, ?_⟩⟩, ⟨rfl, rfl, rfl, rfl⟩, ⟨⟨(show (0 : Int32) ≤ 0 by decide), (show (0 : Int32) ≤ 200 by decide)⟩, ⟨(show (0 : Int32) ≤ 0 by decide), (show (0 : Int32) ≤ 256 by decide)⟩, fun k hk => ?_⟩⟩, rfl, rfl⟩
  · show (1 : Int32).toNatClampNeg ≤ 1500
    rw [c1]; decide
  · show (0 : Int32).toNatClampNeg ≤ 24000
    rw [c0]; decide
  · have h2 : t < (1 : Int32).toNatClampNeg := h2
    rw [c1] at h2; omega
  · have h3 : t' < (1 : Int32).toNatClampNeg := h3
    rw [c1] at h3; omega
  · have h2 : t < (1 : Int32).toNatClampNeg := h2
    rw [c1] at h2; omega
  · have h2 : t < (1 : Int32).toNatClampNeg := h2
    rw [c1] at h2; omega
  · refine ⟨fun x t h => ?_, fun a t h => ?_, fun a h => ?_, fun a h => ?_, fun r j t h => ?_, fun a h => ?_, fun a h => ?_, fun a h => ?_, fun a r j t h => ?_, fun a b r h => ?_⟩
    · cases h
    all_goals exact absurd h List.not_mem_nil
  · show (1 : Int32).toNatClampNeg ≤ _
    rw [c1]; omega
  · show (0 : Int32).toNatClampNeg ≤ _
    rw [c0]; omega
  · show w k = z (k * 4)
    rw [hw k hk, hz _ (by omega), if_pos (by omega)]
  · show 0 = z (k * 4 + 1)
    rw [hz _ (by omega), if_neg (by omega)]
  · show 0 = z (k * 4 + 2)
    rw [hz _ (by omega), if_neg (by omega)]
  · show 0 = z (k * 4 + 3)
    rw [hz _ (by omega), if_neg (by omega)]
  · have hk : k < (0 : Int32).toNatClampNeg := hk
    rw [c0] at hk; omega

/-! ===== the law: one call ===== -/
theorem lw_rc : 400000 ≤ room_1.cells := by decide
theorem lw_rs : 5000000 ≤ room_1.slots := by decide
/-- how much the heap has grown at the most: by what is made, by the reference's rows, by n calls -/
def lCe (md : Int32) (Y : rY) (n : Nat) : Nat := 18 * md.toNatClampNeg + Y.2.2.2.2.2.2.2.1 + n + 30
def lSl (md : Int32) (Y : rY) (n : Nat) : Nat := 101 * md.toNatClampNeg + 10 * Y.2.2.2.2.2.2.2.1 + 2 * Y.2.2.2.2.2.2.2.2.1 + 8 * n + 40000
abbrev lA (s : State) : Nat → Prop := fun q => s.heap.size ≤ q
/-- what holds all through the law -/
def lX (p : Program) (c : Code) (s : State) (m : MethodId) (b : Nat) (D : va_G) (ty : Nat → ClassId) : Prop :=
  p.tables.exec = Jvm.exec ∧ c.code = cL_law ∧ c.maxLocals = 8 ∧ s.vm.findClass RL = some m.cls ∧ (∀ w ∈ gT, w.before #[Value.ref b] s = true) ∧ va_K D vwCl (rTy ty) s ∧ cT s ∧ cTx s ∧ cN s ∧ cZx (lA s) s s.heap
abbrev lJ (M : lMt) (B : lRt) : Prop := bSt M.1 M.2.2.2.2.2 M.2.2.2.1 M.2.2.2.2.1 B.1 B.2.1 B.2.2.2.1 B.2.2.2.2.1
theorem sc_in {j k L : Nat} (h : j + k < L) (hL : L ≤ 3072) : vp_in (nI j + nI k) L := by
  rw [nI_add]; exact vp_in_nI h (by omega)
theorem mk_k0 {w a b c md : Int32} (hm : 0 ≤ md ∧ md ≤ 6000) : ∃ k0 : Nat, k0 ≤ 1 ∧ (kMk w a b c md → 1 ≤ k0) ∧ ∀ m2 : Int32, (kMk w a b c md → m2 = md + 1) → (¬ kMk w a b c md → m2 = md) → m2.toNatClampNeg = md.toNatClampNeg + k0 := by
  by_cases hk : kMk w a b c md
  · refine ⟨1, Nat.le_refl _, fun _ => Nat.le_refl _, fun m2 h _ => ?_⟩
    rw [h hk]
    exact (md_up hm.1 hk.1).2.2
  · refine ⟨0, by omega, fun h => absurd h hk, fun m2 _ h => ?_⟩
    rw [h hk]; rfl
section LOne
variable {pl : Nat → Option Nat} {ac : Int64} {ft md : Int32} {Z : cZ} {P : cQ} {o o' : Nat → Int64} {k : Int32} {M' : lMt}
theorem lo_op {w0 a0 b0 c0 : Int32} (wf : cWF pl P) (h : (k = 0 ∧ ∃ (rz : Int64) (v : (Nat → Option Nat) × Int32 × Int32 × cZ × cQ), q_X11_op w0 a0 b0 c0 pl ac ft md Z P rz v ∧ (M', o') = ((v.1, ac, v.2.1, v.2.2.1, v.2.2.2.1, v.2.2.2.2), vp_updL o 0 rz)) ∨ (px_X11_op w0 a0 b0 c0 pl ac ft md Z P M' ∧ k = M'.2.2.1 + 1 ∧ o' = o)) :
    ∃ (r9 : Int64) (u9 : (Nat → Option Nat) × Int32 × Int32 × cQ), q_X11_answerOf w0 a0 b0 c0 pl ac (-1) md Z P r9 u9 ∧ M'.2.2.2.1 = u9.2.2.1 ∧ M'.2.1 = ac ∧
      ∀ {Y Y' : rY} {pa pa' : Nat → Int32} {I I' : rI} {tl tl' : Nat → Int32} {r' : Int64}, bSt pl P md Z Y pa I tl → rOp u9.2.1 r9 u9.1 u9.2.2.2 u9.2.2.1 tl Y I r' Y' pa' I' tl' → bSt M'.1 M'.2.2.2.2.2 M'.2.2.2.1 M'.2.2.2.2.1 Y' pa' I' tl' ∧ I'.2.2.2.2.2 = k ∧ (k = 0 → o' 0 = r') := by
  rcases h with ⟨rfl, rz, v, ⟨r9, u9, rfl, rfl, hq, hf⟩, e⟩ | ⟨⟨r9, u9, rfl, hq, hf⟩, rfl, rfl⟩
  · obtain ⟨rfl, rfl⟩ := Prod.mk.inj e
    refine ⟨r9, u9, hq, rfl, rfl, ?_⟩
    intro Y Y' pa pa' I I' tl tl' r' hb ho
    obtain ⟨h1, h2, h3⟩ := (bs_op hb hq ho).1 hf
    exact ⟨h1, h2, fun _ => h3.symm⟩
  · refine ⟨r9, u9, hq, rfl, rfl, ?_⟩
    intro Y Y' pa pa' I I' tl tl' r' hb ho
    obtain ⟨h1, h2⟩ := (bs_op hb hq ho).2 hf
    exact ⟨h1, h2, fun e => absurd e (k_ne ((wq_answerOf wf hq).2.1.resolve_left hf))⟩
theorem lo_load {i0 w0 a0 b0 c0 : Int32} (h : (k = 0 ∧ (M', o') = ((pl, ac, ft, md, zLoad Z i0 w0 a0 b0 c0, P), vp_updL o 0 i0.toInt64) ∧ ¬ i0 < 0 ∧ i0 < 256) ∨ (k = 1 ∧ (M', o') = ((pl, ac, ft, md, Z, P), o) ∧ (i0 < 0 ∨ ¬ i0 < 256))) :
    M'.2.2.2.1 = md ∧ M'.2.1 = ac ∧ ∀ {Y : rY} {pa : Nat → Int32} {I I' : rI} {tl : Nat → Int32} {r' : Int32}, bSt pl P md Z Y pa I tl → ((0 = r' ∧ (I.1, I.2.1, I.2.2.1, I.2.2.2.1, I.2.2.2.2.1, 1) = I' ∧ (i0 < 0 ∨ ¬ i0 ≤ 255)) ∨ (i0 = r' ∧ ((upd I.1 i0.toNatClampNeg w0), (upd I.2.1 i0.toNatClampNeg a0), (upd I.2.2.1 i0.toNatClampNeg b0), (upd I.2.2.2.1 i0.toNatClampNeg c0), I.2.2.2.2.1, 0) = I' ∧ ¬ i0 < 0 ∧ i0 ≤ 255)) → bSt M'.1 M'.2.2.2.2.2 M'.2.2.2.1 M'.2.2.2.2.1 Y pa I' tl ∧ I'.2.2.2.2.2 = k ∧ (k = 0 → o' 0 = r'.toInt64) := by
  rcases h with ⟨rfl, e, h1, h2⟩ | ⟨rfl, e, h1⟩
  · obtain ⟨rfl, rfl⟩ := Prod.mk.inj e
    refine ⟨rfl, rfl, ?_⟩
    intro Y pa I I' tl r' hb hr
    rcases hr with ⟨-, -, h3⟩ | ⟨rfl, rfl, -, -⟩
    · exact absurd (h3.resolve_left h1) (fun q => q (i_256.mpr h2))
    · exact ⟨bs_load hb h1 h2, rfl, fun _ => rfl⟩
  · obtain ⟨rfl, rfl⟩ := Prod.mk.inj e
    refine ⟨rfl, rfl, ?_⟩
    intro Y pa I I' tl r' hb hr
    rcases hr with ⟨-, rfl, -⟩ | ⟨-, -, h3, h4⟩
    · exact ⟨bs_thr hb 1, rfl, fun q => absurd q (by decide)⟩
    · exact absurd (h1.resolve_left h3) (fun q => q (i_256.mp h4))
theorem lo_run {i0 f0 : Int32} (hw : cWF pl P) (hz : zOk Z) (hm : 0 ≤ md ∧ md ≤ 6000) (h : (k = 0 ∧ ∃ rz : Int32, q_X11_run i0 f0 pl ac ft md Z P rz M' ∧ o' = vp_updL o 0 rz.toInt64) ∨ (px_X11_run i0 f0 pl ac ft md Z P M' ∧ k = M'.2.2.1 + 1 ∧ o' = o)) :
    lRun i0 f0 pl ac md Z P k (o' 0) M' ∧ md.toNatClampNeg ≤ M'.2.2.2.1.toNatClampNeg ∧ M'.2.2.2.1.toNatClampNeg ≤ 6000 := by
  rcases h with ⟨rfl, rz, hq, rfl⟩ | ⟨hq, rfl, rfl⟩
  · refine ⟨bs_run hq, ?_, run_md hm hw hz hq⟩
    rcases hq with ⟨n9, b9, -, rfl, hs, -, hf, -⟩ | ⟨n9, b9, -, rfl, hs, -, hf, -⟩
    · exact (sts_keep hs hw (zst_ok hz _ _) hm rfl).2.2.2.1
    · exact (sts_keep hs hw (zst_ok hz _ _) hm rfl).2.2.2.1
  · refine ⟨bs_runx hw hz hm hq, ?_⟩
    obtain ⟨n9, b9, rfl, hs, -, hf⟩ := hq
    have h9 := sts_keep hs hw (zst_ok hz _ _) hm rfl
    exact ⟨h9.2.2.2.1, md_6000 h9.2.2.1.1 h9.2.2.1.2⟩
end LOne

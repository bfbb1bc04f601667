/-! ===== the steps of a block ===== -/
/-- what the operation w a b c does from Z (behind it), before blocks are left -/
def mPx (pl : Nat → Option Nat) (ac : Int64) (md : Int32) (Z : cZ) (P : cQ) (w a b c : Int32) (X : ((Nat → Option Nat) × Int64 × Int32 × Int32 × cZ × cQ)) : Prop :=
  (X = (pl, (zCtl ac Z w a b).1, -1, md, (zCtl ac Z w a b).2, P) ∧ ¬ w < 40 ∧ ¬ 45 < w) ∨
  (∃ (r9 : Int64) (u9 : (Nat → Option Nat) × Int32 × Int32 × cQ), (w < 40 ∨ 45 < w) ∧ q_X11_answerOf w a b c pl ac (-1) md Z P r9 u9 ∧
    ((u9.2.1 = -1 ∧ X = (u9.1, r9, -1, u9.2.2.1, zDn Z, u9.2.2.2)) ∨ (¬ u9.2.1 = -1 ∧ X = (u9.1, (zUnw Z.2.2.2.2.2.2.2.2.2.2.2.toNatClampNeg ac u9.2.1 Z).1, (zUnw Z.2.2.2.2.2.2.2.2.2.2.2.toNatClampNeg ac u9.2.1 Z).2.1, u9.2.2.1, (zUnw Z.2.2.2.2.2.2.2.2.2.2.2.toNatClampNeg ac u9.2.1 Z).2.2, u9.2.2.2))))
def bGo (Z : cZ) (e fm : Int32) (F : ((Nat → Option Nat) × Int64 × Int32 × Int32 × cZ × cQ)) (Y : rY) (pa : Nat → Int32) (I : rI) (tl : Nat → Int32) (ac : Int64) (k : Int32) : Prop :=
  ∃ (pl : Nat → Option Nat) (P : cQ) (md : Int32) (Z2 : cZ) (N : Nat) (X : ((Nat → Option Nat) × Int64 × Int32 × Int32 × cZ × cQ)), bS pl P md Z2 Y pa I tl ∧ sS Z Z2 ∧ Z2.2.1 = k + 1 ∧ k + 1 ≤ e ∧ (0 ≤ Z2.2.2.1 ∧ Z2.2.2.1 ≤ fm) ∧ mStc N (lvS X) F ∧ mPx pl ac md Z2 P (I.1 k.toNatClampNeg) (I.2.1 k.toNatClampNeg) (I.2.2.1 k.toNatClampNeg) (I.2.2.2.1 k.toNatClampNeg) X
theorem ix4 : ∀ n : Fin 256, (nI n.1 * 4).toNatClampNeg = n.1 * 4 ∧ (nI n.1 * 4 + 1).toNatClampNeg = n.1 * 4 + 1 ∧ (nI n.1 * 4 + 2).toNatClampNeg = n.1 * 4 + 2 ∧ (nI n.1 * 4 + 3).toNatClampNeg = n.1 * 4 + 3 := by decide +kernel
theorem ix4' {k : Int32} (h0 : 0 ≤ k) (h1 : k < 256) : k.toNatClampNeg < 256 ∧ (k * 4).toNatClampNeg = k.toNatClampNeg * 4 ∧ (k * 4 + 1).toNatClampNeg = k.toNatClampNeg * 4 + 1 ∧ (k * 4 + 2).toNatClampNeg = k.toNatClampNeg * 4 + 2 ∧ (k * 4 + 3).toNatClampNeg = k.toNatClampNeg * 4 + 3 := by
  have hv : vp_in k 256 := i32_in h0 (by have := i32_lt h0 h1; have e : (256 : Int32).toNatClampNeg = 256 := by decide
                                         omega)
  obtain ⟨e, hl⟩ := i32_nI hv
  refine ⟨hl, ?_⟩
  have := ix4 ⟨k.toNatClampNeg, hl⟩
  rw [← e] at this
  exact this
theorem lt_256 {k e : Int32} (h : k < e) (he : e ≤ 256) : ¬ 256 ≤ k ∧ k < 256 := by
  rw [Int32.lt_iff_toInt_lt] at h
  rw [Int32.le_iff_toInt_le, ci_256] at he
  rw [Int32.le_iff_toInt_le, Int32.lt_iff_toInt_lt, ci_256]
  omega
theorem up1 {k e : Int32} (h : k < e) (h0 : 0 ≤ k) (he : e ≤ 256) : k + 1 ≤ e ∧ (k + 1).toInt = k.toInt + 1 := by
  rw [Int32.lt_iff_toInt_lt] at h
  rw [Int32.le_iff_toInt_le, ci_256] at he
  rw [Int32.le_iff_toInt_le, ci_0] at h0
  have e1 : (k + 1).toInt = k.toInt + 1 := by
    rw [Int32.toInt_add, ci_1]
    exact Int.bmod_eq_of_le (by omega) (by omega)
  rw [Int32.le_iff_toInt_le, e1]
  exact ⟨by omega, rfl⟩
theorem fu_pos {f : Int32} (h0 : 0 ≤ f) (h : ¬ f = 0) : ¬ f ≤ 0 := by
  intro h1
  rw [Int32.le_iff_toInt_le, ci_0] at h0 h1
  exact h (Int32.toInt_inj.mp (by rw [ci_0]; omega))
theorem fu_dn {f : Int32} (h : ¬ f ≤ 0) : 0 ≤ f - 1 ∧ (f - 1).toNatClampNeg + 1 = f.toNatClampNeg := by
  rw [sub1_eq h]
  have := down_eq h
  refine ⟨?_, by omega⟩
  have e := down_toInt h
  rw [Int32.le_iff_toInt_le, ci_0] at h
  rw [Int32.le_iff_toInt_le, ci_0, e]
  omega
theorem bs_to {pl : Nat → Option Nat} {P : cQ} {md : Int32} {Z Z' : cZ} {Y : rY} {pa : Nat → Int32} {I : rI} {tl tl' : Nat → Int32} (h : bS pl P md Z Y pa I tl) (e1 : Z'.1 = Z.1) (e2 : Z'.2.2.1 = Z.2.2.1) (e5 : tl' 5 = tl 5) (hc : tl' 0 = Z'.2.2.2.1 ∧ tl' 1 = Z'.2.2.2.2.1 ∧ tl' 2 = Z'.2.2.2.2.2.1 ∧ tl' 3 = Z'.2.2.2.2.2.2.1) (ho : zOk Z') : bS pl P md Z' Y pa I tl' := by
  obtain ⟨⟨a1, a2, a3, a4, a5⟩, ⟨b1, b2⟩, _, _⟩ := h
  refine ⟨⟨a1, a2, a3, e5.trans a4, a5⟩, ⟨b1.trans e2.symm, ?_⟩, hc, ho⟩
  unfold bPg
  rw [e1]
  exact b2
section BGo
variable {Z : cZ} {e fm : Int32} {F : ((Nat → Option Nat) × Int64 × Int32 × Int32 × cZ × cQ)} {Y : rY} {pa : Nat → Int32} {I : rI} {tl : Nat → Int32} {ac : Int64} {k wr : Int32}
theorem bi_L (h : bInv Z e fm F Y pa I tl ac k) : Y.2.2.2.2.2.2.2.1 ≤ 96000 ∧ Y.2.2.2.2.2.2.2.2.1 ≤ 1542237 := by
  obtain ⟨pl, P, md, Z1, N, ⟨⟨⟨ρ, hr⟩, -⟩, -⟩, -⟩ := h
  exact rl_L hr.1
theorem bi_e (h : bInv Z e fm F Y pa I tl ac k) (he : zEnd Z = e) : 0 ≤ e ∧ e ≤ 256 ∧ 0 ≤ k := by
  obtain ⟨pl, P, md, Z1, N, hS, hs, hk, -⟩ := h
  have := zok_end hS.2.2.2
  rw [sS_end hs, he] at this
  exact ⟨this.1, this.2, hk ▸ hS.2.2.2.2.1.1⟩
theorem bi_fu (h : bInv Z e fm F Y pa I tl ac k) : 0 ≤ I.2.2.2.2.1 ∧ I.2.2.2.2.1 ≤ fm := by
  obtain ⟨pl, P, md, Z1, N, hS, hs, hk, -, hf, -⟩ := h
  rw [hS.2.1.1]
  exact hf
theorem bk_end (h : bInv Z e fm F Y pa I tl ac k) (hk : e ≤ k) : bRes Z e fm F 0 Y pa I tl ac wr := by
  refine Or.inl ⟨rfl, ?_⟩
  have h9 := h
  obtain ⟨pl, P, md, Z1, N, hS, hs, hk2, hke, -⟩ := h9
  rw [Int32.le_antisymm hke hk] at h
  exact h
theorem bk_lack (h : bInv Z e fm F Y pa I tl ac k) (he : zEnd Z = e) (hk : ¬ e ≤ k) (hf : I.2.2.2.2.1 = 0) : bRes Z e fm F 2 Y pa I tl ac wr := by
  obtain ⟨b0, b1, -⟩ := bi_e h he
  obtain ⟨pl, P, md, Z1, N, hS, hs, hk2, hke, hfu, hm⟩ := h
  have hlt : k < e := by
    rw [Int32.le_iff_toInt_le] at hk
    rw [Int32.lt_iff_toInt_lt]
    omega
  have hin : Z1.2.1 < zEnd Z1 := by rw [sS_end hs, he, hk2]; exact hlt
  have hF : F = (pl, ac, -1, md, Z1, P) := by
    have := mStc_stop hm (fun q => q.1 (by
      show (zLv Z1).2.2.1 ≤ 0
      rw [lv_in hin, ← hS.2.1.1, hf]
      decide))
    rw [this]
    show (_, _, _, _, zLv Z1, _) = _
    rw [lv_in hin]
  subst hF
  obtain ⟨c1, c2, c3, c4, c5, c6_, c7, c8⟩ := zAll_eff _ Z1 rfl hS.2.2.2.1.1
  have hcc : c6 Z1.2.2.2.2.2.2.2.2.2.2.1 Z1.2.2.2.2.2.2.2.2.2.2.2.toNatClampNeg = c6 Z.2.2.2.2.2.2.2.2.2.2.1 Z.2.2.2.2.2.2.2.2.2.2.2.toNatClampNeg := by
    rw [hs.2.1]
    exact c6_eq (fun j hj => (hs.2.2 j hj).2.2.2)
  have hnd : nI Z1.2.2.2.2.2.2.2.2.2.2.2.toNatClampNeg = Z1.2.2.2.2.2.2.2.2.2.2.2 := by
    have hv : vp_in Z1.2.2.2.2.2.2.2.2.2.2.2 201 := i32_in hS.2.2.2.1.1 (by
      have := i32_le hS.2.2.2.1.2
      have e9 : (200 : Int32).toNatClampNeg = 200 := by decide
      omega)
    exact (i32_nI hv).1.symm
  obtain ⟨⟨d1, d2⟩, ⟨d3, d4, d5, d6⟩, d7⟩ := hS.2
  refine Or.inr (Or.inl ⟨Or.inr rfl, zAll Z1.2.2.2.2.2.2.2.2.2.2.2.toNatClampNeg Z1, Or.inr ⟨rfl, ?_, rfl⟩, rfl, rfl, hS.1, ⟨?_, ?_⟩, ⟨?_, ?_, ?_, ?_⟩, zok_all _ d7, c8⟩)
  · show ¬ 256 ≤ Z1.2.1
    rw [hk2]
    exact (lt_256 hlt b1).1
  · rw [c5]; exact d1
  · unfold bPg
    rw [c6_]
    exact d2
  · rw [c1, ← hs.2.1, hnd, d3]
  · rw [c3]; exact d4
  · rw [c2, hcc, d5]
  · rw [c4]; exact d6
theorem bk_go (h : bInv Z e fm F Y pa I tl ac k) (he : zEnd Z = e) (hk : ¬ e ≤ k) (hf : ¬ I.2.2.2.2.1 = 0) (hF : ¬ mGd F) : bGo Z e (I.2.2.2.2.1 - 1) F Y pa (I.1, I.2.1, I.2.2.1, I.2.2.2.1, I.2.2.2.2.1 - 1, I.2.2.2.2.2) tl ac k := by
  obtain ⟨b0, b1, bk0⟩ := bi_e h he
  have hfu0 := bi_fu h
  obtain ⟨pl, P, md, Z1, N, hS, hs, hk2, hke, hfu, hm⟩ := h
  have hlt : k < e := by
    rw [Int32.le_iff_toInt_le] at hk
    rw [Int32.lt_iff_toInt_lt]
    omega
  have hin : Z1.2.1 < zEnd Z1 := by rw [sS_end hs, he, hk2]; exact hlt
  have hlv : lvS (pl, ac, -1, md, Z1, P) = (pl, ac, -1, md, Z1, P) := by
    show (_, _, _, _, zLv Z1, _) = _
    rw [lv_in hin]
  rw [hlv] at hm
  have hp : ¬ Z1.2.2.1 ≤ 0 := by rw [← hS.2.1.1]; exact fu_pos hfu0.1 hf
  have hp2 : ¬ 256 ≤ Z1.2.1 := by rw [hk2]; exact (lt_256 hlt b1).1
  obtain ⟨N2, B, -, hst, hrest⟩ := mStc_go hm hF ⟨hp, hp2⟩
  obtain ⟨X, hX, rfl⟩ := mStp_pr hst
  obtain ⟨i0, i1, i2, i3, i4⟩ := ix4' bk0 (lt_256 hlt b1).2
  obtain ⟨⟨d1, d2⟩, d3, d7⟩ := hS.2
  obtain ⟨p1, p2, p3, p4⟩ := d2 _ i0
  refine ⟨pl, P, md, zNx (zFu Z1 (Z1.2.2.1 - 1)), N2, X, ⟨hS.1, ⟨?_, d2⟩, d3, zok_nx (zok_fu d7) hp2⟩, sS_to hs rfl rfl ⟨rfl, rfl, rfl, rfl⟩, ?_, (up1 hlt bk0 b1).1, ?_, hrest, ?_⟩
  · show I.2.2.2.2.1 - 1 = Z1.2.2.1 - 1
    rw [d1]
  · show Z1.2.1 + 1 = k + 1
    rw [hk2]
  · show 0 ≤ Z1.2.2.1 - 1 ∧ Z1.2.2.1 - 1 ≤ I.2.2.2.2.1 - 1
    rw [d1]
    exact ⟨(fu_dn hp).1, Int32.le_refl _⟩
  · show mPx pl ac md _ P (I.1 k.toNatClampNeg) (I.2.1 k.toNatClampNeg) (I.2.2.1 k.toNatClampNeg) (I.2.2.2.1 k.toNatClampNeg) X
    rw [p1, p2, p3, p4, ← i2, ← i3, ← i4, ← i1, ← hk2]
    exact hX
end BGo

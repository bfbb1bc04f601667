/-! ===== run ===== -/
def zFu (Z : cZ) (f : Int32) : cZ := (Z.1, Z.2.1, f, Z.2.2.2.1, Z.2.2.2.2.1, Z.2.2.2.2.2.1, Z.2.2.2.2.2.2.1, Z.2.2.2.2.2.2.2.1, Z.2.2.2.2.2.2.2.2.1, Z.2.2.2.2.2.2.2.2.2.1, Z.2.2.2.2.2.2.2.2.2.2.1, Z.2.2.2.2.2.2.2.2.2.2.2)
def zSt (Z : cZ) (i f : Int32) : cZ := zAt (zFu Z (if 0 < (if 200 < f then 200 else f) then (if 200 < f then 200 else f) else 0)) (if i < 0 then 256 else if 256 ≤ i then 256 else i)
/-- n steps, one behind the other -/
def mSts : Nat → ((Nat → Option Nat) × Int64 × Int32 × Int32 × cZ × cQ) → ((Nat → Option Nat) × Int64 × Int32 × Int32 × cZ × cQ) → Prop
  | 0, a, b => b = a
  | n + 1, a, b => ∃ x : ((Nat → Option Nat) × Int64 × Int32 × Int32 × cZ × cQ), mSts n a x ∧ ¬ x.2.2.2.2.1.2.2.1 ≤ 0 ∧ ¬ 256 ≤ x.2.2.2.2.1.2.1 ∧ q_X11_step x.1 x.2.1 x.2.2.1 x.2.2.2.1 (zFu x.2.2.2.2.1 (x.2.2.2.2.1.2.2.1 - 1)) x.2.2.2.2.2 b
theorem zok_fu {Z : cZ} (h : zOk Z) {f : Int32} : zOk (zFu Z f) := zok_dep h h.2.1 rfl rfl (Or.inr rfl)
theorem zok_st {Z : cZ} (h : zOk Z) {i f : Int32} (h0 : ¬ i < 0) (h1 : ¬ 256 ≤ i) : zOk (zAt (zFu Z f) i) := zok_at (zok_fu h) ⟨nn_of h0, by
  rw [Int32.le_iff_toInt_le, ci_256] at h1
  rw [Int32.le_iff_toInt_le, ci_256]
  omega⟩
theorem zok_st2 {Z : cZ} (h : zOk Z) {f : Int32} : zOk (zAt (zFu Z f) 256) := zok_at (zok_fu h) (by decide)
theorem st_0 {pl : Nat → Option Nat} {ac : Int64} {md : Int32} {Z : cZ} {P : cQ} {i0 f0 m9 : Int32} (e : m9 = (if 0 < (if 200 < f0 then 200 else f0) then (if 200 < f0 then 200 else f0) else 0)) (h0 : ¬ i0 < 0) (h1 : ¬ 256 ≤ i0) : mSts 0 (pl, ac, -1, md, zSt Z i0 f0, P) (pl, ac, -1, md, (Z.1, i0, m9, Z.2.2.2.1, Z.2.2.2.2.1, Z.2.2.2.2.2.1, Z.2.2.2.2.2.2.1, Z.2.2.2.2.2.2.2.1, Z.2.2.2.2.2.2.2.2.1, Z.2.2.2.2.2.2.2.2.2.1, Z.2.2.2.2.2.2.2.2.2.2.1, Z.2.2.2.2.2.2.2.2.2.2.2), P) := by
  have e9 : zSt Z i0 f0 = (Z.1, i0, m9, Z.2.2.2.1, Z.2.2.2.2.1, Z.2.2.2.2.2.1, Z.2.2.2.2.2.2.1, Z.2.2.2.2.2.2.2.1, Z.2.2.2.2.2.2.2.2.1, Z.2.2.2.2.2.2.2.2.2.1, Z.2.2.2.2.2.2.2.2.2.2.1, Z.2.2.2.2.2.2.2.2.2.2.2) := by
    rw [zSt, if_neg h0, if_neg h1, ← e]; rfl
  rw [e9]; rfl
theorem st_1 {pl : Nat → Option Nat} {ac : Int64} {md : Int32} {Z : cZ} {P : cQ} {i0 f0 m9 : Int32} (e : m9 = (if 0 < (if 200 < f0 then 200 else f0) then (if 200 < f0 then 200 else f0) else 0)) (h0 : i0 < 0) : mSts 0 (pl, ac, -1, md, zSt Z i0 f0, P) (pl, ac, -1, md, (Z.1, 256, m9, Z.2.2.2.1, Z.2.2.2.2.1, Z.2.2.2.2.2.1, Z.2.2.2.2.2.2.1, Z.2.2.2.2.2.2.2.1, Z.2.2.2.2.2.2.2.2.1, Z.2.2.2.2.2.2.2.2.2.1, Z.2.2.2.2.2.2.2.2.2.2.1, Z.2.2.2.2.2.2.2.2.2.2.2), P) := by
  have e9 : zSt Z i0 f0 = (Z.1, 256, m9, Z.2.2.2.1, Z.2.2.2.2.1, Z.2.2.2.2.2.1, Z.2.2.2.2.2.2.1, Z.2.2.2.2.2.2.2.1, Z.2.2.2.2.2.2.2.2.1, Z.2.2.2.2.2.2.2.2.2.1, Z.2.2.2.2.2.2.2.2.2.2.1, Z.2.2.2.2.2.2.2.2.2.2.2) := by
    rw [zSt, if_pos h0, ← e]; rfl
  rw [e9]; rfl
theorem st_2 {pl : Nat → Option Nat} {ac : Int64} {md : Int32} {Z : cZ} {P : cQ} {i0 f0 m9 : Int32} (e : m9 = (if 0 < (if 200 < f0 then 200 else f0) then (if 200 < f0 then 200 else f0) else 0)) (h0 : ¬ i0 < 0) (h1 : 256 ≤ i0) : mSts 0 (pl, ac, -1, md, zSt Z i0 f0, P) (pl, ac, -1, md, (Z.1, 256, m9, Z.2.2.2.1, Z.2.2.2.2.1, Z.2.2.2.2.2.1, Z.2.2.2.2.2.2.1, Z.2.2.2.2.2.2.2.1, Z.2.2.2.2.2.2.2.2.1, Z.2.2.2.2.2.2.2.2.2.1, Z.2.2.2.2.2.2.2.2.2.2.1, Z.2.2.2.2.2.2.2.2.2.2.2), P) := by
  have e9 : zSt Z i0 f0 = (Z.1, 256, m9, Z.2.2.2.1, Z.2.2.2.2.1, Z.2.2.2.2.2.1, Z.2.2.2.2.2.2.1, Z.2.2.2.2.2.2.2.1, Z.2.2.2.2.2.2.2.2.1, Z.2.2.2.2.2.2.2.2.2.1, Z.2.2.2.2.2.2.2.2.2.2.1, Z.2.2.2.2.2.2.2.2.2.2.2) := by
    rw [zSt, if_neg h0, if_pos h1, ← e]; rfl
  rw [e9]; rfl
theorem ge256 {x : Int32} (h : ¬ x < 256) : 256 ≤ x := by
  rw [Int32.lt_iff_toInt_lt] at h
  rw [Int32.le_iff_toInt_le]
  omega
theorem kk_of (C : Prop) : ∃ k0 : Nat, (C → k0 = 1) ∧ (¬ C → k0 = 0) := by
  by_cases h : C
  · exact ⟨1, fun _ => rfl, fun h9 => absurd h h9⟩
  · exact ⟨0, fun h9 => absurd h9 h, fun _ => rfl⟩
theorem md_6000 {md : Int32} (h0 : 0 ≤ md) (h1 : md ≤ 6000) : md.toNatClampNeg ≤ 6000 := by
  rw [Int32.le_iff_toInt_le, ci_0] at h0
  rw [Int32.le_iff_toInt_le, ci_6000] at h1
  show md.toInt.toNat ≤ 6000
  omega
theorem md_up {md : Int32} (h0 : 0 ≤ md) (h1 : md < 6000) : 0 ≤ md + 1 ∧ md + 1 ≤ 6000 ∧ (md + 1).toNatClampNeg = md.toNatClampNeg + 1 := by
  rw [Int32.le_iff_toInt_le, ci_0] at h0
  rw [Int32.lt_iff_toInt_lt, ci_6000] at h1
  have e : (md + 1).toInt = md.toInt + 1 := by
    rw [Int32.toInt_add, ci_1]
    exact Int.bmod_eq_of_le (by omega) (by omega)
  refine ⟨by rw [Int32.le_iff_toInt_le, ci_0, e]; omega, by rw [Int32.le_iff_toInt_le, ci_6000, e]; omega, ?_⟩
  show (md + 1).toInt.toNat = md.toInt.toNat + 1
  rw [e]; omega
theorem km_bd {w a b c md md1 : Int32} {k0 : Nat} (i2 : (0 ≤ md1 ∧ md1 ≤ 6000) ∧ md.toNatClampNeg ≤ md1.toNatClampNeg) (hk : (kMk w a b c md1 → k0 = 1) ∧ (¬ kMk w a b c md1 → k0 = 0)) : k0 + md1.toNatClampNeg ≤ 6000 := by
  by_cases h : kMk w a b c md1
  · have := md_up i2.1.1 h.1
    have h6 := md_6000 this.1 this.2.1
    rw [hk.1 h]; omega
  · have h6 := md_6000 i2.1.1 i2.1.2
    rw [hk.2 h]; omega
/-- what leaving blocks keeps -/
theorem fu_close (Z : cZ) : (zClose Z).2.2.1 = Z.2.2.1 := by
  unfold zClose zDrop zDn zFin
  split <;> split <;> rfl
theorem fu_drop (Z : cZ) : (zDrop Z).2.2.1 = Z.2.2.1 := by
  unfold zDrop; split <;> rfl
theorem fu_all (n : Nat) (Z : cZ) : (zAll n Z).2.2.1 = Z.2.2.1 := by
  induction n generalizing Z with
  | zero => rfl
  | succ n ih => rw [zAll_s, ih, fu_close]
theorem fu_leave (n : Nat) (Z : cZ) : (zLeave n Z).2.2.1 = Z.2.2.1 := by
  induction n generalizing Z with
  | zero => rfl
  | succ n ih =>
    rw [zLeave_s]
    split
    · rfl
    · split
      · rfl
      · rw [ih, fu_close]
theorem fu_unw (n : Nat) (ac : Int64) (ft : Int32) (Z : cZ) : (zUnw n ac ft Z).2.2.2.2.1 = Z.2.2.1 := by
  induction n generalizing Z with
  | zero => rfl
  | succ n ih =>
    rw [zUnw_s]
    split
    · exact fu_close _
    · split
      · rw [ih, fu_drop]; rfl
      · rw [ih, fu_drop]
theorem fu_open (Z : cZ) (a b t k : Int32) : (zOpen Z a b t k).2.2.1 = Z.2.2.1 := by
  unfold zOpen; split <;> rfl
theorem fu_ctl (ac : Int64) (Z : cZ) (w a b : Int32) : (zCtl ac Z w a b).2.2.2.1 = Z.2.2.1 := by
  unfold zCtl
  split
  · exact fu_all _ Z
  · split
    · rfl
    · split
      · rfl
      · split
        · split <;> rfl
        · split
          · unfold zRep; split
            · rfl
            · split
              · rfl
              · exact fu_open _ _ _ _ _
          · split
            · exact fu_open _ _ _ _ _
            · rfl
/-- what a step keeps -/
theorem st_keep {pl : Nat → Option Nat} {ac : Int64} {ft md : Int32} {Z : cZ} {P : cQ} {u : ((Nat → Option Nat) × Int64 × Int32 × Int32 × cZ × cQ)} (h : q_X11_step pl ac ft md Z P u) (wf : cWF pl P) (hz : zOk Z) (ha : ¬ 256 ≤ Z.2.1) (hm : 0 ≤ md ∧ md ≤ 6000) :
    cWF u.1 u.2.2.2.2.2 ∧ zOk u.2.2.2.2.1 ∧ u.2.2.2.2.1.2.2.1 = Z.2.2.1 ∧ (kMk (Z.1 (Z.2.1 * 4).toNatClampNeg) (Z.1 (Z.2.1 * 4 + 1).toNatClampNeg) (Z.1 (Z.2.1 * 4 + 2).toNatClampNeg) (Z.1 (Z.2.1 * 4 + 3).toNatClampNeg) md → u.2.2.2.1 = md + 1) ∧ (¬ kMk (Z.1 (Z.2.1 * 4).toNatClampNeg) (Z.1 (Z.2.1 * 4 + 1).toNatClampNeg) (Z.1 (Z.2.1 * 4 + 2).toNatClampNeg) (Z.1 (Z.2.1 * 4 + 3).toNatClampNeg) md → u.2.2.2.1 = md) := by
  rcases h with ⟨rfl, h1, h2⟩ | ⟨r9, u9, rfl, hw, hq, _⟩ | ⟨r9, u9, rfl, hw, hq, _⟩
  · refine ⟨wf, zok_leave _ (zok_ctl _ _ _ _ (zok_nx hz ha)), (fu_leave _ _).trans (fu_ctl _ _ _ _ _), fun h9 => absurd h9 (km_no ?_), fun _ => rfl⟩
    rw [Int32.lt_iff_toInt_lt] at h1
    refine ⟨?_, ?_, ?_, ?_, ?_⟩ <;> intro e <;> rw [e] at h1 <;> exact absurd h1 (by decide)
  · have h9 := wq_answerOf wf hq
    exact ⟨h9.1, zok_leave _ (zok_dn (zok_nx hz ha)), fu_leave _ _, h9.2.2⟩
  · have h9 := wq_answerOf wf hq
    exact ⟨h9.1, zok_leave _ (zok_unw _ _ _ (zok_nx hz ha)), (fu_leave _ _).trans (fu_unw _ _ _ _), h9.2.2⟩
theorem st_md {w a b c md md1 m2 : Int32} {k0 : Nat} (h : (kMk w a b c md1 → m2 = md1 + 1) ∧ (¬ kMk w a b c md1 → m2 = md1)) (i2 : (0 ≤ md1 ∧ md1 ≤ 6000) ∧ md.toNatClampNeg ≤ md1.toNatClampNeg) (hk : (kMk w a b c md1 → k0 = 1) ∧ (¬ kMk w a b c md1 → k0 = 0)) :
    (0 ≤ m2 ∧ m2 ≤ 6000) ∧ md.toNatClampNeg ≤ m2.toNatClampNeg ∧ m2.toNatClampNeg = md1.toNatClampNeg + k0 := by
  by_cases hc : kMk w a b c md1
  · have e := md_up i2.1.1 hc.1
    rw [h.1 hc, hk.1 hc]
    exact ⟨⟨e.1, e.2.1⟩, by omega, e.2.2⟩
  · rw [h.2 hc, hk.2 hc]
    exact ⟨i2.1, i2.2, rfl⟩
theorem fu_dec {f g : Int32} (h : ¬ f ≤ 0) (e : g = f - 1) : g.toNatClampNeg < f.toNatClampNeg := by
  rw [e, sub1_eq h]
  exact down_lt h
def q_X11_run (i0 : Int32) (f0 : Int32) (pl : Nat → Option Nat) (ac : Int64) (ft : Int32) (md : Int32) (Z : cZ) (P : cQ) (rz : Int32) (u : (Nat → Option Nat) × Int64 × Int32 × Int32 × cZ × cQ) : Prop := (∃ (n9 : Nat) (b9 : (Nat → Option Nat) × Int64 × Int32 × Int32 × cZ × cQ), 0 = rz ∧ (b9.1, b9.2.1, b9.2.2.1, b9.2.2.2.1, b9.2.2.2.2.1, b9.2.2.2.2.2) = u ∧ mSts n9 (pl, ac, -1, md, zSt Z i0 f0, P) b9 ∧ (b9.2.2.2.2.1.2.2.1 ≤ 0 ∨ 256 ≤ b9.2.2.2.2.1.2.1) ∧ b9.2.2.1 = (-1) ∧ 256 ≤ b9.2.2.2.2.1.2.1) ∨ (∃ (n9 : Nat) (b9 : (Nat → Option Nat) × Int64 × Int32 × Int32 × cZ × cQ), 1 = rz ∧ (b9.1, b9.2.1, b9.2.2.1, b9.2.2.2.1, zAll (b9.2.2.2.2.1.2.2.2.2.2.2.2.2.2.2.2).toNatClampNeg b9.2.2.2.2.1, b9.2.2.2.2.2) = u ∧ mSts n9 (pl, ac, -1, md, zSt Z i0 f0, P) b9 ∧ (b9.2.2.2.2.1.2.2.1 ≤ 0 ∨ 256 ≤ b9.2.2.2.2.1.2.1) ∧ b9.2.2.1 = (-1) ∧ ¬ 256 ≤ b9.2.2.2.2.1.2.1)
def px_X11_run (i0 : Int32) (f0 : Int32) (pl : Nat → Option Nat) (ac : Int64) (ft : Int32) (md : Int32) (Z : cZ) (P : cQ) (u : (Nat → Option Nat) × Int64 × Int32 × Int32 × cZ × cQ) : Prop := ∃ (n9 : Nat) (b9 : (Nat → Option Nat) × Int64 × Int32 × Int32 × cZ × cQ), (b9.1, b9.2.1, b9.2.2.1, b9.2.2.2.1, (zLo b9.2.2.2.2.1), b9.2.2.2.2.2) = u ∧ mSts n9 (pl, ac, -1, md, zSt Z i0 f0, P) b9 ∧ (b9.2.2.2.2.1.2.2.1 ≤ 0 ∨ 256 ≤ b9.2.2.2.2.1.2.1) ∧ ¬ b9.2.2.1 = (-1)
set_option maxHeartbeats 800000 in
set_option maxRecDepth 100000 in
theorem c_X11_run (l : Launch) (dC : Nat → ClassId) (dI : Nat → Nat → Nat) (g : Nat → Nat) (ty : Nat → ClassId) (sz tot : Nat) (pl : Nat → Option Nat) (ac : Int64) (ft : Int32) (md : Int32) (Z : cZ) (P : cQ) (i0 : Int32) (f0 : Int32) (wf : cWF pl P) (pre0 : zOk Z) (pre1 : 0 ≤ md ∧ md ≤ 6000) (hlt : l.stackTraces = false) : vx_Met l yX11_run (Cond.code yX11_run cX11_run 3 (some .int) :: gT) ({ frames := 10, cells := 18 * (6000 - md.toNatClampNeg) + 1, slots := 101 * (6000 - md.toNatClampNeg) + 8, locals := 407 }) (cPxg (dC, dI) (cTy ty) (cW g ty pl ac ft md Z P) sz tot [.ref (g 0), .int i0, .int f0]) (va_Qi (fun (rz : Int32) (u : (Nat → Option Nat) × Int64 × Int32 × Int32 × cZ × cQ) => q_X11_run i0 f0 pl ac ft md Z P rz u) (cBg (dC, dI) (fun u : (Nat → Option Nat) × Int64 × Int32 × Int32 × cZ × cQ => cW g ty u.1 u.2.1 u.2.2.1 u.2.2.2.1 u.2.2.2.2.1 u.2.2.2.2.2) (va_A (cW g ty pl ac ft md Z P) sz) sz tot (fun u : (Nat → Option Nat) × Int64 × Int32 × Int32 × cZ × cQ => 18 * ((u.2.2.2.1).toNatClampNeg - md.toNatClampNeg) + 1) (fun u : (Nat → Option Nat) × Int64 × Int32 × Int32 × cZ × cQ => 101 * ((u.2.2.2.1).toNatClampNeg - md.toNatClampNeg) + 8)) (va_A (cW g ty pl ac ft md Z P) sz)) (vx_X (px_X11_run i0 f0 pl ac ft md Z P) (cBXg (dC, dI) (fun u : (Nat → Option Nat) × Int64 × Int32 × Int32 × cZ × cQ => cEx u.2.2.1) (fun u : (Nat → Option Nat) × Int64 × Int32 × Int32 × cZ × cQ => cW g ty u.1 u.2.1 u.2.2.1 u.2.2.2.1 u.2.2.2.2.1 u.2.2.2.2.2) (va_A (cW g ty pl ac ft md Z P) sz) sz tot (fun u : (Nat → Option Nat) × Int64 × Int32 × Int32 × cZ × cQ => 18 * ((u.2.2.2.1).toNatClampNeg - md.toNatClampNeg) + 1) (fun u : (Nat → Option Nat) × Int64 × Int32 × Int32 × cZ × cQ => 101 * ((u.2.2.2.1).toNatClampNeg - md.toNatClampNeg) + 8)) (va_A (cW g ty pl ac ft md Z P) sz)) (18 * (6000 - md.toNatClampNeg) + 1) (101 * (6000 - md.toNatClampNeg) + 8) (va_A (cW g ty pl ac ft md Z P) sz) := by
  refine cxg_of (Qa := fun A => va_Qi (fun (rz : Int32) (u : (Nat → Option Nat) × Int64 × Int32 × Int32 × cZ × cQ) => q_X11_run i0 f0 pl ac ft md Z P rz u) (cBg (dC, dI) (fun u : (Nat → Option Nat) × Int64 × Int32 × Int32 × cZ × cQ => cW g ty u.1 u.2.1 u.2.2.1 u.2.2.2.1 u.2.2.2.2.1 u.2.2.2.2.2) A sz tot (fun u : (Nat → Option Nat) × Int64 × Int32 × Int32 × cZ × cQ => 18 * ((u.2.2.2.1).toNatClampNeg - md.toNatClampNeg) + 1) (fun u : (Nat → Option Nat) × Int64 × Int32 × Int32 × cZ × cQ => 101 * ((u.2.2.2.1).toNatClampNeg - md.toNatClampNeg) + 8)) A) (Xa := fun A => vx_X (px_X11_run i0 f0 pl ac ft md Z P) (cBXg (dC, dI) (fun u : (Nat → Option Nat) × Int64 × Int32 × Int32 × cZ × cQ => cEx u.2.2.1) (fun u : (Nat → Option Nat) × Int64 × Int32 × Int32 × cZ × cQ => cW g ty u.1 u.2.1 u.2.2.1 u.2.2.2.1 u.2.2.2.2.1 u.2.2.2.2.2) A sz tot (fun u : (Nat → Option Nat) × Int64 × Int32 × Int32 × cZ × cQ => 18 * ((u.2.2.2.1).toNatClampNeg - md.toNatClampNeg) + 1) (fun u : (Nat → Option Nat) × Int64 × Int32 × Int32 × cZ × cQ => 101 * ((u.2.2.2.1).toNatClampNeg - md.toNatClampNeg) + 8)) A) (by decide) (Nat.le_of_ble_eq_true rfl) ?_
  intro p e s m below meth c A hx hb hr hml hout hown hg hlk hmn hP hK hD hT hTx hZ hS hA hsz htot ls hl
  have hown : s.vm.findClass RX11 = some m.cls := hown
  have hl : lv_has ls 3 [(0, .ref (g 0)), (1, .int i0), (2, .int f0)] := hl
  have LOOP : ∀ (N : Nat) (n1 : Nat) (pl1 : Nat → Option Nat) (ac1 : Int64) (ft1 : Int32) (md1 : Int32) (Z1 : cZ) (P1 : cQ) (H : Heap) (locs : List Loc) (ls : Array Slot), (Z1.2.2.1).toNatClampNeg = N → (cWF pl1 P1) → (zOk Z1) → ((0 ≤ md1 ∧ md1 ≤ 6000) ∧ md.toNatClampNeg ≤ md1.toNatClampNeg) → (mSts n1 (pl, ac, -1, md, zSt Z i0 f0, P) (pl1, ac1, ft1, md1, Z1, P1)) → va_P (dC, dI) vwCl (cW g ty pl1 ac1 ft1 md1 Z1 P1) H → va_D A (cW g ty pl1 ac1 ft1 md1 Z1 P1) → va_S A s.heap H locs → lv_has ls 3 [(0, .ref (g 0))] → W p l e ({ frames := 10, cells := 18 * (6000 - md.toNatClampNeg) + 1, slots := 101 * (6000 - md.toNatClampNeg) + 8, locals := 407 }) s m ([.ref (g 0), .int i0, .int f0]).toArray below meth c H locs (18 * (md1.toNatClampNeg - md.toNatClampNeg)) (101 * (md1.toNatClampNeg - md.toNatClampNeg)) (vx_MQ below (va_Qi (fun (rz : Int32) (u : (Nat → Option Nat) × Int64 × Int32 × Int32 × cZ × cQ) => q_X11_run i0 f0 pl ac ft md Z P rz u) (cBg (dC, dI) (fun u : (Nat → Option Nat) × Int64 × Int32 × Int32 × cZ × cQ => cW g ty u.1 u.2.1 u.2.2.1 u.2.2.2.1 u.2.2.2.2.1 u.2.2.2.2.2) A sz tot (fun u : (Nat → Option Nat) × Int64 × Int32 × Int32 × cZ × cQ => 18 * ((u.2.2.2.1).toNatClampNeg - md.toNatClampNeg) + 1) (fun u : (Nat → Option Nat) × Int64 × Int32 × Int32 × cZ × cQ => 101 * ((u.2.2.2.1).toNatClampNeg - md.toNatClampNeg) + 8)) A) (vx_X (px_X11_run i0 f0 pl ac ft md Z P) (cBXg (dC, dI) (fun u : (Nat → Option Nat) × Int64 × Int32 × Int32 × cZ × cQ => cEx u.2.2.1) (fun u : (Nat → Option Nat) × Int64 × Int32 × Int32 × cZ × cQ => cW g ty u.1 u.2.1 u.2.2.1 u.2.2.2.1 u.2.2.2.2.1 u.2.2.2.2.2) A sz tot (fun u : (Nat → Option Nat) × Int64 × Int32 × Int32 × cZ × cQ => 18 * ((u.2.2.2.1).toNatClampNeg - md.toNatClampNeg) + 1) (fun u : (Nat → Option Nat) × Int64 × Int32 × Int32 × cZ × cQ => 101 * ((u.2.2.2.1).toNatClampNeg - md.toNatClampNeg) + 8)) A) ([.ref (g 0), .int i0, .int f0]).toArray s (18 * (6000 - md.toNatClampNeg) + 1) (101 * (6000 - md.toNatClampNeg) + 8) A) (F0 m 42 ls []) := by
    intro N
    induction N using Nat.strongRecOn with
    | _ N IH =>
      intro n1 pl1 ac1 ft1 md1 Z1 P1 H locs ls hN j0 j1 j2 j3 hP hD hS hl
      have wf := j0
      have hmx := md_6000 j2.1.1 j2.1.2
      have hmm := j2.2
      refine lv_aload_n hx hb dX11_run_42 rfl (lv_at hl 0 rfl) ?_
      refine va_get (D := (dC, dI)) (ci := 13) (v := .int Z1.2.2.1) (C := RX11) (T := TX11) (N := 12) hx hb hg inG11 hown hK hP 0 rfl rfl 6 (by decide) (hg _ wF_X11_56) (fun _ h9 => h9) rfl dX11_run_43 ?_
      refine lv_if_le (tgt := 76) hx hb dX11_run_46 (by decide) (fun c_1 => ?_) (fun c_1 => ?_)
      · show _
        refine lv_aload_n hx hb dX11_run_76 rfl (lv_at hl 0 rfl) ?_
        refine cXV_v (C := RX11) (n := 0) (rest := []) hx hb hml hown hg hT hTx hZ (c_X11_letFaultOut l dC dI g ty H.size pl1 ac1 ft1 md1 Z1 P1 hlt) (cv_of hg wM_X11_34 wN_X11_letFaultOut wL_X11_X11_letFaultOut wK_X11_letFaultOut wI_X11 (by decide +kernel) ⟨Nat.le_of_ble_eq_true rfl, Nat.le_of_ble_eq_true rfl⟩) hK hP hD hS hA (va_recv hK hP (ci := 13) (q0 := 0) rfl rfl) rfl hl.1 rfl (Nat.le_of_ble_eq_true rfl) dX11_run_77 ⟨by show 18 * (md1.toNatClampNeg - md.toNatClampNeg) + 1 ≤ 18 * (6000 - md.toNatClampNeg) + 1; omega, by show 101 * (md1.toNatClampNeg - md.toNatClampNeg) + 8 ≤ 101 * (6000 - md.toNatClampNeg) + 8; omega⟩ (fun ce q9 u_4 H locs q_2 hP hD hS h91 h92 h93 => ?_) (fun u_4 H locs q_2 hP hD hS => ?_)
        · show _
          obtain ⟨rfl, h94⟩ := q_2
          refine vx_W.bound (fun gb1 gb2 => ?_)
          exact gx_out (wx := fun u : (Nat → Option Nat) × Int64 × Int32 × Int32 × cZ × cQ => cW g ty u.1 u.2.1 u.2.2.1 u.2.2.2.1 u.2.2.2.2.1 u.2.2.2.2.2) (ex := fun u : (Nat → Option Nat) × Int64 × Int32 × Int32 × cZ × cQ => cEx u.2.2.1) _ hout hlk h91 h92 h93 ⟨n1, (pl1, ac1, ft1, md1, Z1, P1), rfl, j3, by first | exact Or.inl (by assumption) | exact Or.inr (by assumption), h94⟩ hP hD hS (by show H.size ≤ sz + (18 * (md1.toNatClampNeg - md.toNatClampNeg) + 1); rw [← hsz]; omega) (by show hsum H ≤ tot + (101 * (md1.toNatClampNeg - md.toNatClampNeg) + 8); rw [← htot]; omega) (by show 18 * (md1.toNatClampNeg - md.toNatClampNeg) + 1 ≤ 18 * (6000 - md.toNatClampNeg) + 1; omega) (by show 101 * (md1.toNatClampNeg - md.toNatClampNeg) + 8 ≤ 101 * (6000 - md.toNatClampNeg) + 8; omega)
        · show _
          obtain f_5 := q_2
          have hP : va_P (dC, dI) vwCl (cW g ty pl1 ac1 ft1 md1 Z1 P1) H := hP
          have hD : va_D A (cW g ty pl1 ac1 ft1 md1 Z1 P1) := hD
          refine lv_aload_n hx hb dX11_run_80 rfl (lv_at hl 0 rfl) ?_
          refine va_get (D := (dC, dI)) (ci := 13) (v := .int Z1.2.1) (C := RX11) (T := TX11) (N := 12) hx hb hg inG11 hown hK hP 0 rfl rfl 5 (by decide) (hg _ wF_X11_59) (fun _ h9 => h9) rfl dX11_run_81 ?_
          refine lv_sipush (v := 256) hx hb dX11_run_84 (by decide) ?_
          refine lv_icmp_lt (tgt := 92) hx hb dX11_run_87 (by decide) (fun c_6 => ?_) (fun c_6 => ?_)
          · show _
            refine lv_aload_n hx hb dX11_run_92 rfl (lv_at hl 0 rfl) ?_
            refine cV_v (C := RX11) (n := 0) (rest := []) hx hb hml hown hg hT (c_X11_closeAllBlocks l dC dI g ty H.size pl1 ac1 ft1 md1 Z1 P1  (by exact j1)) (cv_of hg wM_X11_65 wN_X11_closeAllBlocks wL_X11_X11_closeAllBlocks wK_X11_closeAllBlocks wI_X11 (by decide +kernel) ⟨Nat.le_of_ble_eq_true rfl, Nat.le_of_ble_eq_true rfl⟩) hK hP hD hS hA (va_recv hK hP (ci := 13) (q0 := 0) rfl rfl) rfl hl.1 rfl (Nat.le_of_ble_eq_true rfl) dX11_run_93 ⟨by show 18 * (md1.toNatClampNeg - md.toNatClampNeg) + 1 + 0 ≤ 18 * (6000 - md.toNatClampNeg) + 1; omega, by show 101 * (md1.toNatClampNeg - md.toNatClampNeg) + 8 + 0 ≤ 101 * (6000 - md.toNatClampNeg) + 8; omega⟩ (fun u_9 H locs q_7 hP hD hS => ?_)
            obtain rfl := q_7
            have hP : va_P (dC, dI) vwCl (cW g ty pl1 ac1 ft1 md1 (zAll (Z1.2.2.2.2.2.2.2.2.2.2.2).toNatClampNeg Z1) P1) H := hP
            have hD : va_D A (cW g ty pl1 ac1 ft1 md1 (zAll (Z1.2.2.2.2.2.2.2.2.2.2.2).toNatClampNeg Z1) P1) := hD
            refine lv_iconst (v := 1) hx hb dX11_run_96 (by decide) ?_
            refine W.bound (fun gb1 gb2 => ?_)
            refine W.widen (k := 18 * (6000 - md.toNatClampNeg) + 1) (n := 101 * (6000 - md.toNatClampNeg) + 8) (by show 18 * (md1.toNatClampNeg - md.toNatClampNeg) + 1 + 0 ≤ 18 * (6000 - md.toNatClampNeg) + 1; omega) (by show 101 * (md1.toNatClampNeg - md.toNatClampNeg) + 8 + 0 ≤ 101 * (6000 - md.toNatClampNeg) + 8; omega) ?_
            refine vx_ret ?_
            refine gr_i (wo := fun u : (Nat → Option Nat) × Int64 × Int32 × Int32 × cZ × cQ => cW g ty u.1 u.2.1 u.2.2.1 u.2.2.2.1 u.2.2.2.2.1 u.2.2.2.2.2) ((pl1, ac1, ft1, md1, zAll (Z1.2.2.2.2.2.2.2.2.2.2.2).toNatClampNeg Z1, P1)) hx hb hr hlk hS hP hD (by show H.size ≤ sz + (18 * ((md1).toNatClampNeg - md.toNatClampNeg) + 1); rw [← hsz]; omega) (by show hsum H ≤ tot + (101 * ((md1).toNatClampNeg - md.toNatClampNeg) + 8); rw [← htot]; omega) ?_ dX11_run_97
            exact Or.inr ⟨n1, (pl1, ac1, ft1, md1, Z1, P1), rfl, rfl, (by first | assumption | exact n256 (by assumption) | exact ge256 (by assumption) | exact Or.inl (by assumption) | exact Or.inr (by assumption)), (by first | assumption | exact n256 (by assumption) | exact ge256 (by assumption) | exact Or.inl (by assumption) | exact Or.inr (by assumption)), (by first | assumption | exact n256 (by assumption) | exact ge256 (by assumption) | exact Or.inl (by assumption) | exact Or.inr (by assumption)), (by first | assumption | exact n256 (by assumption) | exact ge256 (by assumption) | exact Or.inl (by assumption) | exact Or.inr (by assumption))⟩
          · show _
            refine lv_iconst (v := 0) hx hb dX11_run_90 (by decide) ?_
            refine W.bound (fun gb1 gb2 => ?_)
            refine W.widen (k := 18 * (6000 - md.toNatClampNeg) + 1) (n := 101 * (6000 - md.toNatClampNeg) + 8) (by show 18 * (md1.toNatClampNeg - md.toNatClampNeg) + 1 ≤ 18 * (6000 - md.toNatClampNeg) + 1; omega) (by show 101 * (md1.toNatClampNeg - md.toNatClampNeg) + 8 ≤ 101 * (6000 - md.toNatClampNeg) + 8; omega) ?_
            refine vx_ret ?_
            refine gr_i (wo := fun u : (Nat → Option Nat) × Int64 × Int32 × Int32 × cZ × cQ => cW g ty u.1 u.2.1 u.2.2.1 u.2.2.2.1 u.2.2.2.2.1 u.2.2.2.2.2) ((pl1, ac1, ft1, md1, Z1, P1)) hx hb hr hlk hS hP hD (by show H.size ≤ sz + (18 * ((md1).toNatClampNeg - md.toNatClampNeg) + 1); rw [← hsz]; omega) (by show hsum H ≤ tot + (101 * ((md1).toNatClampNeg - md.toNatClampNeg) + 8); rw [← htot]; omega) ?_ dX11_run_91
            exact Or.inl ⟨n1, (pl1, ac1, ft1, md1, Z1, P1), rfl, rfl, (by first | assumption | exact n256 (by assumption) | exact ge256 (by assumption) | exact Or.inl (by assumption) | exact Or.inr (by assumption)), (by first | assumption | exact n256 (by assumption) | exact ge256 (by assumption) | exact Or.inl (by assumption) | exact Or.inr (by assumption)), (by first | assumption | exact n256 (by assumption) | exact ge256 (by assumption) | exact Or.inl (by assumption) | exact Or.inr (by assumption)), (by first | assumption | exact n256 (by assumption) | exact ge256 (by assumption) | exact Or.inl (by assumption) | exact Or.inr (by assumption))⟩
      · show _
        refine lv_aload_n hx hb dX11_run_49 rfl (lv_at hl 0 rfl) ?_
        refine va_get (D := (dC, dI)) (ci := 13) (v := .int Z1.2.1) (C := RX11) (T := TX11) (N := 12) hx hb hg inG11 hown hK hP 0 rfl rfl 5 (by decide) (hg _ wF_X11_59) (fun _ h9 => h9) rfl dX11_run_50 ?_
        refine lv_sipush (v := 256) hx hb dX11_run_53 (by decide) ?_
        refine lv_icmp_ge (tgt := 76) hx hb dX11_run_56 (by decide) (fun c_10 => ?_) (fun c_10 => ?_)
        · show _
          refine lv_aload_n hx hb dX11_run_76 rfl (lv_at hl 0 rfl) ?_
          refine cXV_v (C := RX11) (n := 0) (rest := []) hx hb hml hown hg hT hTx hZ (c_X11_letFaultOut l dC dI g ty H.size pl1 ac1 ft1 md1 Z1 P1 hlt) (cv_of hg wM_X11_34 wN_X11_letFaultOut wL_X11_X11_letFaultOut wK_X11_letFaultOut wI_X11 (by decide +kernel) ⟨Nat.le_of_ble_eq_true rfl, Nat.le_of_ble_eq_true rfl⟩) hK hP hD hS hA (va_recv hK hP (ci := 13) (q0 := 0) rfl rfl) rfl hl.1 rfl (Nat.le_of_ble_eq_true rfl) dX11_run_77 ⟨by show 18 * (md1.toNatClampNeg - md.toNatClampNeg) + 1 ≤ 18 * (6000 - md.toNatClampNeg) + 1; omega, by show 101 * (md1.toNatClampNeg - md.toNatClampNeg) + 8 ≤ 101 * (6000 - md.toNatClampNeg) + 8; omega⟩ (fun ce q9 u_13 H locs q_11 hP hD hS h91 h92 h93 => ?_) (fun u_13 H locs q_11 hP hD hS => ?_)
          · show _
            obtain ⟨rfl, h94⟩ := q_11
            refine vx_W.bound (fun gb1 gb2 => ?_)
            exact gx_out (wx := fun u : (Nat → Option Nat) × Int64 × Int32 × Int32 × cZ × cQ => cW g ty u.1 u.2.1 u.2.2.1 u.2.2.2.1 u.2.2.2.2.1 u.2.2.2.2.2) (ex := fun u : (Nat → Option Nat) × Int64 × Int32 × Int32 × cZ × cQ => cEx u.2.2.1) _ hout hlk h91 h92 h93 ⟨n1, (pl1, ac1, ft1, md1, Z1, P1), rfl, j3, by first | exact Or.inl (by assumption) | exact Or.inr (by assumption), h94⟩ hP hD hS (by show H.size ≤ sz + (18 * (md1.toNatClampNeg - md.toNatClampNeg) + 1); rw [← hsz]; omega) (by show hsum H ≤ tot + (101 * (md1.toNatClampNeg - md.toNatClampNeg) + 8); rw [← htot]; omega) (by show 18 * (md1.toNatClampNeg - md.toNatClampNeg) + 1 ≤ 18 * (6000 - md.toNatClampNeg) + 1; omega) (by show 101 * (md1.toNatClampNeg - md.toNatClampNeg) + 8 ≤ 101 * (6000 - md.toNatClampNeg) + 8; omega)
          · show _
            obtain f_14 := q_11
            have hP : va_P (dC, dI) vwCl (cW g ty pl1 ac1 ft1 md1 Z1 P1) H := hP
            have hD : va_D A (cW g ty pl1 ac1 ft1 md1 Z1 P1) := hD
            refine lv_aload_n hx hb dX11_run_80 rfl (lv_at hl 0 rfl) ?_
            refine va_get (D := (dC, dI)) (ci := 13) (v := .int Z1.2.1) (C := RX11) (T := TX11) (N := 12) hx hb hg inG11 hown hK hP 0 rfl rfl 5 (by decide) (hg _ wF_X11_59) (fun _ h9 => h9) rfl dX11_run_81 ?_
            refine lv_sipush (v := 256) hx hb dX11_run_84 (by decide) ?_
            refine lv_icmp_lt (tgt := 92) hx hb dX11_run_87 (by decide) (fun c_15 => ?_) (fun c_15 => ?_)
            · show _
              refine lv_aload_n hx hb dX11_run_92 rfl (lv_at hl 0 rfl) ?_
              refine cV_v (C := RX11) (n := 0) (rest := []) hx hb hml hown hg hT (c_X11_closeAllBlocks l dC dI g ty H.size pl1 ac1 ft1 md1 Z1 P1  (by exact j1)) (cv_of hg wM_X11_65 wN_X11_closeAllBlocks wL_X11_X11_closeAllBlocks wK_X11_closeAllBlocks wI_X11 (by decide +kernel) ⟨Nat.le_of_ble_eq_true rfl, Nat.le_of_ble_eq_true rfl⟩) hK hP hD hS hA (va_recv hK hP (ci := 13) (q0 := 0) rfl rfl) rfl hl.1 rfl (Nat.le_of_ble_eq_true rfl) dX11_run_93 ⟨by show 18 * (md1.toNatClampNeg - md.toNatClampNeg) + 1 + 0 ≤ 18 * (6000 - md.toNatClampNeg) + 1; omega, by show 101 * (md1.toNatClampNeg - md.toNatClampNeg) + 8 + 0 ≤ 101 * (6000 - md.toNatClampNeg) + 8; omega⟩ (fun u_18 H locs q_16 hP hD hS => ?_)
              obtain rfl := q_16
              have hP : va_P (dC, dI) vwCl (cW g ty pl1 ac1 ft1 md1 (zAll (Z1.2.2.2.2.2.2.2.2.2.2.2).toNatClampNeg Z1) P1) H := hP
              have hD : va_D A (cW g ty pl1 ac1 ft1 md1 (zAll (Z1.2.2.2.2.2.2.2.2.2.2.2).toNatClampNeg Z1) P1) := hD
              refine lv_iconst (v := 1) hx hb dX11_run_96 (by decide) ?_
              refine W.bound (fun gb1 gb2 => ?_)
              refine W.widen (k := 18 * (6000 - md.toNatClampNeg) + 1) (n := 101 * (6000 - md.toNatClampNeg) + 8) (by show 18 * (md1.toNatClampNeg - md.toNatClampNeg) + 1 + 0 ≤ 18 * (6000 - md.toNatClampNeg) + 1; omega) (by show 101 * (md1.toNatClampNeg - md.toNatClampNeg) + 8 + 0 ≤ 101 * (6000 - md.toNatClampNeg) + 8; omega) ?_
              refine vx_ret ?_
              refine gr_i (wo := fun u : (Nat → Option Nat) × Int64 × Int32 × Int32 × cZ × cQ => cW g ty u.1 u.2.1 u.2.2.1 u.2.2.2.1 u.2.2.2.2.1 u.2.2.2.2.2) ((pl1, ac1, ft1, md1, zAll (Z1.2.2.2.2.2.2.2.2.2.2.2).toNatClampNeg Z1, P1)) hx hb hr hlk hS hP hD (by show H.size ≤ sz + (18 * ((md1).toNatClampNeg - md.toNatClampNeg) + 1); rw [← hsz]; omega) (by show hsum H ≤ tot + (101 * ((md1).toNatClampNeg - md.toNatClampNeg) + 8); rw [← htot]; omega) ?_ dX11_run_97
              exact Or.inr ⟨n1, (pl1, ac1, ft1, md1, Z1, P1), rfl, rfl, (by first | assumption | exact n256 (by assumption) | exact ge256 (by assumption) | exact Or.inl (by assumption) | exact Or.inr (by assumption)), (by first | assumption | exact n256 (by assumption) | exact ge256 (by assumption) | exact Or.inl (by assumption) | exact Or.inr (by assumption)), (by first | assumption | exact n256 (by assumption) | exact ge256 (by assumption) | exact Or.inl (by assumption) | exact Or.inr (by assumption)), (by first | assumption | exact n256 (by assumption) | exact ge256 (by assumption) | exact Or.inl (by assumption) | exact Or.inr (by assumption))⟩
            · show _
              refine lv_iconst (v := 0) hx hb dX11_run_90 (by decide) ?_
              refine W.bound (fun gb1 gb2 => ?_)
              refine W.widen (k := 18 * (6000 - md.toNatClampNeg) + 1) (n := 101 * (6000 - md.toNatClampNeg) + 8) (by show 18 * (md1.toNatClampNeg - md.toNatClampNeg) + 1 ≤ 18 * (6000 - md.toNatClampNeg) + 1; omega) (by show 101 * (md1.toNatClampNeg - md.toNatClampNeg) + 8 ≤ 101 * (6000 - md.toNatClampNeg) + 8; omega) ?_
              refine vx_ret ?_
              refine gr_i (wo := fun u : (Nat → Option Nat) × Int64 × Int32 × Int32 × cZ × cQ => cW g ty u.1 u.2.1 u.2.2.1 u.2.2.2.1 u.2.2.2.2.1 u.2.2.2.2.2) ((pl1, ac1, ft1, md1, Z1, P1)) hx hb hr hlk hS hP hD (by show H.size ≤ sz + (18 * ((md1).toNatClampNeg - md.toNatClampNeg) + 1); rw [← hsz]; omega) (by show hsum H ≤ tot + (101 * ((md1).toNatClampNeg - md.toNatClampNeg) + 8); rw [← htot]; omega) ?_ dX11_run_91
              exact Or.inl ⟨n1, (pl1, ac1, ft1, md1, Z1, P1), rfl, rfl, (by first | assumption | exact n256 (by assumption) | exact ge256 (by assumption) | exact Or.inl (by assumption) | exact Or.inr (by assumption)), (by first | assumption | exact n256 (by assumption) | exact ge256 (by assumption) | exact Or.inl (by assumption) | exact Or.inr (by assumption)), (by first | assumption | exact n256 (by assumption) | exact ge256 (by assumption) | exact Or.inl (by assumption) | exact Or.inr (by assumption)), (by first | assumption | exact n256 (by assumption) | exact ge256 (by assumption) | exact Or.inl (by assumption) | exact Or.inr (by assumption))⟩
        · show _
          refine lv_aload_n hx hb dX11_run_59 rfl (lv_at hl 0 rfl) ?_
          refine lv_dup hx hb dX11_run_60 rfl ?_
          refine va_get (D := (dC, dI)) (ci := 13) (v := .int Z1.2.2.1) (C := RX11) (T := TX11) (N := 12) hx hb hg inG11 hown hK hP 0 rfl rfl 6 (by decide) (hg _ wF_X11_56) (fun _ h9 => h9) rfl dX11_run_61 ?_
          refine lv_iconst (v := 1) hx hb dX11_run_64 (by decide) ?_
          refine lv_isub hx hb dX11_run_65 ?_
          refine va_put (D := (dC, dI)) (ci := 13) (v := .int (Z1.2.2.1 - 1)) (ty := .int) (C := RX11) (T := TX11) (N := 12) hx hb hg inG11 tyX11 tyX11_ok nmX11 hown hK hP hD hS 0 rfl rfl 6 (by decide) (hg _ wF_X11_56) (fun _ h9 => h9) rfl (by decide +kernel) rfl rfl (Nat.le_of_ble_eq_true rfl) dX11_run_66 (fun H locs hP hD hS => ?_)
          have hP : va_P (dC, dI) vwCl (cW g ty pl1 ac1 ft1 md1 (Z1.1, Z1.2.1, (Z1.2.2.1 - 1), Z1.2.2.2.1, Z1.2.2.2.2.1, Z1.2.2.2.2.2.1, Z1.2.2.2.2.2.2.1, Z1.2.2.2.2.2.2.2.1, Z1.2.2.2.2.2.2.2.2.1, Z1.2.2.2.2.2.2.2.2.2.1, Z1.2.2.2.2.2.2.2.2.2.2.1, Z1.2.2.2.2.2.2.2.2.2.2.2) P1) H := hP
          have hD : va_D A (cW g ty pl1 ac1 ft1 md1 (Z1.1, Z1.2.1, (Z1.2.2.1 - 1), Z1.2.2.2.1, Z1.2.2.2.2.1, Z1.2.2.2.2.2.1, Z1.2.2.2.2.2.2.1, Z1.2.2.2.2.2.2.2.1, Z1.2.2.2.2.2.2.2.2.1, Z1.2.2.2.2.2.2.2.2.2.1, Z1.2.2.2.2.2.2.2.2.2.2.1, Z1.2.2.2.2.2.2.2.2.2.2.2) P1) := hD
          refine lv_aload_n hx hb dX11_run_69 rfl (lv_at hl 0 rfl) ?_
          obtain ⟨k0, hk0⟩ : ∃ k0 : Nat, (kMk (Z1.1 (Z1.2.1 * 4).toNatClampNeg) (Z1.1 (Z1.2.1 * 4 + 1).toNatClampNeg) (Z1.1 (Z1.2.1 * 4 + 2).toNatClampNeg) (Z1.1 (Z1.2.1 * 4 + 3).toNatClampNeg) md1 → k0 = 1) ∧ (¬ kMk (Z1.1 (Z1.2.1 * 4).toNatClampNeg) (Z1.1 (Z1.2.1 * 4 + 1).toNatClampNeg) (Z1.1 (Z1.2.1 * 4 + 2).toNatClampNeg) (Z1.1 (Z1.2.1 * 4 + 3).toNatClampNeg) md1 → k0 = 0) := kk_of _
          have hkm := km_bd (md := md) j2 hk0
          refine cV_v (C := RX11) (n := 0) (rest := []) hx hb hml hown hg hT (c_X11_step l dC dI g ty H.size pl1 ac1 ft1 md1 (Z1.1, Z1.2.1, (Z1.2.2.1 - 1), Z1.2.2.2.1, Z1.2.2.2.2.1, Z1.2.2.2.2.2.1, Z1.2.2.2.2.2.2.1, Z1.2.2.2.2.2.2.2.1, Z1.2.2.2.2.2.2.2.2.1, Z1.2.2.2.2.2.2.2.2.2.1, Z1.2.2.2.2.2.2.2.2.2.2.1, Z1.2.2.2.2.2.2.2.2.2.2.2) P1 k0 wf (by exact zok_fu j1) (by assumption) (by exact fun h9 => Nat.le_of_eq (hk0.1 h9).symm)) (cv_of hg wM_X11_62 wN_X11_step wL_X11_X11_step wK_X11_step wI_X11 (by decide +kernel) ⟨Nat.le_of_ble_eq_true rfl, Nat.le_of_ble_eq_true rfl⟩) hK hP hD hS hA (va_recv hK hP (ci := 13) (q0 := 0) rfl rfl) rfl hl.1 rfl (Nat.le_of_ble_eq_true rfl) dX11_run_70 ⟨by show 18 * (md1.toNatClampNeg - md.toNatClampNeg) + 18 * k0 ≤ 18 * (6000 - md.toNatClampNeg) + 1; omega, by show 101 * (md1.toNatClampNeg - md.toNatClampNeg) + 101 * k0 ≤ 101 * (6000 - md.toNatClampNeg) + 8; omega⟩ (fun u_21 H locs q_19 hP hD hS => ?_)
          have hP : va_P (dC, dI) vwCl (cW g ty u_21.1 u_21.2.1 u_21.2.2.1 u_21.2.2.2.1 u_21.2.2.2.2.1 u_21.2.2.2.2.2) H := hP
          have hD : va_D A (cW g ty u_21.1 u_21.2.1 u_21.2.2.1 u_21.2.2.2.1 u_21.2.2.2.2.1 u_21.2.2.2.2.2) := hD
          have hq := q_19
          refine lv_goto (tgt := 42) hx hb dX11_run_73 (by decide) ?_
          have hst := st_keep hq wf (zok_fu j1) (by assumption) j2.1
          have hmd := st_md (md := md) hst.2.2.2 j2 hk0
          refine W.widen (k := 18 * (u_21.2.2.2.1.toNatClampNeg - md.toNatClampNeg)) (n := 101 * (u_21.2.2.2.1.toNatClampNeg - md.toNatClampNeg)) (by show 18 * (md1.toNatClampNeg - md.toNatClampNeg) + 18 * k0 ≤ 18 * (u_21.2.2.2.1.toNatClampNeg - md.toNatClampNeg); omega) (by show 101 * (md1.toNatClampNeg - md.toNatClampNeg) + 101 * k0 ≤ 101 * (u_21.2.2.2.1.toNatClampNeg - md.toNatClampNeg); omega) ?_
          exact IH _ (by rw [← hN]; exact fu_dec (by assumption) hst.2.2.1) (n1 + 1) u_21.1 u_21.2.1 u_21.2.2.1 u_21.2.2.2.1 u_21.2.2.2.2.1 u_21.2.2.2.2.2 _ _ _ rfl (by exact hst.1) (by exact hst.2.1) (by exact ⟨hmd.1, hmd.2.1⟩) (by exact ⟨_, j3, by assumption, by assumption, hq⟩) hP hD hS (lv_sub hl [0] rfl)
  refine lv_aload_n hx hb dX11_run_0 rfl (lv_at hl 0 rfl) ?_
  refine lv_iconst (v := (-1)) hx hb dX11_run_1 (by decide) ?_
  refine va_put (D := (dC, dI)) (ci := 13) (v := .int (-1)) (ty := .int) (C := RX11) (T := TX11) (N := 12) hx hb hg inG11 tyX11 tyX11_ok nmX11 hown hK hP hD hS 0 rfl rfl 4 (by decide) (hg _ wF_X11_26) (fun _ h9 => h9) rfl (by decide +kernel) rfl rfl (Nat.le_of_ble_eq_true rfl) dX11_run_2 (fun H locs hP hD hS => ?_)
  have hP : va_P (dC, dI) vwCl (cW g ty pl ac (-1) md Z P) H := hP
  have hD : va_D A (cW g ty pl ac (-1) md Z P) := hD
  refine lv_aload_n hx hb dX11_run_5 rfl (lv_at hl 0 rfl) ?_
  refine lv_iconst (v := 0) hx hb dX11_run_6 (by decide) ?_
  refine lv_iload_n hx hb dX11_run_7 rfl (lv_at hl 2 rfl) ?_
  refine lv_sipush (v := 200) hx hb dX11_run_8 (by decide) ?_
  refine va_mmin hx hb (by rw [hml]; exact hl.1.symm) hown (hg _ wM_X11_47) (hg _ wS_J9_min) (hg _ wI_J9) (hg _ wK_J9_min) (Nat.le_of_ble_eq_true rfl) (Nat.le_of_ble_eq_true rfl) (by show 0 ≤ 18 * (6000 - md.toNatClampNeg) + 1; omega) (by show 0 ≤ 101 * (6000 - md.toNatClampNeg) + 8; omega) dX11_run_11 ?_
  refine va_mmax hx hb (by rw [hml]; exact hl.1.symm) hown (hg _ wM_X11_53) (hg _ wS_J9_max) (hg _ wI_J9) (hg _ wK_J9_max) (Nat.le_of_ble_eq_true rfl) (Nat.le_of_ble_eq_true rfl) (by show 0 ≤ 18 * (6000 - md.toNatClampNeg) + 1; omega) (by show 0 ≤ 101 * (6000 - md.toNatClampNeg) + 8; omega) dX11_run_14 ?_
  refine lv_topi (fun m_22 em_22 => ?_)
  refine va_put (D := (dC, dI)) (ci := 13) (v := .int m_22) (ty := .int) (C := RX11) (T := TX11) (N := 12) hx hb hg inG11 tyX11 tyX11_ok nmX11 hown hK hP hD hS 0 rfl rfl 6 (by decide) (hg _ wF_X11_56) (fun _ h9 => h9) rfl (by decide +kernel) rfl rfl (Nat.le_of_ble_eq_true rfl) dX11_run_17 (fun H locs hP hD hS => ?_)
  have hP : va_P (dC, dI) vwCl (cW g ty pl ac (-1) md (Z.1, Z.2.1, m_22, Z.2.2.2.1, Z.2.2.2.2.1, Z.2.2.2.2.2.1, Z.2.2.2.2.2.2.1, Z.2.2.2.2.2.2.2.1, Z.2.2.2.2.2.2.2.2.1, Z.2.2.2.2.2.2.2.2.2.1, Z.2.2.2.2.2.2.2.2.2.2.1, Z.2.2.2.2.2.2.2.2.2.2.2) P) H := hP
  have hD : va_D A (cW g ty pl ac (-1) md (Z.1, Z.2.1, m_22, Z.2.2.2.1, Z.2.2.2.2.1, Z.2.2.2.2.2.1, Z.2.2.2.2.2.2.1, Z.2.2.2.2.2.2.2.1, Z.2.2.2.2.2.2.2.2.1, Z.2.2.2.2.2.2.2.2.2.1, Z.2.2.2.2.2.2.2.2.2.2.1, Z.2.2.2.2.2.2.2.2.2.2.2) P) := hD
  refine lv_aload_n hx hb dX11_run_20 rfl (lv_at hl 0 rfl) ?_
  refine lv_iload_n hx hb dX11_run_21 rfl (lv_at hl 1 rfl) ?_
  refine lv_if_lt (tgt := 36) hx hb dX11_run_22 (by decide) (fun c_23 => ?_) (fun c_23 => ?_)
  · show _
    refine lv_sipush (v := 256) hx hb dX11_run_36 (by decide) ?_
    refine va_put (D := (dC, dI)) (ci := 13) (v := .int 256) (ty := .int) (C := RX11) (T := TX11) (N := 12) hx hb hg inG11 tyX11 tyX11_ok nmX11 hown hK hP hD hS 0 rfl rfl 5 (by decide) (hg _ wF_X11_59) (fun _ h9 => h9) rfl (by decide +kernel) rfl rfl (Nat.le_of_ble_eq_true rfl) dX11_run_39 (fun H locs hP hD hS => ?_)
    have hP : va_P (dC, dI) vwCl (cW g ty pl ac (-1) md (Z.1, 256, m_22, Z.2.2.2.1, Z.2.2.2.2.1, Z.2.2.2.2.2.1, Z.2.2.2.2.2.2.1, Z.2.2.2.2.2.2.2.1, Z.2.2.2.2.2.2.2.2.1, Z.2.2.2.2.2.2.2.2.2.1, Z.2.2.2.2.2.2.2.2.2.2.1, Z.2.2.2.2.2.2.2.2.2.2.2) P) H := hP
    have hD : va_D A (cW g ty pl ac (-1) md (Z.1, 256, m_22, Z.2.2.2.1, Z.2.2.2.2.1, Z.2.2.2.2.2.1, Z.2.2.2.2.2.2.1, Z.2.2.2.2.2.2.2.1, Z.2.2.2.2.2.2.2.2.1, Z.2.2.2.2.2.2.2.2.2.1, Z.2.2.2.2.2.2.2.2.2.2.1, Z.2.2.2.2.2.2.2.2.2.2.2) P) := hD
    refine W.widen (k := 18 * (md.toNatClampNeg - md.toNatClampNeg)) (n := 101 * (md.toNatClampNeg - md.toNatClampNeg)) (by show 0 ≤ 18 * (md.toNatClampNeg - md.toNatClampNeg); omega) (by show 0 ≤ 101 * (md.toNatClampNeg - md.toNatClampNeg); omega) ?_
    exact LOOP _ 0 pl ac (-1) md (Z.1, 256, m_22, Z.2.2.2.1, Z.2.2.2.2.1, Z.2.2.2.2.2.1, Z.2.2.2.2.2.2.1, Z.2.2.2.2.2.2.2.1, Z.2.2.2.2.2.2.2.2.1, Z.2.2.2.2.2.2.2.2.2.1, Z.2.2.2.2.2.2.2.2.2.2.1, Z.2.2.2.2.2.2.2.2.2.2.2) P _ _ _ rfl (by exact wf) (by exact zok_st2 (Z := Z) (f := m_22) pre0) (by exact ⟨pre1, Nat.le_refl _⟩) (by exact st_1 em_22 c_23) hP hD hS (lv_sub hl [0] rfl)
  · show _
    refine lv_iload_n hx hb dX11_run_25 rfl (lv_at hl 1 rfl) ?_
    refine lv_sipush (v := 256) hx hb dX11_run_26 (by decide) ?_
    refine lv_icmp_ge (tgt := 36) hx hb dX11_run_29 (by decide) (fun c_24 => ?_) (fun c_24 => ?_)
    · show _
      refine lv_sipush (v := 256) hx hb dX11_run_36 (by decide) ?_
      refine va_put (D := (dC, dI)) (ci := 13) (v := .int 256) (ty := .int) (C := RX11) (T := TX11) (N := 12) hx hb hg inG11 tyX11 tyX11_ok nmX11 hown hK hP hD hS 0 rfl rfl 5 (by decide) (hg _ wF_X11_59) (fun _ h9 => h9) rfl (by decide +kernel) rfl rfl (Nat.le_of_ble_eq_true rfl) dX11_run_39 (fun H locs hP hD hS => ?_)
      have hP : va_P (dC, dI) vwCl (cW g ty pl ac (-1) md (Z.1, 256, m_22, Z.2.2.2.1, Z.2.2.2.2.1, Z.2.2.2.2.2.1, Z.2.2.2.2.2.2.1, Z.2.2.2.2.2.2.2.1, Z.2.2.2.2.2.2.2.2.1, Z.2.2.2.2.2.2.2.2.2.1, Z.2.2.2.2.2.2.2.2.2.2.1, Z.2.2.2.2.2.2.2.2.2.2.2) P) H := hP
      have hD : va_D A (cW g ty pl ac (-1) md (Z.1, 256, m_22, Z.2.2.2.1, Z.2.2.2.2.1, Z.2.2.2.2.2.1, Z.2.2.2.2.2.2.1, Z.2.2.2.2.2.2.2.1, Z.2.2.2.2.2.2.2.2.1, Z.2.2.2.2.2.2.2.2.2.1, Z.2.2.2.2.2.2.2.2.2.2.1, Z.2.2.2.2.2.2.2.2.2.2.2) P) := hD
      refine W.widen (k := 18 * (md.toNatClampNeg - md.toNatClampNeg)) (n := 101 * (md.toNatClampNeg - md.toNatClampNeg)) (by show 0 ≤ 18 * (md.toNatClampNeg - md.toNatClampNeg); omega) (by show 0 ≤ 101 * (md.toNatClampNeg - md.toNatClampNeg); omega) ?_
      exact LOOP _ 0 pl ac (-1) md (Z.1, 256, m_22, Z.2.2.2.1, Z.2.2.2.2.1, Z.2.2.2.2.2.1, Z.2.2.2.2.2.2.1, Z.2.2.2.2.2.2.2.1, Z.2.2.2.2.2.2.2.2.1, Z.2.2.2.2.2.2.2.2.2.1, Z.2.2.2.2.2.2.2.2.2.2.1, Z.2.2.2.2.2.2.2.2.2.2.2) P _ _ _ rfl (by exact wf) (by exact zok_st2 (Z := Z) (f := m_22) pre0) (by exact ⟨pre1, Nat.le_refl _⟩) (by exact st_2 em_22 c_23 c_24) hP hD hS (lv_sub hl [0] rfl)
    · show _
      refine lv_iload_n hx hb dX11_run_32 rfl (lv_at hl 1 rfl) ?_
      refine lv_goto (tgt := 39) hx hb dX11_run_33 (by decide) ?_
      refine va_put (D := (dC, dI)) (ci := 13) (v := .int i0) (ty := .int) (C := RX11) (T := TX11) (N := 12) hx hb hg inG11 tyX11 tyX11_ok nmX11 hown hK hP hD hS 0 rfl rfl 5 (by decide) (hg _ wF_X11_59) (fun _ h9 => h9) rfl (by decide +kernel) rfl rfl (Nat.le_of_ble_eq_true rfl) dX11_run_39 (fun H locs hP hD hS => ?_)
      have hP : va_P (dC, dI) vwCl (cW g ty pl ac (-1) md (Z.1, i0, m_22, Z.2.2.2.1, Z.2.2.2.2.1, Z.2.2.2.2.2.1, Z.2.2.2.2.2.2.1, Z.2.2.2.2.2.2.2.1, Z.2.2.2.2.2.2.2.2.1, Z.2.2.2.2.2.2.2.2.2.1, Z.2.2.2.2.2.2.2.2.2.2.1, Z.2.2.2.2.2.2.2.2.2.2.2) P) H := hP
      have hD : va_D A (cW g ty pl ac (-1) md (Z.1, i0, m_22, Z.2.2.2.1, Z.2.2.2.2.1, Z.2.2.2.2.2.1, Z.2.2.2.2.2.2.1, Z.2.2.2.2.2.2.2.1, Z.2.2.2.2.2.2.2.2.1, Z.2.2.2.2.2.2.2.2.2.1, Z.2.2.2.2.2.2.2.2.2.2.1, Z.2.2.2.2.2.2.2.2.2.2.2) P) := hD
      refine W.widen (k := 18 * (md.toNatClampNeg - md.toNatClampNeg)) (n := 101 * (md.toNatClampNeg - md.toNatClampNeg)) (by show 0 ≤ 18 * (md.toNatClampNeg - md.toNatClampNeg); omega) (by show 0 ≤ 101 * (md.toNatClampNeg - md.toNatClampNeg); omega) ?_
      exact LOOP _ 0 pl ac (-1) md (Z.1, i0, m_22, Z.2.2.2.1, Z.2.2.2.2.1, Z.2.2.2.2.2.1, Z.2.2.2.2.2.2.1, Z.2.2.2.2.2.2.2.1, Z.2.2.2.2.2.2.2.2.1, Z.2.2.2.2.2.2.2.2.2.1, Z.2.2.2.2.2.2.2.2.2.2.1, Z.2.2.2.2.2.2.2.2.2.2.2) P _ _ _ rfl (by exact wf) (by exact zok_st (Z := Z) (f := m_22) pre0 c_23 c_24) (by exact ⟨pre1, Nat.le_refl _⟩) (by exact st_0 em_22 c_23 c_24) hP hD hS (lv_sub hl [0] rfl)

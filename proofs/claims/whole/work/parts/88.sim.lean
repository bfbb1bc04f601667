/-! ===== the mill's run, step by step ===== -/
abbrev mZ (A : ((Nat → Option Nat) × Int64 × Int32 × Int32 × cZ × cQ)) : cZ := A.2.2.2.2.1
/-- may a step be done -/
def mGd (A : ((Nat → Option Nat) × Int64 × Int32 × Int32 × cZ × cQ)) : Prop := ¬ (mZ A).2.2.1 ≤ 0 ∧ ¬ 256 ≤ (mZ A).2.1
def mStp (A B : ((Nat → Option Nat) × Int64 × Int32 × Int32 × cZ × cQ)) : Prop := mGd A ∧ q_X11_step A.1 A.2.1 A.2.2.1 A.2.2.2.1 (zFu (mZ A) ((mZ A).2.2.1 - 1)) A.2.2.2.2.2 B
def mStc : Nat → ((Nat → Option Nat) × Int64 × Int32 × Int32 × cZ × cQ) → ((Nat → Option Nat) × Int64 × Int32 × Int32 × cZ × cQ) → Prop
  | 0, A, F => F = A
  | n + 1, A, F => ∃ B : ((Nat → Option Nat) × Int64 × Int32 × Int32 × cZ × cQ), mStp A B ∧ mStc n B F
theorem mStc_snoc {n : Nat} {A X F : ((Nat → Option Nat) × Int64 × Int32 × Int32 × cZ × cQ)} (h : mStc n A X) (hs : mStp X F) : mStc (n + 1) A F := by
  induction n generalizing A with
  | zero => cases h; exact ⟨F, hs, rfl⟩
  | succ n ih =>
    obtain ⟨B, h1, h2⟩ := h
    exact ⟨B, h1, ih h2⟩
theorem mSts_c {n : Nat} {A F : ((Nat → Option Nat) × Int64 × Int32 × Int32 × cZ × cQ)} (h : mSts n A F) : mStc n A F := by
  induction n generalizing F with
  | zero => exact h
  | succ n ih =>
    obtain ⟨x, h1, h2, h3, h4⟩ := h
    exact mStc_snoc (ih h1) ⟨⟨h2, h3⟩, h4⟩
/-- a run whose last state allows no step: it goes on while a step may be done -/
theorem mStc_go {n : Nat} {A F : ((Nat → Option Nat) × Int64 × Int32 × Int32 × cZ × cQ)} (h : mStc n A F) (hF : ¬ mGd F) (hA : mGd A) : ∃ (k : Nat) (B : ((Nat → Option Nat) × Int64 × Int32 × Int32 × cZ × cQ)), n = k + 1 ∧ mStp A B ∧ mStc k B F := by
  cases n with
  | zero => cases h; exact absurd hA hF
  | succ n =>
    obtain ⟨B, h1, h2⟩ := h
    exact ⟨n, B, rfl, h1, h2⟩
theorem mStc_stop {n : Nat} {A F : ((Nat → Option Nat) × Int64 × Int32 × Int32 × cZ × cQ)} (h : mStc n A F) (hA : ¬ mGd A) : F = A := by
  cases n with
  | zero => exact h
  | succ n =>
    obtain ⟨B, h1, h2⟩ := h
    exact absurd h1.1 hA
/-- the blocks that are finished are left -/
def lvS (X : ((Nat → Option Nat) × Int64 × Int32 × Int32 × cZ × cQ)) : ((Nat → Option Nat) × Int64 × Int32 × Int32 × cZ × cQ) := (X.1, X.2.1, X.2.2.1, X.2.2.2.1, zLv (mZ X), X.2.2.2.2.2)
/-- what a step does before that: the program's next operation, at Z (the fuel is taken) -/
def mPr (pl : Nat → Option Nat) (ac : Int64) (md : Int32) (Z : cZ) (P : cQ) (X : ((Nat → Option Nat) × Int64 × Int32 × Int32 × cZ × cQ)) : Prop :=
  (X = (pl, (zCtl ac (zNx Z) (Z.1 (Z.2.1 * 4).toNatClampNeg) (Z.1 (Z.2.1 * 4 + 1).toNatClampNeg) (Z.1 (Z.2.1 * 4 + 2).toNatClampNeg)).1, -1, md, (zCtl ac (zNx Z) (Z.1 (Z.2.1 * 4).toNatClampNeg) (Z.1 (Z.2.1 * 4 + 1).toNatClampNeg) (Z.1 (Z.2.1 * 4 + 2).toNatClampNeg)).2, P) ∧ ¬ Z.1 (Z.2.1 * 4).toNatClampNeg < 40 ∧ ¬ 45 < Z.1 (Z.2.1 * 4).toNatClampNeg) ∨
  (∃ (r9 : Int64) (u9 : (Nat → Option Nat) × Int32 × Int32 × cQ), (Z.1 (Z.2.1 * 4).toNatClampNeg < 40 ∨ 45 < Z.1 (Z.2.1 * 4).toNatClampNeg) ∧ q_X11_answerOf (Z.1 (Z.2.1 * 4).toNatClampNeg) (Z.1 (Z.2.1 * 4 + 1).toNatClampNeg) (Z.1 (Z.2.1 * 4 + 2).toNatClampNeg) (Z.1 (Z.2.1 * 4 + 3).toNatClampNeg) pl ac (-1) md (zNx Z) P r9 u9 ∧
    ((u9.2.1 = -1 ∧ X = (u9.1, r9, -1, u9.2.2.1, zDn (zNx Z), u9.2.2.2)) ∨ (¬ u9.2.1 = -1 ∧ X = (u9.1, (zUnw (zNx Z).2.2.2.2.2.2.2.2.2.2.2.toNatClampNeg ac u9.2.1 (zNx Z)).1, (zUnw (zNx Z).2.2.2.2.2.2.2.2.2.2.2.toNatClampNeg ac u9.2.1 (zNx Z)).2.1, u9.2.2.1, (zUnw (zNx Z).2.2.2.2.2.2.2.2.2.2.2.toNatClampNeg ac u9.2.1 (zNx Z)).2.2, u9.2.2.2))))
theorem mStp_pr {pl : Nat → Option Nat} {ac : Int64} {md : Int32} {Z : cZ} {P : cQ} {B : ((Nat → Option Nat) × Int64 × Int32 × Int32 × cZ × cQ)} (h : mStp (pl, ac, -1, md, Z, P) B) : ∃ X, mPr pl ac md (zFu Z (Z.2.2.1 - 1)) P X ∧ B = lvS X := by
  rcases h.2 with ⟨rfl, h1, h2⟩ | ⟨r9, u9, rfl, hw, hq, hf⟩ | ⟨r9, u9, rfl, hw, hq, hf⟩
  · exact ⟨_, Or.inl ⟨rfl, h1, h2⟩, rfl⟩
  · refine ⟨_, Or.inr ⟨r9, u9, hw, hq, Or.inl ⟨hf, rfl⟩⟩, ?_⟩
    show _ = (_, _, _, _, _, _)
    rw [hf]
  · exact ⟨_, Or.inr ⟨r9, u9, hw, hq, Or.inr ⟨hf, rfl⟩⟩, rfl⟩
/-! leaving blocks -/
theorem lv_in {Z : cZ} (h : Z.2.1 < zEnd Z) : zLv Z = Z := by
  show zLeave _ Z = Z
  cases e : Z.2.2.2.2.2.2.2.2.2.2.2.toNatClampNeg with
  | zero => rfl
  | succ n => rw [zLeave_s, if_pos h]
theorem lv_0 {Z : cZ} (h : Z.2.2.2.2.2.2.2.2.2.2.2 ≤ 0) : zLv Z = Z := by
  show zLeave _ Z = Z
  rw [c0_of h]
  rfl
theorem lv_turn {Z : cZ} (hd : ¬ Z.2.2.2.2.2.2.2.2.2.2.2 ≤ 0) (h : ¬ Z.2.1 < zEnd Z) (ht : zDue Z = true) : zLv Z = zAt (zTurn Z) (zSta (zTurn Z)) := by
  show zLeave _ Z = _
  rw [down_eq hd, zLeave_s, if_neg h, if_pos ht]
theorem dp_close {Z : cZ} (hd : ¬ Z.2.2.2.2.2.2.2.2.2.2.2 ≤ 0) : (zClose Z).2.2.2.2.2.2.2.2.2.2.2 = Z.2.2.2.2.2.2.2.2.2.2.2 - 1 := by
  unfold zClose
  split
  · show (zDrop (zDn (zFin Z))).2.2.2.2.2.2.2.2.2.2.2 = _
    unfold zDrop
    rw [if_neg (show ¬ (zDn (zFin Z)).2.2.2.2.2.2.2.2.2.2.2 ≤ 0 from hd)]
    rfl
  · show (zDrop (zDn Z)).2.2.2.2.2.2.2.2.2.2.2 = _
    unfold zDrop
    rw [if_neg (show ¬ (zDn Z).2.2.2.2.2.2.2.2.2.2.2 ≤ 0 from hd)]
    rfl
theorem lv_close {Z : cZ} (hd : ¬ Z.2.2.2.2.2.2.2.2.2.2.2 ≤ 0) (h : ¬ Z.2.1 < zEnd Z) (ht : zDue Z = false) : zLv Z = zLv (zClose Z) := by
  show zLeave _ Z = zLeave (zClose Z).2.2.2.2.2.2.2.2.2.2.2.toNatClampNeg (zClose Z)
  rw [dp_close hd, sub1_eq hd, down_eq hd, zLeave_s, if_neg h, if_neg (by rw [ht]; decide)]
/-- where the next operations end, as the reference counts -/
theorem zEn_ref {Z : cZ} {a e A : Int32} (he : zEnd Z = e) (hA : A = if a < 0 then 0 else a) : zEn Z a = if e - Z.2.1 < A then e else if e - Z.2.1 = A then e else Z.2.1 + A := by
  unfold zEn
  rw [he, ← hA]
  by_cases h : e - Z.2.1 ≤ A
  · rw [if_pos h]
    by_cases h1 : e - Z.2.1 < A
    · rw [if_pos h1]
    · rw [if_neg h1, if_pos (Int32.le_antisymm h (le_of h1))]
  · rw [if_neg h, if_neg (fun q => h (Int32.le_of_lt q)), if_neg (fun q => h (by rw [q]; exact Int32.le_refl _))]
theorem en_sum {e k A : Int32} (h : e - k = A) : k + A = e := by
  rw [← h, Int32.add_comm]
  exact Int32.sub_add_cancel e k
/-- how many of the open blocks below n have a 'finally' -/
def c6 (f : Nat → Int32) : Nat → Nat
  | 0 => 0
  | n + 1 => c6 f n + (if f n = 6 then 1 else 0)

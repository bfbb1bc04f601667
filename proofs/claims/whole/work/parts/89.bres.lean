/-! ===== the reference's block against the mill's steps ===== -/
def bPg (I : rI) (Z : cZ) : Prop := ∀ k, k < 256 → I.1 k = Z.1 (k * 4) ∧ I.2.1 k = Z.1 (k * 4 + 1) ∧ I.2.2.1 k = Z.1 (k * 4 + 2) ∧ I.2.2.2.1 k = Z.1 (k * 4 + 3)
/-- the two states are one, but for the counts that lag -/
def bR (pl : Nat → Option Nat) (P : cQ) (md : Int32) (Y : rY) (pa : Nat → Int32) (tl : Nat → Int32) : Prop := (∃ ρ : Nat → Nat, rR Y.2.2.2.2.2.2.2.2.2.1 Y pa ρ pl P) ∧ cWF pl P ∧ rCnt Y md ∧ tl 5 = md ∧ (0 ≤ md ∧ md ≤ 6000)
def bC (I : rI) (tl : Nat → Int32) (Z : cZ) : Prop := (I.2.2.2.2.1 = Z.2.2.1 ∧ bPg I Z) ∧ (tl 0 = Z.2.2.2.1 ∧ tl 1 = Z.2.2.2.2.1 ∧ tl 2 = Z.2.2.2.2.2.1 ∧ tl 3 = Z.2.2.2.2.2.2.1) ∧ zOk Z
def bS (pl : Nat → Option Nat) (P : cQ) (md : Int32) (Z : cZ) (Y : rY) (pa : Nat → Int32) (I : rI) (tl : Nat → Int32) : Prop := bR pl P md Y pa tl ∧ bC I tl Z
/-- the same program, the same open blocks -/
def sS (Z Z' : cZ) : Prop := Z'.1 = Z.1 ∧ Z'.2.2.2.2.2.2.2.2.2.2.2 = Z.2.2.2.2.2.2.2.2.2.2.2 ∧ ∀ k, k < Z.2.2.2.2.2.2.2.2.2.2.2.toNatClampNeg → Z'.2.2.2.2.2.2.2.1 k = Z.2.2.2.2.2.2.2.1 k ∧ Z'.2.2.2.2.2.2.2.2.1 k = Z.2.2.2.2.2.2.2.2.1 k ∧ Z'.2.2.2.2.2.2.2.2.2.1 k = Z.2.2.2.2.2.2.2.2.2.1 k ∧ Z'.2.2.2.2.2.2.2.2.2.2.1 k = Z.2.2.2.2.2.2.2.2.2.2.1 k
theorem sS_rf (Z : cZ) : sS Z Z := ⟨rfl, rfl, fun _ _ => ⟨rfl, rfl, rfl, rfl⟩⟩
theorem sS_tr {Z Z' Z2 : cZ} (h1 : sS Z Z') (h2 : sS Z' Z2) : sS Z Z2 := by
  refine ⟨h2.1.trans h1.1, h2.2.1.trans h1.2.1, fun k hk => ?_⟩
  obtain ⟨a, b, c, d⟩ := h1.2.2 k hk
  obtain ⟨a', b', c', d'⟩ := h2.2.2 k (by rw [h1.2.1]; exact hk)
  exact ⟨a'.trans a, b'.trans b, c'.trans c, d'.trans d⟩
theorem sS_to {Z Z1 Z2 : cZ} (h : sS Z Z1) (h0 : Z2.1 = Z1.1) (h1 : Z2.2.2.2.2.2.2.2.2.2.2.2 = Z1.2.2.2.2.2.2.2.2.2.2.2) (h2 : Z2.2.2.2.2.2.2.2.1 = Z1.2.2.2.2.2.2.2.1 ∧ Z2.2.2.2.2.2.2.2.2.1 = Z1.2.2.2.2.2.2.2.2.1 ∧ Z2.2.2.2.2.2.2.2.2.2.1 = Z1.2.2.2.2.2.2.2.2.2.1 ∧ Z2.2.2.2.2.2.2.2.2.2.2.1 = Z1.2.2.2.2.2.2.2.2.2.2.1) : sS Z Z2 := by
  refine sS_tr h ⟨h0, h1, fun k _ => ?_⟩
  rw [h2.1, h2.2.1, h2.2.2.1, h2.2.2.2]
  exact ⟨rfl, rfl, rfl, rfl⟩
theorem sS_end {Z Z' : cZ} (h : sS Z Z') : zEnd Z' = zEnd Z := by
  unfold zEnd
  rw [h.2.1]
  by_cases hd : Z.2.2.2.2.2.2.2.2.2.2.2 ≤ 0
  · rw [if_pos hd, if_pos hd]
  · rw [if_neg hd, if_neg hd]
    exact (h.2.2 _ (by rw [sub1_eq hd]; exact down_lt hd)).2.1
/-- what closing all n open blocks leaves -/
theorem zAll_eff (n : Nat) (Z : cZ) (hd : Z.2.2.2.2.2.2.2.2.2.2.2.toNatClampNeg = n) (h0 : 0 ≤ Z.2.2.2.2.2.2.2.2.2.2.2) : (zAll n Z).2.2.2.1 = Z.2.2.2.1 + nI n ∧ (zAll n Z).2.2.2.2.2.1 = Z.2.2.2.2.2.1 + nI (c6 Z.2.2.2.2.2.2.2.2.2.2.1 n) ∧ (zAll n Z).2.2.2.2.1 = Z.2.2.2.2.1 ∧ (zAll n Z).2.2.2.2.2.2.1 = Z.2.2.2.2.2.2.1 ∧ (zAll n Z).2.2.1 = Z.2.2.1 ∧ (zAll n Z).1 = Z.1 ∧ (zAll n Z).2.1 = Z.2.1 ∧ (zAll n Z).2.2.2.2.2.2.2.2.2.2.2 = 0 := by
  induction n generalizing Z with
  | zero =>
    have e : Z.2.2.2.2.2.2.2.2.2.2.2 = 0 := by
      rw [Int32.le_iff_toInt_le, ci_0] at h0
      have hd : Z.2.2.2.2.2.2.2.2.2.2.2.toInt.toNat = 0 := hd
      exact Int32.toInt_inj.mp (by rw [ci_0]; omega)
    refine ⟨?_, ?_, rfl, rfl, rfl, rfl, rfl, e⟩
    · show Z.2.2.2.1 = Z.2.2.2.1 + nI 0
      rw [show nI 0 = 0 from rfl, Int32.add_zero]
    · show Z.2.2.2.2.2.1 = Z.2.2.2.2.2.1 + nI 0
      rw [show nI 0 = 0 from rfl, Int32.add_zero]
  | succ n ih =>
    have hp : ¬ Z.2.2.2.2.2.2.2.2.2.2.2 ≤ 0 := by
      intro h
      rw [c0_of h] at hd
      omega
    have e1 := dp_close hp
    have e2 : (zClose Z).2.2.2.2.2.2.2.2.2.2.2.toNatClampNeg = n := by
      rw [e1, sub1_eq hp]
      have := down_eq hp
      omega
    have e3 : 0 ≤ (zClose Z).2.2.2.2.2.2.2.2.2.2.2 := by
      rw [e1, sub1_eq hp]
      have := down_toInt hp
      rw [Int32.le_iff_toInt_le, ci_0] at hp
      rw [Int32.le_iff_toInt_le, ci_0]
      omega
    have hcat : zCat Z = Z.2.2.2.2.2.2.2.2.2.2.1 n := by
      unfold zCat
      rw [if_neg hp, sub1_eq hp]
      have := down_eq hp
      rw [show (Z.2.2.2.2.2.2.2.2.2.2.2 + (-1)).toNatClampNeg = n by omega]
    have hx := ih (zClose Z) e2 e3
    rw [zAll_s]
    have hnum : ∀ a : Int32, a + 1 + nI n = a + nI (n + 1) := fun a => by
      rw [Int32.add_assoc]
      congr 1
      rw [Int32.add_comm]
      exact (Int32.ofNat_add n 1).symm
    have hf : ∀ (f g : Int32) (b : Nat), g = f + nI b → g + nI (c6 Z.2.2.2.2.2.2.2.2.2.2.1 n) = f + nI (c6 Z.2.2.2.2.2.2.2.2.2.2.1 n + b) := fun f g b h => by
      rw [h, Int32.add_assoc]
      congr 1
      rw [Int32.add_comm]
      exact (Int32.ofNat_add _ b).symm
    by_cases h6 : zCat Z = 6
    · have ec : zClose Z = zDrop (zDn (zFin Z)) := if_pos h6
      have ed : zDrop (zDn (zFin Z)) = (Z.1, Z.2.1, Z.2.2.1, Z.2.2.2.1 + 1, Z.2.2.2.2.1, Z.2.2.2.2.2.1 + 1, Z.2.2.2.2.2.2.1, Z.2.2.2.2.2.2.2.1, Z.2.2.2.2.2.2.2.2.1, Z.2.2.2.2.2.2.2.2.2.1, Z.2.2.2.2.2.2.2.2.2.2.1, Z.2.2.2.2.2.2.2.2.2.2.2 - 1) := if_neg hp
      rw [ec, ed] at hx ⊢
      refine ⟨hx.1.trans (hnum _), hx.2.1.trans ?_, hx.2.2.1, hx.2.2.2.1, hx.2.2.2.2.1, hx.2.2.2.2.2.1, hx.2.2.2.2.2.2.1, hx.2.2.2.2.2.2.2⟩
      show Z.2.2.2.2.2.1 + 1 + nI (c6 Z.2.2.2.2.2.2.2.2.2.2.1 n) = Z.2.2.2.2.2.1 + nI (c6 Z.2.2.2.2.2.2.2.2.2.2.1 n + (if Z.2.2.2.2.2.2.2.2.2.2.1 n = 6 then 1 else 0))
      rw [if_pos (hcat ▸ h6)]
      exact hf _ _ 1 rfl
    · have ec : zClose Z = zDrop (zDn Z) := if_neg h6
      have ed : zDrop (zDn Z) = (Z.1, Z.2.1, Z.2.2.1, Z.2.2.2.1 + 1, Z.2.2.2.2.1, Z.2.2.2.2.2.1, Z.2.2.2.2.2.2.1, Z.2.2.2.2.2.2.2.1, Z.2.2.2.2.2.2.2.2.1, Z.2.2.2.2.2.2.2.2.2.1, Z.2.2.2.2.2.2.2.2.2.2.1, Z.2.2.2.2.2.2.2.2.2.2.2 - 1) := if_neg hp
      rw [ec, ed] at hx ⊢
      refine ⟨hx.1.trans (hnum _), hx.2.1.trans ?_, hx.2.2.1, hx.2.2.2.1, hx.2.2.2.2.1, hx.2.2.2.2.2.1, hx.2.2.2.2.2.2.1, hx.2.2.2.2.2.2.2⟩
      show Z.2.2.2.2.2.1 + nI (c6 Z.2.2.2.2.2.2.2.2.2.2.1 n) = Z.2.2.2.2.2.1 + nI (c6 Z.2.2.2.2.2.2.2.2.2.2.1 n + (if Z.2.2.2.2.2.2.2.2.2.2.1 n = 6 then 1 else 0))
      rw [if_neg (fun q => h6 (hcat.trans q))]
      rfl
/-- what a block takes, on both sides -/
theorem tk_ca : ∀ c : Fin 8, ∀ f : Fin 7, (rTk (nI c.1) (nI f.1) = 1 ↔ kCa (nI c.1) (nI f.1) = true) ∧ (rTk (nI c.1) (nI f.1) = 0 ↔ kCa (nI c.1) (nI f.1) = false) := by decide +kernel
theorem ca_8 : ∀ f : Fin 7, kCa 8 (nI f.1) = false := by decide +kernel
theorem c6_eq {f g : Nat → Int32} {n : Nat} (h : ∀ k, k < n → f k = g k) : c6 f n = c6 g n := by
  induction n with
  | zero => rfl
  | succ n ih =>
    show c6 f n + _ = c6 g n + _
    rw [ih (fun k hk => h k (by omega)), h n (by omega)]
/-- within a block of the reference, at k: the mill goes on from a state that is the same -/
def bInv (Z : cZ) (e fm : Int32) (F : ((Nat → Option Nat) × Int64 × Int32 × Int32 × cZ × cQ)) (Y : rY) (pa : Nat → Int32) (I : rI) (tl : Nat → Int32) (ac : Int64) (k : Int32) : Prop :=
  ∃ (pl : Nat → Option Nat) (P : cQ) (md : Int32) (Z1 : cZ) (N : Nat), bS pl P md Z1 Y pa I tl ∧ sS Z Z1 ∧ Z1.2.1 = k ∧ k ≤ e ∧ (0 ≤ Z1.2.2.1 ∧ Z1.2.2.1 ≤ fm) ∧ mStc N (lvS (pl, ac, -1, md, Z1, P)) F
/-- how a block of the reference ends: F is where the mill's run ends, Z has the open blocks as the block began, e its end -/
def bRes (Z : cZ) (e fm : Int32) (F : ((Nat → Option Nat) × Int64 × Int32 × Int32 × cZ × cQ)) (r : Int32) (Y' : rY) (pa' : Nat → Int32) (I' : rI) (tl' : Nat → Int32) (ac' : Int64) (wr' : Int32) : Prop :=
  (r = 0 ∧ bInv Z e fm F Y' pa' I' tl' ac' e) ∨
  ((r = 1 ∨ r = 2) ∧ ∃ G : cZ, ((r = 1 ∧ 256 ≤ (mZ F).2.1 ∧ G = mZ F) ∨ (r = 2 ∧ ¬ 256 ≤ (mZ F).2.1 ∧ G = zAll (mZ F).2.2.2.2.2.2.2.2.2.2.2.toNatClampNeg (mZ F))) ∧ F.2.2.1 = -1 ∧ F.2.1 = ac' ∧ bR F.1 F.2.2.2.2.2 F.2.2.2.1 Y' pa' tl' ∧ (I'.2.2.2.2.1 = G.2.2.1 ∧ bPg I' G) ∧ (tl' 0 + Z.2.2.2.2.2.2.2.2.2.2.2 = G.2.2.2.1 ∧ tl' 1 = G.2.2.2.2.1 ∧ tl' 2 + nI (c6 Z.2.2.2.2.2.2.2.2.2.2.1 Z.2.2.2.2.2.2.2.2.2.2.2.toNatClampNeg) = G.2.2.2.2.2.1 ∧ tl' 3 = G.2.2.2.2.2.2.1) ∧ zOk G ∧ G.2.2.2.2.2.2.2.2.2.2.2 = 0) ∨
  (r = 3 ∧ ∃ (pl : Nat → Option Nat) (P : cQ) (md : Int32) (Zp : cZ) (f : Nat) (N : Nat), f < 7 ∧ wr' = nI f ∧ bS pl P md Zp Y' pa' I' tl' ∧ sS Z Zp ∧ (0 ≤ Zp.2.2.1 ∧ Zp.2.2.1 ≤ fm) ∧ mStc N (lvS (pl, (zUnw Zp.2.2.2.2.2.2.2.2.2.2.2.toNatClampNeg ac' (nI f) Zp).1, (zUnw Zp.2.2.2.2.2.2.2.2.2.2.2.toNatClampNeg ac' (nI f) Zp).2.1, md, (zUnw Zp.2.2.2.2.2.2.2.2.2.2.2.toNatClampNeg ac' (nI f) Zp).2.2, P)) F)

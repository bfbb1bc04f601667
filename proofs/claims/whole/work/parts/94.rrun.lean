/-! ===== run of the reference ===== -/
/-- the two states are one, between two calls -/
def bSt (pl : Nat → Option Nat) (P : cQ) (md : Int32) (Z : cZ) (Y : rY) (pa : Nat → Int32) (I : rI) (tl : Nat → Int32) : Prop := bS pl P md Z Y pa I tl ∧ Z.2.2.2.2.2.2.2.2.2.2.2 = 0 ∧ tl 4 = Z.2.2.1
/-- how run of the reference ends, where the mill's steps end at F -/
def rRun (F : ((Nat → Option Nat) × Int64 × Int32 × Int32 × cZ × cQ)) (r : Int32) (Y' : rY) (pa' : Nat → Int32) (I' : rI) (tl' : Nat → Int32) (ac' : Int64) : Prop :=
  ∃ G : cZ, bSt F.1 F.2.2.2.2.2 F.2.2.2.1 G Y' pa' I' tl' ∧ F.2.1 = ac' ∧ ((F.2.2.1 = -1 ∧ 256 ≤ (mZ F).2.1 ∧ G = mZ F ∧ r = 0 ∧ I'.2.2.2.2.2 = 0) ∨ (F.2.2.1 = -1 ∧ ¬ 256 ≤ (mZ F).2.1 ∧ G = zAll (mZ F).2.2.2.2.2.2.2.2.2.2.2.toNatClampNeg (mZ F) ∧ r = 1 ∧ I'.2.2.2.2.2 = 0) ∨ (G = zLo (mZ F) ∧ I'.2.2.2.2.2 = F.2.2.1 + 1 ∧ ∃ f : Nat, f < 7 ∧ F.2.2.1 = nI f))
theorem fu_of {m f : Int32} (h : (¬ 0 ≤ m ∧ f = 0) ∨ (0 ≤ m ∧ m ≤ 200 ∧ f = m) ∨ (0 ≤ m ∧ ¬ m ≤ 200 ∧ f = 200)) : f = (if 0 < (if 200 < m then 200 else m) then (if 200 < m then 200 else m) else 0) ∧ 0 ≤ f ∧ f.toNatClampNeg ≤ 200 := by
  have c2 : (200 : Int32).toNatClampNeg = 200 := by decide
  rcases h with ⟨h1, rfl⟩ | ⟨h1, h2, rfl⟩ | ⟨h1, h2, rfl⟩
  · have e : ¬ 200 < m := by
      rw [Int32.le_iff_toInt_le, ci_0] at h1
      rw [Int32.lt_iff_toInt_lt, ci_200]
      omega
    have e2 : ¬ 0 < m := by
      rw [Int32.le_iff_toInt_le, ci_0] at h1
      rw [Int32.lt_iff_toInt_lt, ci_0]
      omega
    rw [if_neg e, if_neg e2]
    exact ⟨rfl, by decide, by decide⟩
  · have e : ¬ 200 < f := by
      rw [Int32.le_iff_toInt_le] at h2
      rw [Int32.lt_iff_toInt_lt]
      omega
    rw [if_neg e]
    refine ⟨?_, h1, by have := i32_le h2; omega⟩
    by_cases h3 : 0 < f
    · rw [if_pos h3]
    · rw [if_neg h3]
      rw [Int32.le_iff_toInt_le, ci_0] at h1
      rw [Int32.lt_iff_toInt_lt, ci_0] at h3
      exact Int32.toInt_inj.mp (by rw [ci_0]; omega)
  · have e : 200 < m := by
      rw [Int32.le_iff_toInt_le] at h2
      rw [Int32.lt_iff_toInt_lt]
      omega
    rw [if_pos e]
    exact ⟨rfl, by decide, by decide⟩
section RRun
variable {pl : Nat → Option Nat} {P : cQ} {md : Int32} {Z : cZ} {Y : rY} {pa : Nat → Int32} {I : rI} {tl : Nat → Int32} {ac : Int64} {i m f : Int32} {N : Nat} {F : ((Nat → Option Nat) × Int64 × Int32 × Int32 × cZ × cQ)} {r wr : Int32} {e fm : Int32}
theorem rn_bS (h : bSt pl P md Z Y pa I tl) (hf : f = (if 0 < (if 200 < m then 200 else m) then (if 200 < m then 200 else m) else 0)) : bS pl P md (zSt Z i m) Y pa (I.1, I.2.1, I.2.2.1, I.2.2.2.1, f, 0) tl := by
  obtain ⟨⟨h1, ⟨d1, d2⟩, d3, d7⟩, -, -⟩ := h
  refine ⟨h1, ⟨hf, d2⟩, d3, zok_at (zok_fu d7) ?_⟩
  by_cases h2 : i < 0
  · rw [if_pos h2]; decide
  · rw [if_neg h2]
    by_cases h3 : 256 ≤ i
    · rw [if_pos h3]; decide
    · rw [if_neg h3]
      refine ⟨nn_of h2, ?_⟩
      rw [Int32.le_iff_toInt_le, ci_256] at h3 ⊢
      omega
theorem rn_lv (h : Z.2.2.2.2.2.2.2.2.2.2.2 = 0) : lvS (pl, ac, i, md, Z, P) = (pl, ac, i, md, Z, P) := by
  show (_, _, _, _, zLv Z, _) = _
  rw [lv_0 (by rw [h]; decide)]
theorem rn_in (h : bSt pl P md Z Y pa I tl) (hm : mSts N (pl, ac, -1, md, zSt Z i m, P) F) (hf : f = (if 0 < (if 200 < m then 200 else m) then (if 200 < m then 200 else m) else 0) ∧ 0 ≤ f ∧ f.toNatClampNeg ≤ 200) (h0 : ¬ i < 0) (h1 : i ≤ 255) : bInv (zSt Z i m) 256 f F Y pa (I.1, I.2.1, I.2.2.1, I.2.2.2.1, f, 0) tl ac i ∧ zEnd (zSt Z i m) = 256 ∧ (zSt Z i m).2.2.2.2.2.2.2.2.2.2.2 = 0 := by
  have hd : (zSt Z i m).2.2.2.2.2.2.2.2.2.2.2 = 0 := h.2.1
  have h2 : ¬ 256 ≤ i := by
    rw [Int32.le_iff_toInt_le, show (255 : Int32).toInt = 255 by decide] at h1
    rw [Int32.le_iff_toInt_le, ci_256]
    omega
  refine ⟨⟨pl, P, md, zSt Z i m, N, rn_bS h hf.1, sS_rf _, ?_, ?_, ?_, ?_⟩, ?_, hd⟩
  · show (if i < 0 then 256 else if 256 ≤ i then 256 else i) = i
    rw [if_neg h0, if_neg h2]
  · rw [Int32.le_iff_toInt_le, ci_256] at h2 ⊢
    omega
  · have : (zSt Z i m).2.2.1 = f := hf.1.symm
    rw [this]
    exact ⟨hf.2.1, Int32.le_refl _⟩
  · rw [rn_lv hd]
    exact mSts_c hm
  · unfold zEnd
    rw [hd, if_pos (by decide)]
/-- the run is not begun -/
theorem rn_no (h : bSt pl P md Z Y pa I tl) (hm : mSts N (pl, ac, -1, md, zSt Z i m, P) F) (hf : f = (if 0 < (if 200 < m then 200 else m) then (if 200 < m then 200 else m) else 0)) (h0 : i < 0 ∨ ¬ i ≤ 255) : rRun F 0 Y pa (I.1, I.2.1, I.2.2.1, I.2.2.2.1, f, 0) (upd tl 4 f) ac := by
  have hat : (zSt Z i m).2.1 = 256 := by
    show (if i < 0 then 256 else if 256 ≤ i then 256 else i) = 256
    by_cases h2 : i < 0
    · rw [if_pos h2]
    · rw [if_neg h2, if_pos]
      have h1 := h0.resolve_left h2
      rw [Int32.le_iff_toInt_le, show (255 : Int32).toInt = 255 by decide] at h1
      rw [Int32.le_iff_toInt_le, ci_256]
      omega
  have hF := mStc_stop (mSts_c hm) (fun q => q.2 (by show 256 ≤ (zSt Z i m).2.1; rw [hat]; exact Int32.le_refl _))
  subst hF
  have hS := rn_bS (i := i) h hf
  obtain ⟨⟨a1, a2, a3, a4, a5⟩, hC⟩ := hS
  refine ⟨zSt Z i m, ⟨⟨⟨a1, a2, a3, a4, a5⟩, hC⟩, h.2.1, hf⟩, rfl, Or.inl ⟨rfl, by show 256 ≤ (zSt Z i m).2.1; rw [hat]; exact Int32.le_refl _, rfl, rfl, rfl⟩⟩
theorem rn_0 (h : bRes Z 256 fm F r Y pa I tl ac wr) (hd : Z.2.2.2.2.2.2.2.2.2.2.2 = 0) (hr : r = 0) (ht : I.2.2.2.2.2 = 0) : rRun F 0 Y pa I (upd tl 4 I.2.2.2.2.1) ac := by
  obtain ⟨pl, P, md, Z1, N, hS, hs, hk, hke, hfu, hm⟩ := br_0 h hr
  have hd1 := hs.2.1.trans hd
  rw [rn_lv hd1] at hm
  have hF := mStc_stop hm (fun q => q.2 (by show 256 ≤ Z1.2.1; rw [hk]; exact Int32.le_refl _))
  subst hF
  obtain ⟨⟨a1, a2, a3, a4, a5⟩, hC⟩ := hS
  exact ⟨Z1, ⟨⟨⟨a1, a2, a3, a4, a5⟩, hC⟩, hd1, hC.1.1⟩, rfl, Or.inl ⟨rfl, by show 256 ≤ Z1.2.1; rw [hk]; exact Int32.le_refl _, rfl, rfl, ht⟩⟩
theorem rn_12 (h : bRes Z 256 fm F r Y pa I tl ac wr) (hd : Z.2.2.2.2.2.2.2.2.2.2.2 = 0) (hr : ¬ r = 0) (hr3 : ¬ r = 3) (ht : I.2.2.2.2.2 = 0) : rRun F (if r = 2 then 1 else 0) Y pa I (upd tl 4 I.2.2.2.2.1) ac := by
  rcases h with ⟨h, -⟩ | ⟨h, G, hG, g1, g2, ⟨a1, a2, a3, a4, a5⟩, g4, ⟨c0, c1, c2, c3⟩, g6, g7⟩ | ⟨h, -⟩
  · exact absurd h hr
  rotate_left
  · exact absurd h hr3
  rw [hd] at c0 c2
  rw [Int32.add_zero] at c0
  have c2 : tl 2 = G.2.2.2.2.2.1 := by
    rw [← c2]
    exact (Int32.add_zero _).symm
  refine ⟨G, ⟨⟨⟨a1, a2, a3, a4, a5⟩, g4, ⟨c0, c1, c2, c3⟩, g6⟩, g7, g4.1⟩, g2, ?_⟩
  rcases hG with ⟨rfl, x1, x2⟩ | ⟨rfl, x1, x2⟩
  · exact Or.inl ⟨g1, x1, x2, rfl, ht⟩
  · exact Or.inr (Or.inl ⟨g1, x1, x2, rfl, ht⟩)
theorem rn_1 (h : bRes Z 256 fm F r Y pa I tl ac wr) (hd : Z.2.2.2.2.2.2.2.2.2.2.2 = 0) (hr : ¬ r = 2) (hr3 : ¬ r = 3) (ht : I.2.2.2.2.2 = 0) : rRun F 0 Y pa I (upd tl 4 I.2.2.2.2.1) ac := by
  by_cases h0 : r = 0
  · exact rn_0 h hd h0 ht
  · have := rn_12 h hd h0 hr3 ht
    rw [if_neg hr] at this
    exact this
theorem rn_2 (h : bRes Z 256 fm F r Y pa I tl ac wr) (hd : Z.2.2.2.2.2.2.2.2.2.2.2 = 0) (hr : r = 2) (ht : I.2.2.2.2.2 = 0) : rRun F 1 Y pa I (upd tl 4 I.2.2.2.2.1) ac := by
  have := rn_12 h hd (by rw [hr]; decide) (by rw [hr]; decide) ht
  rw [if_pos hr] at this
  exact this
theorem rn_3 (h : bRes Z 256 fm F r Y pa I tl ac wr) (hd : Z.2.2.2.2.2.2.2.2.2.2.2 = 0) (hr : r = 3) : rRun F 0 Y pa (I.1, I.2.1, I.2.2.1, I.2.2.2.1, I.2.2.2.2.1, wr + 1) (upd (upd tl 4 I.2.2.2.2.1) 3 (upd tl 4 I.2.2.2.2.1 3 + 1)) ac := by
  rcases h with ⟨h, -⟩ | ⟨h, -⟩ | ⟨-, pl, P, md, Zp, f, N, hf7, hwr, hS, hs, hfu, hm⟩
  · exact absurd (hr.symm.trans h) (by decide)
  · exact absurd h (by rw [hr]; decide)
  have hd1 := hs.2.1.trans hd
  rw [hd1] at hm
  have hm : mStc N (lvS (pl, ac, nI f, md, zAt Zp 256, P)) F := hm
  rw [rn_lv (show (zAt Zp 256).2.2.2.2.2.2.2.2.2.2.2 = 0 from hd1)] at hm
  have hF := mStc_stop hm (fun q => q.2 (by show (256 : Int32) ≤ 256; exact Int32.le_refl _))
  subst hF
  obtain ⟨⟨a1, a2, a3, a4, a5⟩, ⟨d1, d2⟩, ⟨d3, d4, d5, d6⟩, d7⟩ := hS
  refine ⟨zLo (zAt Zp 256), ⟨⟨⟨a1, a2, a3, a4, a5⟩, ⟨d1, d2⟩, ⟨d3, d4, d5, ?_⟩, zok_dep d7 ⟨show (0 : Int32) ≤ 256 by decide, show (256 : Int32) ≤ 256 by decide⟩ rfl rfl (Or.inr rfl)⟩, hd1, d1⟩, rfl, Or.inr (Or.inr ⟨rfl, ?_, f, hf7, rfl⟩)⟩
  · show tl 3 + 1 = Zp.2.2.2.2.2.2.1 + 1
    rw [d6]
  · show wr + 1 = nI f + 1
    rw [hwr]
end RRun
theorem bt_L {pl : Nat → Option Nat} {P : cQ} {md : Int32} {Z : cZ} {Y : rY} {pa : Nat → Int32} {I : rI} {tl : Nat → Int32} (h : bSt pl P md Z Y pa I tl) : Y.2.2.2.2.2.2.2.1 ≤ 96000 ∧ Y.2.2.2.2.2.2.2.2.1 ≤ 1542237 := by
  obtain ⟨⟨⟨⟨ρ, hr⟩, -⟩, -⟩, -⟩ := h
  exact rl_L hr.1
set_option maxHeartbeats 4000000 in
set_option maxRecDepth 100000 in
theorem c_X12_run (l : Launch) (dC : Nat → ClassId) (dI : Nat → Nat → Nat) (g : Nat → Nat) (ty : Nat → ClassId) (sz tot : Nat) (Y : rY) (pa : Nat → Int32) (kp : Nat → Int32) (ks : Int32) (I : rI) (tl : Nat → Int32) (ac : Int64) (wr : Int32) (tw : Int32) (pl : Nat → Option Nat) (P : cQ) (md : Int32) (Z : cZ) (N : Nat) (F : ((Nat → Option Nat) × Int64 × Int32 × Int32 × cZ × cQ)) (i0 : Int32) (m0 : Int32) (pre0 : bSt pl P md Z Y pa I tl) (pre1 : mSts N (pl, ac, -1, md, zSt Z i0 m0, P) F) (pre2 : ¬ mGd F) (pre3 : ks = 0) (pre4 : rNr) : Met l yX12_run (Cond.code yX12_run cX12_run 4 (some .int) :: gT) ({ frames := 206, cells := 96000 - Y.2.2.2.2.2.2.2.1, slots := 10 * (96000 - Y.2.2.2.2.2.2.2.1) + 2 * (1542237 - Y.2.2.2.2.2.2.2.2.1), locals := 5962 }) (cPg (dC, dI) (rTy ty) (rW g ty Y pa kp ks I tl ac wr tw) sz tot [.ref (g 8), .int i0, .int m0]) (va_Qi (fun (rz : Int32) (u : rY × (Nat → Int32) × (Nat → Int32) × rI × (Nat → Int32) × Int64 × Int32 × Int32) => ∃ (r' : Int32) (Y' : rY) (pa' kp' : Nat → Int32) (I' : rI) (tl' : Nat → Int32) (ac' : Int64) (wr' tw' : Int32), r' = rz ∧ (Y', pa', kp', I', tl', ac', wr', tw') = u ∧ rRun F r' Y' pa' I' tl' ac' ∧ ((Y.2.2.2.2.2.2.2.1 ≤ Y'.2.2.2.2.2.2.2.1 ∧ Y.2.2.2.2.2.2.2.2.1 ≤ Y'.2.2.2.2.2.2.2.2.1) ∧ (Y'.2.2.2.2.2.2.2.1 ≤ 96000 ∧ Y'.2.2.2.2.2.2.2.2.1 ≤ 1542237))) (cBg (dC, dI) (fun u : rY × (Nat → Int32) × (Nat → Int32) × rI × (Nat → Int32) × Int64 × Int32 × Int32 => rW g ty u.1 u.2.1 u.2.2.1 ks u.2.2.2.1 u.2.2.2.2.1 u.2.2.2.2.2.1 u.2.2.2.2.2.2.1 u.2.2.2.2.2.2.2) (va_A (rW g ty Y pa kp ks I tl ac wr tw) sz) sz tot (fun u : rY × (Nat → Int32) × (Nat → Int32) × rI × (Nat → Int32) × Int64 × Int32 × Int32 => u.1.2.2.2.2.2.2.2.1 - Y.2.2.2.2.2.2.2.1) (fun u : rY × (Nat → Int32) × (Nat → Int32) × rI × (Nat → Int32) × Int64 × Int32 × Int32 => 10 * (u.1.2.2.2.2.2.2.2.1 - Y.2.2.2.2.2.2.2.1) + 2 * (u.1.2.2.2.2.2.2.2.2.1 - Y.2.2.2.2.2.2.2.2.1))) (va_A (rW g ty Y pa kp ks I tl ac wr tw) sz)) (96000 - Y.2.2.2.2.2.2.2.1) (10 * (96000 - Y.2.2.2.2.2.2.2.1) + 2 * (1542237 - Y.2.2.2.2.2.2.2.2.1)) (va_A (rW g ty Y pa kp ks I tl ac wr tw) sz) := by
  refine cg_of (Qa := fun A => va_Qi (fun (rz : Int32) (u : rY × (Nat → Int32) × (Nat → Int32) × rI × (Nat → Int32) × Int64 × Int32 × Int32) => ∃ (r' : Int32) (Y' : rY) (pa' kp' : Nat → Int32) (I' : rI) (tl' : Nat → Int32) (ac' : Int64) (wr' tw' : Int32), r' = rz ∧ (Y', pa', kp', I', tl', ac', wr', tw') = u ∧ rRun F r' Y' pa' I' tl' ac' ∧ ((Y.2.2.2.2.2.2.2.1 ≤ Y'.2.2.2.2.2.2.2.1 ∧ Y.2.2.2.2.2.2.2.2.1 ≤ Y'.2.2.2.2.2.2.2.2.1) ∧ (Y'.2.2.2.2.2.2.2.1 ≤ 96000 ∧ Y'.2.2.2.2.2.2.2.2.1 ≤ 1542237))) (cBg (dC, dI) (fun u : rY × (Nat → Int32) × (Nat → Int32) × rI × (Nat → Int32) × Int64 × Int32 × Int32 => rW g ty u.1 u.2.1 u.2.2.1 ks u.2.2.2.1 u.2.2.2.2.1 u.2.2.2.2.2.1 u.2.2.2.2.2.2.1 u.2.2.2.2.2.2.2) A sz tot (fun u : rY × (Nat → Int32) × (Nat → Int32) × rI × (Nat → Int32) × Int64 × Int32 × Int32 => u.1.2.2.2.2.2.2.2.1 - Y.2.2.2.2.2.2.2.1) (fun u : rY × (Nat → Int32) × (Nat → Int32) × rI × (Nat → Int32) × Int64 × Int32 × Int32 => 10 * (u.1.2.2.2.2.2.2.2.1 - Y.2.2.2.2.2.2.2.1) + 2 * (u.1.2.2.2.2.2.2.2.2.1 - Y.2.2.2.2.2.2.2.2.1))) A) (by decide) (Nat.le_of_ble_eq_true rfl) ?_
  intro p e s m below meth c A hx hb hr hml hown hg hlk hmn hP hK hD hT hS hA hsz htot ls hl
  have hown : s.vm.findClass RX12 = some m.cls := hown
  have hl : lv_has ls 4 [(0, .ref (g 8)), (1, .int i0), (2, .int m0)] := hl
  refine lv_aload_n hx hb dX12_run_0 rfl (lv_at hl 0 rfl) ?_
  refine lv_iconst (v := 0) hx hb dX12_run_1 (by decide) ?_
  refine va_put (D := (dC, dI)) (ci := 14) (v := .int 0) (ty := .int) (C := RX12) (T := TX12) (N := 21) hx hb hg inG12 tyX12 tyX12_ok nmX12 hown hK hP hD hS 0 rfl rfl 15 (by decide) (hg _ wF_X12_55) (fun _ h9 => h9) rfl (by decide +kernel) rfl rfl (Nat.le_of_ble_eq_true rfl) dX12_run_2 (fun H locs hP hD hS => ?_)
  have hP : va_P (dC, dI) vwCl (rW g ty Y pa kp ks (I.1, I.2.1, I.2.2.1, I.2.2.2.1, I.2.2.2.2.1, 0) tl ac wr tw) H := hP
  have hD : va_D A (rW g ty Y pa kp ks (I.1, I.2.1, I.2.2.1, I.2.2.2.1, I.2.2.2.2.1, 0) tl ac wr tw) := hD
  have J28 : ∀ (f9 : Int32) (ls : Array Slot), (f9 = (if 0 < (if 200 < m0 then 200 else m0) then (if 200 < m0 then 200 else m0) else 0) ∧ 0 ≤ f9 ∧ f9.toNatClampNeg ≤ 200) → lv_has ls 4 [(0, .ref (g 8)), (1, .int i0), (2, .int m0)] → W p l e ({ frames := 206, cells := 96000 - Y.2.2.2.2.2.2.2.1, slots := 10 * (96000 - Y.2.2.2.2.2.2.2.1) + 2 * (1542237 - Y.2.2.2.2.2.2.2.2.1), locals := 5962 }) s m ([.ref (g 8), .int i0, .int m0]).toArray below meth c H locs (0) (0) (MQ below (va_Qi (fun (rz : Int32) (u : rY × (Nat → Int32) × (Nat → Int32) × rI × (Nat → Int32) × Int64 × Int32 × Int32) => ∃ (r' : Int32) (Y' : rY) (pa' kp' : Nat → Int32) (I' : rI) (tl' : Nat → Int32) (ac' : Int64) (wr' tw' : Int32), r' = rz ∧ (Y', pa', kp', I', tl', ac', wr', tw') = u ∧ rRun F r' Y' pa' I' tl' ac' ∧ ((Y.2.2.2.2.2.2.2.1 ≤ Y'.2.2.2.2.2.2.2.1 ∧ Y.2.2.2.2.2.2.2.2.1 ≤ Y'.2.2.2.2.2.2.2.2.1) ∧ (Y'.2.2.2.2.2.2.2.1 ≤ 96000 ∧ Y'.2.2.2.2.2.2.2.2.1 ≤ 1542237))) (cBg (dC, dI) (fun u : rY × (Nat → Int32) × (Nat → Int32) × rI × (Nat → Int32) × Int64 × Int32 × Int32 => rW g ty u.1 u.2.1 u.2.2.1 ks u.2.2.2.1 u.2.2.2.2.1 u.2.2.2.2.2.1 u.2.2.2.2.2.2.1 u.2.2.2.2.2.2.2) A sz tot (fun u : rY × (Nat → Int32) × (Nat → Int32) × rI × (Nat → Int32) × Int64 × Int32 × Int32 => u.1.2.2.2.2.2.2.2.1 - Y.2.2.2.2.2.2.2.1) (fun u : rY × (Nat → Int32) × (Nat → Int32) × rI × (Nat → Int32) × Int64 × Int32 × Int32 => 10 * (u.1.2.2.2.2.2.2.2.1 - Y.2.2.2.2.2.2.2.1) + 2 * (u.1.2.2.2.2.2.2.2.2.1 - Y.2.2.2.2.2.2.2.2.1))) A) ([.ref (g 8), .int i0, .int m0]).toArray s (96000 - Y.2.2.2.2.2.2.2.1) (10 * (96000 - Y.2.2.2.2.2.2.2.1) + 2 * (1542237 - Y.2.2.2.2.2.2.2.2.1)) A) (F0 m 28 ls [.int f9, .ref (g 8)]) := by
    intro f9 ls hf9 hl
    refine va_put (D := (dC, dI)) (ci := 14) (v := .int f9) (ty := .int) (C := RX12) (T := TX12) (N := 21) hx hb hg inG12 tyX12 tyX12_ok nmX12 hown hK hP hD hS 0 rfl rfl 14 (by decide) (hg _ wF_X12_165) (fun _ h9 => h9) rfl (by decide +kernel) rfl rfl (Nat.le_of_ble_eq_true rfl) dX12_run_28 (fun H locs hP hD hS => ?_)
    have hP : va_P (dC, dI) vwCl (rW g ty Y pa kp ks (I.1, I.2.1, I.2.2.1, I.2.2.2.1, f9, 0) tl ac wr tw) H := hP
    have hD : va_D A (rW g ty Y pa kp ks (I.1, I.2.1, I.2.2.1, I.2.2.2.1, f9, 0) tl ac wr tw) := hD
    refine lv_iload_n hx hb dX12_run_31 rfl (lv_at hl 1 rfl) ?_
    refine lv_if_lt (tgt := 42) hx hb dX12_run_32 (by decide) (fun c_1 => ?_) (fun c_1 => ?_)
    · show _
      refine lv_iconst (v := 0) hx hb dX12_run_42 (by decide) ?_
      refine lv_goto (tgt := 54) hx hb dX12_run_43 (by decide) ?_
      refine lv_istore_n (lv' := [(3, .int 0), (0, .ref (g 8)), (1, .int i0), (2, .int m0)]) hx hb dX12_run_54 rfl hl (by decide) rfl (fun ls hl => ?_)
      refine lv_aload_n hx hb dX12_run_55 rfl (lv_at hl 1 rfl) ?_
      refine va_get (D := (dC, dI)) (ci := 14) (v := .ref (g 14)) (C := RX12) (T := TX12) (N := 21) hx hb hg inG12 hown hK hP 0 rfl rfl 17 (by decide) (hg _ wF_X12_49) (fun _ h9 => h9) rfl dX12_run_56 ?_
      refine lv_iconst (v := 4) hx hb dX12_run_59 (by decide) ?_
      refine lv_aload_n hx hb dX12_run_60 rfl (lv_at hl 1 rfl) ?_
      refine va_get (D := (dC, dI)) (ci := 14) (v := .int f9) (C := RX12) (T := TX12) (N := 21) hx hb hg inG12 hown hK hP 0 rfl rfl 14 (by decide) (hg _ wF_X12_165) (fun _ h9 => h9) rfl dX12_run_61 ?_
      refine va_iast hx hb hK hP hD hS 12 0 rfl rfl (by exact i32_in (by decide) (by decide)) dX12_run_64 (fun H locs hP hD hS => ?_)
      have hP : va_P (dC, dI) vwCl (rW g ty Y pa kp ks (I.1, I.2.1, I.2.2.1, I.2.2.2.1, f9, 0) (upd tl 4 f9) ac wr tw) H := hP
      have hD : va_D A (rW g ty Y pa kp ks (I.1, I.2.1, I.2.2.1, I.2.2.2.1, f9, 0) (upd tl 4 f9) ac wr tw) := hD
      refine lv_iload_n hx hb dX12_run_65 rfl (lv_at hl 0 rfl) ?_
      refine lv_iconst (v := 3) hx hb dX12_run_66 (by decide) ?_
      refine lv_icmp_ne (tgt := 92) hx hb dX12_run_67 (by decide) (fun _ => ?_) (fun c9 => absurd c9 (by decide)) 
      refine lv_iload_n hx hb dX12_run_92 rfl (lv_at hl 0 rfl) ?_
      refine lv_iconst (v := 2) hx hb dX12_run_93 (by decide) ?_
      refine lv_icmp_ne (tgt := 101) hx hb dX12_run_94 (by decide) (fun _ => ?_) (fun c9 => absurd c9 (by decide)) 
      refine lv_iconst (v := 0) hx hb dX12_run_101 (by decide) ?_
      refine W.bound (fun gb1 gb2 => ?_)
      have gb1 : H.size ≤ s.heap.size + (0) := gb1
      have gb2 : hsum H ≤ hsum s.heap + (0) := gb2
      refine W.widen (k := 96000 - Y.2.2.2.2.2.2.2.1) (n := 10 * (96000 - Y.2.2.2.2.2.2.2.1) + 2 * (1542237 - Y.2.2.2.2.2.2.2.2.1)) (by show 0 ≤ 96000 - Y.2.2.2.2.2.2.2.1; omega) (by show 0 ≤ 10 * (96000 - Y.2.2.2.2.2.2.2.1) + 2 * (1542237 - Y.2.2.2.2.2.2.2.2.1); omega) ?_
      refine gr_i (wo := fun u : rY × (Nat → Int32) × (Nat → Int32) × rI × (Nat → Int32) × Int64 × Int32 × Int32 => rW g ty u.1 u.2.1 u.2.2.1 ks u.2.2.2.1 u.2.2.2.2.1 u.2.2.2.2.2.1 u.2.2.2.2.2.2.1 u.2.2.2.2.2.2.2) ((Y, pa, kp, (I.1, I.2.1, I.2.2.1, I.2.2.2.1, f9, 0), (upd tl 4 f9), ac, wr, tw)) hx hb hr hlk hS hP hD (by show H.size ≤ sz + (Y.2.2.2.2.2.2.2.1 - Y.2.2.2.2.2.2.2.1); rw [← hsz]; omega) (by show hsum H ≤ tot + (10 * (Y.2.2.2.2.2.2.2.1 - Y.2.2.2.2.2.2.2.1) + 2 * (Y.2.2.2.2.2.2.2.2.1 - Y.2.2.2.2.2.2.2.2.1)); rw [← htot]; omega) ?_ dX12_run_102
      exact ⟨0, Y, pa, kp, (I.1, I.2.1, I.2.2.1, I.2.2.2.1, f9, 0), (upd tl 4 f9), ac, wr, tw, rfl, rfl, (by exact rn_no pre0 pre1 hf9.1 (Or.inl c_1)), (by first | exact ⟨⟨Nat.le_refl _, Nat.le_refl _⟩, bt_L pre0⟩ | assumption)⟩
    · show _
      refine lv_iload_n hx hb dX12_run_35 rfl (lv_at hl 1 rfl) ?_
      refine lv_sipush (v := 255) hx hb dX12_run_36 (by decide) ?_
      refine lv_icmp_le (tgt := 46) hx hb dX12_run_39 (by decide) (fun c_2 => ?_) (fun c_2 => ?_)
      · show _
        obtain ⟨hbi, hze, hzd⟩ := rn_in pre0 pre1 hf9 c_1 c_2
        refine lv_aload_n hx hb dX12_run_46 rfl (lv_at hl 0 rfl) ?_
        refine lv_iload_n hx hb dX12_run_47 rfl (lv_at hl 1 rfl) ?_
        refine lv_sipush (v := 256) hx hb dX12_run_48 (by decide) ?_
        refine gV_i (C := RX12) (n := 2) (rest := []) hx hb hml hown hg hT (c_X12_block 200 l dC dI g ty H.size (hsum H) Y pa kp ks (I.1, I.2.1, I.2.2.1, I.2.2.2.1, f9, 0) tl ac wr tw (zSt Z i0 m0) F i0 256 (by exact hbi) (by exact hze) (by exact pre2) (by exact pre3) (by exact hf9.2.2) (by show (zSt Z i0 m0).2.2.2.2.2.2.2.2.2.2.2.toNatClampNeg + f9.toNatClampNeg ≤ 200; rw [hzd]; have h9 := hf9.2.2; have e9 : (0 : Int32).toNatClampNeg = 0 := (by decide); omega) (by exact pre4)) (cv_of hg wM_X12_168 wN_X12_block wL_X12_X12_block wK_X12_block wI_X12 (by decide +kernel) ⟨by show 5 + 200 + 1 ≤ 206; omega, by show 8 + (10 + 11) + (133 + 29 * 200) ≤ 5962; omega⟩) hK hP hD hS hA (va_recv hK hP (ci := 14) (q0 := 0) rfl rfl) rfl hl.1 rfl (Nat.le_of_ble_eq_true rfl) dX12_run_51 ⟨by show 0 + (96000 - Y.2.2.2.2.2.2.2.1) ≤ 96000 - Y.2.2.2.2.2.2.2.1; omega, by show 0 + (10 * (96000 - Y.2.2.2.2.2.2.2.1) + 2 * (1542237 - Y.2.2.2.2.2.2.2.2.1)) ≤ 10 * (96000 - Y.2.2.2.2.2.2.2.1) + 2 * (1542237 - Y.2.2.2.2.2.2.2.2.1); omega⟩ (fun r_4 u_5 H locs q_3 hP hD hS => ?_)
        obtain ⟨r'_6, Y'_7, pa'_8, kp'_9, I'_10, tl'_11, ac'_12, wr'_13, tw'_14, rfl, rfl, f_15, f_16, f_17⟩ := q_3
        have hP : va_P (dC, dI) vwCl (rW g ty Y'_7 pa'_8 kp'_9 ks I'_10 tl'_11 ac'_12 wr'_13 tw'_14) H := hP
        have hD : va_D A (rW g ty Y'_7 pa'_8 kp'_9 ks I'_10 tl'_11 ac'_12 wr'_13 tw'_14) := hD
        refine lv_istore_n (lv' := [(3, .int r'_6), (0, .ref (g 8)), (1, .int i0), (2, .int m0)]) hx hb dX12_run_54 rfl hl (by decide) rfl (fun ls hl => ?_)
        refine lv_aload_n hx hb dX12_run_55 rfl (lv_at hl 1 rfl) ?_
        refine va_get (D := (dC, dI)) (ci := 14) (v := .ref (g 14)) (C := RX12) (T := TX12) (N := 21) hx hb hg inG12 hown hK hP 0 rfl rfl 17 (by decide) (hg _ wF_X12_49) (fun _ h9 => h9) rfl dX12_run_56 ?_
        refine lv_iconst (v := 4) hx hb dX12_run_59 (by decide) ?_
        refine lv_aload_n hx hb dX12_run_60 rfl (lv_at hl 1 rfl) ?_
        refine va_get (D := (dC, dI)) (ci := 14) (v := .int I'_10.2.2.2.2.1) (C := RX12) (T := TX12) (N := 21) hx hb hg inG12 hown hK hP 0 rfl rfl 14 (by decide) (hg _ wF_X12_165) (fun _ h9 => h9) rfl dX12_run_61 ?_
        refine va_iast hx hb hK hP hD hS 12 0 rfl rfl (by exact i32_in (by decide) (by decide)) dX12_run_64 (fun H locs hP hD hS => ?_)
        have hP : va_P (dC, dI) vwCl (rW g ty Y'_7 pa'_8 kp'_9 ks I'_10 (upd tl'_11 4 I'_10.2.2.2.2.1) ac'_12 wr'_13 tw'_14) H := hP
        have hD : va_D A (rW g ty Y'_7 pa'_8 kp'_9 ks I'_10 (upd tl'_11 4 I'_10.2.2.2.2.1) ac'_12 wr'_13 tw'_14) := hD
        refine lv_iload_n hx hb dX12_run_65 rfl (lv_at hl 0 rfl) ?_
        refine lv_iconst (v := 3) hx hb dX12_run_66 (by decide) ?_
        refine lv_icmp_ne (tgt := 92) hx hb dX12_run_67 (by decide) (fun c_18 => ?_) (fun c_18 => ?_)
        · show _
          refine lv_iload_n hx hb dX12_run_92 rfl (lv_at hl 0 rfl) ?_
          refine lv_iconst (v := 2) hx hb dX12_run_93 (by decide) ?_
          refine lv_icmp_ne (tgt := 101) hx hb dX12_run_94 (by decide) (fun c_19 => ?_) (fun c_19 => ?_)
          · show _
            refine lv_iconst (v := 0) hx hb dX12_run_101 (by decide) ?_
            refine W.bound (fun gb1 gb2 => ?_)
            have gb1 : H.size ≤ s.heap.size + (0 + (Y'_7.2.2.2.2.2.2.2.1 - Y.2.2.2.2.2.2.2.1)) := gb1
            have gb2 : hsum H ≤ hsum s.heap + (0 + (10 * (Y'_7.2.2.2.2.2.2.2.1 - Y.2.2.2.2.2.2.2.1) + 2 * (Y'_7.2.2.2.2.2.2.2.2.1 - Y.2.2.2.2.2.2.2.2.1))) := gb2
            refine W.widen (k := 96000 - Y.2.2.2.2.2.2.2.1) (n := 10 * (96000 - Y.2.2.2.2.2.2.2.1) + 2 * (1542237 - Y.2.2.2.2.2.2.2.2.1)) (by show 0 + (Y'_7.2.2.2.2.2.2.2.1 - Y.2.2.2.2.2.2.2.1) ≤ 96000 - Y.2.2.2.2.2.2.2.1; omega) (by show 0 + (10 * (Y'_7.2.2.2.2.2.2.2.1 - Y.2.2.2.2.2.2.2.1) + 2 * (Y'_7.2.2.2.2.2.2.2.2.1 - Y.2.2.2.2.2.2.2.2.1)) ≤ 10 * (96000 - Y.2.2.2.2.2.2.2.1) + 2 * (1542237 - Y.2.2.2.2.2.2.2.2.1); omega) ?_
            refine gr_i (wo := fun u : rY × (Nat → Int32) × (Nat → Int32) × rI × (Nat → Int32) × Int64 × Int32 × Int32 => rW g ty u.1 u.2.1 u.2.2.1 ks u.2.2.2.1 u.2.2.2.2.1 u.2.2.2.2.2.1 u.2.2.2.2.2.2.1 u.2.2.2.2.2.2.2) ((Y'_7, pa'_8, kp'_9, I'_10, (upd tl'_11 4 I'_10.2.2.2.2.1), ac'_12, wr'_13, tw'_14)) hx hb hr hlk hS hP hD (by show H.size ≤ sz + (Y'_7.2.2.2.2.2.2.2.1 - Y.2.2.2.2.2.2.2.1); rw [← hsz]; omega) (by show hsum H ≤ tot + (10 * (Y'_7.2.2.2.2.2.2.2.1 - Y.2.2.2.2.2.2.2.1) + 2 * (Y'_7.2.2.2.2.2.2.2.2.1 - Y.2.2.2.2.2.2.2.2.1)); rw [← htot]; omega) ?_ dX12_run_102
            exact ⟨0, Y'_7, pa'_8, kp'_9, I'_10, (upd tl'_11 4 I'_10.2.2.2.2.1), ac'_12, wr'_13, tw'_14, rfl, rfl, (by exact rn_1 f_15 hzd c_19 c_18 f_17), (by first | exact ⟨⟨Nat.le_refl _, Nat.le_refl _⟩, bt_L pre0⟩ | assumption)⟩
          · show _
            refine lv_iconst (v := 1) hx hb dX12_run_97 (by decide) ?_
            refine lv_goto (tgt := 102) hx hb dX12_run_98 (by decide) ?_
            refine W.bound (fun gb1 gb2 => ?_)
            have gb1 : H.size ≤ s.heap.size + (0 + (Y'_7.2.2.2.2.2.2.2.1 - Y.2.2.2.2.2.2.2.1)) := gb1
            have gb2 : hsum H ≤ hsum s.heap + (0 + (10 * (Y'_7.2.2.2.2.2.2.2.1 - Y.2.2.2.2.2.2.2.1) + 2 * (Y'_7.2.2.2.2.2.2.2.2.1 - Y.2.2.2.2.2.2.2.2.1))) := gb2
            refine W.widen (k := 96000 - Y.2.2.2.2.2.2.2.1) (n := 10 * (96000 - Y.2.2.2.2.2.2.2.1) + 2 * (1542237 - Y.2.2.2.2.2.2.2.2.1)) (by show 0 + (Y'_7.2.2.2.2.2.2.2.1 - Y.2.2.2.2.2.2.2.1) ≤ 96000 - Y.2.2.2.2.2.2.2.1; omega) (by show 0 + (10 * (Y'_7.2.2.2.2.2.2.2.1 - Y.2.2.2.2.2.2.2.1) + 2 * (Y'_7.2.2.2.2.2.2.2.2.1 - Y.2.2.2.2.2.2.2.2.1)) ≤ 10 * (96000 - Y.2.2.2.2.2.2.2.1) + 2 * (1542237 - Y.2.2.2.2.2.2.2.2.1); omega) ?_
            refine gr_i (wo := fun u : rY × (Nat → Int32) × (Nat → Int32) × rI × (Nat → Int32) × Int64 × Int32 × Int32 => rW g ty u.1 u.2.1 u.2.2.1 ks u.2.2.2.1 u.2.2.2.2.1 u.2.2.2.2.2.1 u.2.2.2.2.2.2.1 u.2.2.2.2.2.2.2) ((Y'_7, pa'_8, kp'_9, I'_10, (upd tl'_11 4 I'_10.2.2.2.2.1), ac'_12, wr'_13, tw'_14)) hx hb hr hlk hS hP hD (by show H.size ≤ sz + (Y'_7.2.2.2.2.2.2.2.1 - Y.2.2.2.2.2.2.2.1); rw [← hsz]; omega) (by show hsum H ≤ tot + (10 * (Y'_7.2.2.2.2.2.2.2.1 - Y.2.2.2.2.2.2.2.1) + 2 * (Y'_7.2.2.2.2.2.2.2.2.1 - Y.2.2.2.2.2.2.2.2.1)); rw [← htot]; omega) ?_ dX12_run_102
            exact ⟨1, Y'_7, pa'_8, kp'_9, I'_10, (upd tl'_11 4 I'_10.2.2.2.2.1), ac'_12, wr'_13, tw'_14, rfl, rfl, (by exact rn_2 f_15 hzd c_19 f_17), (by first | exact ⟨⟨Nat.le_refl _, Nat.le_refl _⟩, bt_L pre0⟩ | assumption)⟩
        · show _
          refine lv_aload_n hx hb dX12_run_70 rfl (lv_at hl 1 rfl) ?_
          refine va_get (D := (dC, dI)) (ci := 14) (v := .ref (g 14)) (C := RX12) (T := TX12) (N := 21) hx hb hg inG12 hown hK hP 0 rfl rfl 17 (by decide) (hg _ wF_X12_49) (fun _ h9 => h9) rfl dX12_run_71 ?_
          refine lv_iconst (v := 3) hx hb dX12_run_74 (by decide) ?_
          refine lv_dup2_11 hx hb dX12_run_75 rfl rfl ?_
          refine va_iald hx hb hK hP 12 0 rfl rfl (by exact i32_in (by decide) (by decide)) dX12_run_76 ?_
          refine lv_iconst (v := 1) hx hb dX12_run_77 (by decide) ?_
          refine lv_iadd hx hb dX12_run_78 ?_
          refine va_iast hx hb hK hP hD hS 12 0 rfl rfl (by exact i32_in (by decide) (by decide)) dX12_run_79 (fun H locs hP hD hS => ?_)
          have hP : va_P (dC, dI) vwCl (rW g ty Y'_7 pa'_8 kp'_9 ks I'_10 (upd (upd tl'_11 4 I'_10.2.2.2.2.1) 3 (((upd tl'_11 4 I'_10.2.2.2.2.1) 3) + 1)) ac'_12 wr'_13 tw'_14) H := hP
          have hD : va_D A (rW g ty Y'_7 pa'_8 kp'_9 ks I'_10 (upd (upd tl'_11 4 I'_10.2.2.2.2.1) 3 (((upd tl'_11 4 I'_10.2.2.2.2.1) 3) + 1)) ac'_12 wr'_13 tw'_14) := hD
          refine lv_aload_n hx hb dX12_run_80 rfl (lv_at hl 1 rfl) ?_
          refine lv_aload_n hx hb dX12_run_81 rfl (lv_at hl 1 rfl) ?_
          refine va_get (D := (dC, dI)) (ci := 14) (v := .int wr'_13) (C := RX12) (T := TX12) (N := 21) hx hb hg inG12 hown hK hP 0 rfl rfl 16 (by decide) (hg _ wF_X12_76) (fun _ h9 => h9) rfl dX12_run_82 ?_
          refine lv_iconst (v := 1) hx hb dX12_run_85 (by decide) ?_
          refine lv_iadd hx hb dX12_run_86 ?_
          refine va_put (D := (dC, dI)) (ci := 14) (v := .int (wr'_13 + 1)) (ty := .int) (C := RX12) (T := TX12) (N := 21) hx hb hg inG12 tyX12 tyX12_ok nmX12 hown hK hP hD hS 0 rfl rfl 15 (by decide) (hg _ wF_X12_55) (fun _ h9 => h9) rfl (by decide +kernel) rfl rfl (Nat.le_of_ble_eq_true rfl) dX12_run_87 (fun H locs hP hD hS => ?_)
          have hP : va_P (dC, dI) vwCl (rW g ty Y'_7 pa'_8 kp'_9 ks (I'_10.1, I'_10.2.1, I'_10.2.2.1, I'_10.2.2.2.1, I'_10.2.2.2.2.1, (wr'_13 + 1)) (upd (upd tl'_11 4 I'_10.2.2.2.2.1) 3 (((upd tl'_11 4 I'_10.2.2.2.2.1) 3) + 1)) ac'_12 wr'_13 tw'_14) H := hP
          have hD : va_D A (rW g ty Y'_7 pa'_8 kp'_9 ks (I'_10.1, I'_10.2.1, I'_10.2.2.1, I'_10.2.2.2.1, I'_10.2.2.2.2.1, (wr'_13 + 1)) (upd (upd tl'_11 4 I'_10.2.2.2.2.1) 3 (((upd tl'_11 4 I'_10.2.2.2.2.1) 3) + 1)) ac'_12 wr'_13 tw'_14) := hD
          refine lv_iconst (v := 0) hx hb dX12_run_90 (by decide) ?_
          refine W.bound (fun gb1 gb2 => ?_)
          have gb1 : H.size ≤ s.heap.size + (0 + (Y'_7.2.2.2.2.2.2.2.1 - Y.2.2.2.2.2.2.2.1)) := gb1
          have gb2 : hsum H ≤ hsum s.heap + (0 + (10 * (Y'_7.2.2.2.2.2.2.2.1 - Y.2.2.2.2.2.2.2.1) + 2 * (Y'_7.2.2.2.2.2.2.2.2.1 - Y.2.2.2.2.2.2.2.2.1))) := gb2
          refine W.widen (k := 96000 - Y.2.2.2.2.2.2.2.1) (n := 10 * (96000 - Y.2.2.2.2.2.2.2.1) + 2 * (1542237 - Y.2.2.2.2.2.2.2.2.1)) (by show 0 + (Y'_7.2.2.2.2.2.2.2.1 - Y.2.2.2.2.2.2.2.1) ≤ 96000 - Y.2.2.2.2.2.2.2.1; omega) (by show 0 + (10 * (Y'_7.2.2.2.2.2.2.2.1 - Y.2.2.2.2.2.2.2.1) + 2 * (Y'_7.2.2.2.2.2.2.2.2.1 - Y.2.2.2.2.2.2.2.2.1)) ≤ 10 * (96000 - Y.2.2.2.2.2.2.2.1) + 2 * (1542237 - Y.2.2.2.2.2.2.2.2.1); omega) ?_
          refine gr_i (wo := fun u : rY × (Nat → Int32) × (Nat → Int32) × rI × (Nat → Int32) × Int64 × Int32 × Int32 => rW g ty u.1 u.2.1 u.2.2.1 ks u.2.2.2.1 u.2.2.2.2.1 u.2.2.2.2.2.1 u.2.2.2.2.2.2.1 u.2.2.2.2.2.2.2) ((Y'_7, pa'_8, kp'_9, (I'_10.1, I'_10.2.1, I'_10.2.2.1, I'_10.2.2.2.1, I'_10.2.2.2.2.1, (wr'_13 + 1)), (upd (upd tl'_11 4 I'_10.2.2.2.2.1) 3 (((upd tl'_11 4 I'_10.2.2.2.2.1) 3) + 1)), ac'_12, wr'_13, tw'_14)) hx hb hr hlk hS hP hD (by show H.size ≤ sz + (Y'_7.2.2.2.2.2.2.2.1 - Y.2.2.2.2.2.2.2.1); rw [← hsz]; omega) (by show hsum H ≤ tot + (10 * (Y'_7.2.2.2.2.2.2.2.1 - Y.2.2.2.2.2.2.2.1) + 2 * (Y'_7.2.2.2.2.2.2.2.2.1 - Y.2.2.2.2.2.2.2.2.1)); rw [← htot]; omega) ?_ dX12_run_91
          exact ⟨0, Y'_7, pa'_8, kp'_9, (I'_10.1, I'_10.2.1, I'_10.2.2.1, I'_10.2.2.2.1, I'_10.2.2.2.2.1, (wr'_13 + 1)), (upd (upd tl'_11 4 I'_10.2.2.2.2.1) 3 (((upd tl'_11 4 I'_10.2.2.2.2.1) 3) + 1)), ac'_12, wr'_13, tw'_14, rfl, rfl, (by exact rn_3 f_15 hzd c_18), (by first | exact ⟨⟨Nat.le_refl _, Nat.le_refl _⟩, bt_L pre0⟩ | assumption)⟩
      · show _
        refine lv_iconst (v := 0) hx hb dX12_run_42 (by decide) ?_
        refine lv_goto (tgt := 54) hx hb dX12_run_43 (by decide) ?_
        refine lv_istore_n (lv' := [(3, .int 0), (0, .ref (g 8)), (1, .int i0), (2, .int m0)]) hx hb dX12_run_54 rfl hl (by decide) rfl (fun ls hl => ?_)
        refine lv_aload_n hx hb dX12_run_55 rfl (lv_at hl 1 rfl) ?_
        refine va_get (D := (dC, dI)) (ci := 14) (v := .ref (g 14)) (C := RX12) (T := TX12) (N := 21) hx hb hg inG12 hown hK hP 0 rfl rfl 17 (by decide) (hg _ wF_X12_49) (fun _ h9 => h9) rfl dX12_run_56 ?_
        refine lv_iconst (v := 4) hx hb dX12_run_59 (by decide) ?_
        refine lv_aload_n hx hb dX12_run_60 rfl (lv_at hl 1 rfl) ?_
        refine va_get (D := (dC, dI)) (ci := 14) (v := .int f9) (C := RX12) (T := TX12) (N := 21) hx hb hg inG12 hown hK hP 0 rfl rfl 14 (by decide) (hg _ wF_X12_165) (fun _ h9 => h9) rfl dX12_run_61 ?_
        refine va_iast hx hb hK hP hD hS 12 0 rfl rfl (by exact i32_in (by decide) (by decide)) dX12_run_64 (fun H locs hP hD hS => ?_)
        have hP : va_P (dC, dI) vwCl (rW g ty Y pa kp ks (I.1, I.2.1, I.2.2.1, I.2.2.2.1, f9, 0) (upd tl 4 f9) ac wr tw) H := hP
        have hD : va_D A (rW g ty Y pa kp ks (I.1, I.2.1, I.2.2.1, I.2.2.2.1, f9, 0) (upd tl 4 f9) ac wr tw) := hD
        refine lv_iload_n hx hb dX12_run_65 rfl (lv_at hl 0 rfl) ?_
        refine lv_iconst (v := 3) hx hb dX12_run_66 (by decide) ?_
        refine lv_icmp_ne (tgt := 92) hx hb dX12_run_67 (by decide) (fun _ => ?_) (fun c9 => absurd c9 (by decide)) 
        refine lv_iload_n hx hb dX12_run_92 rfl (lv_at hl 0 rfl) ?_
        refine lv_iconst (v := 2) hx hb dX12_run_93 (by decide) ?_
        refine lv_icmp_ne (tgt := 101) hx hb dX12_run_94 (by decide) (fun _ => ?_) (fun c9 => absurd c9 (by decide)) 
        refine lv_iconst (v := 0) hx hb dX12_run_101 (by decide) ?_
        refine W.bound (fun gb1 gb2 => ?_)
        have gb1 : H.size ≤ s.heap.size + (0) := gb1
        have gb2 : hsum H ≤ hsum s.heap + (0) := gb2
        refine W.widen (k := 96000 - Y.2.2.2.2.2.2.2.1) (n := 10 * (96000 - Y.2.2.2.2.2.2.2.1) + 2 * (1542237 - Y.2.2.2.2.2.2.2.2.1)) (by show 0 ≤ 96000 - Y.2.2.2.2.2.2.2.1; omega) (by show 0 ≤ 10 * (96000 - Y.2.2.2.2.2.2.2.1) + 2 * (1542237 - Y.2.2.2.2.2.2.2.2.1); omega) ?_
        refine gr_i (wo := fun u : rY × (Nat → Int32) × (Nat → Int32) × rI × (Nat → Int32) × Int64 × Int32 × Int32 => rW g ty u.1 u.2.1 u.2.2.1 ks u.2.2.2.1 u.2.2.2.2.1 u.2.2.2.2.2.1 u.2.2.2.2.2.2.1 u.2.2.2.2.2.2.2) ((Y, pa, kp, (I.1, I.2.1, I.2.2.1, I.2.2.2.1, f9, 0), (upd tl 4 f9), ac, wr, tw)) hx hb hr hlk hS hP hD (by show H.size ≤ sz + (Y.2.2.2.2.2.2.2.1 - Y.2.2.2.2.2.2.2.1); rw [← hsz]; omega) (by show hsum H ≤ tot + (10 * (Y.2.2.2.2.2.2.2.1 - Y.2.2.2.2.2.2.2.1) + 2 * (Y.2.2.2.2.2.2.2.2.1 - Y.2.2.2.2.2.2.2.2.1)); rw [← htot]; omega) ?_ dX12_run_102
        exact ⟨0, Y, pa, kp, (I.1, I.2.1, I.2.2.1, I.2.2.2.1, f9, 0), (upd tl 4 f9), ac, wr, tw, rfl, rfl, (by exact rn_no pre0 pre1 hf9.1 (Or.inr c_2)), (by first | exact ⟨⟨Nat.le_refl _, Nat.le_refl _⟩, bt_L pre0⟩ | assumption)⟩
  refine lv_aload_n hx hb dX12_run_5 rfl (lv_at hl 0 rfl) ?_
  refine lv_iload_n hx hb dX12_run_6 rfl (lv_at hl 2 rfl) ?_
  refine lv_if_ge (tgt := 14) hx hb dX12_run_7 (by decide) (fun c_20 => ?_) (fun c_20 => ?_)
  · show _
    refine lv_iload_n hx hb dX12_run_14 rfl (lv_at hl 2 rfl) ?_
    refine lv_sipush (v := 200) hx hb dX12_run_15 (by decide) ?_
    refine lv_icmp_le (tgt := 27) hx hb dX12_run_18 (by decide) (fun c_21 => ?_) (fun c_21 => ?_)
    · show _
      refine lv_iload_n hx hb dX12_run_27 rfl (lv_at hl 2 rfl) ?_
      exact J28 _ _ (fu_of (by first | exact Or.inl ⟨by assumption, rfl⟩ | exact Or.inr (Or.inl ⟨by assumption, by assumption, rfl⟩) | exact Or.inr (Or.inr ⟨by assumption, by assumption, rfl⟩))) hl
    · show _
      refine lv_sipush (v := 200) hx hb dX12_run_21 (by decide) ?_
      refine lv_goto (tgt := 28) hx hb dX12_run_24 (by decide) ?_
      exact J28 _ _ (fu_of (by first | exact Or.inl ⟨by assumption, rfl⟩ | exact Or.inr (Or.inl ⟨by assumption, by assumption, rfl⟩) | exact Or.inr (Or.inr ⟨by assumption, by assumption, rfl⟩))) hl
  · show _
    refine lv_iconst (v := 0) hx hb dX12_run_10 (by decide) ?_
    refine lv_goto (tgt := 28) hx hb dX12_run_11 (by decide) ?_
    exact J28 _ _ (fu_of (by first | exact Or.inl ⟨by assumption, rfl⟩ | exact Or.inr (Or.inl ⟨by assumption, by assumption, rfl⟩) | exact Or.inr (Or.inr ⟨by assumption, by assumption, rfl⟩))) hl

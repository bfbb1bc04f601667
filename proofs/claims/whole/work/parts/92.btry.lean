/-! ===== blocks within a block ===== -/
section BTry
variable {Z Zo : cZ} {e fm nx to t c : Int32} {F : ((Nat → Option Nat) × Int64 × Int32 × Int32 × cZ × cQ)} {Y : rY} {pa : Nat → Int32} {I : rI} {tl tl2 : Nat → Int32} {ac : Int64} {k wr r : Int32}
theorem ht_5 (hT : (c = 6 ∧ tl2 = upd tl 2 (tl 2 + 1)) ∨ (¬ c = 6 ∧ tl2 = tl)) : tl2 5 = tl 5 ∧ tl2 0 = tl 0 ∧ tl2 1 = tl 1 ∧ tl2 3 = tl 3 ∧ tl2 2 = (if c = 6 then tl 2 + 1 else tl 2) := by
  rcases hT with ⟨h, rfl⟩ | ⟨h, rfl⟩
  · exact ⟨rfl, rfl, rfl, rfl, by rw [if_pos h]; rfl⟩
  · exact ⟨rfl, rfl, rfl, rfl, by rw [if_neg h]⟩
/-- a block is left -/
theorem bi_close (up : bUp Z Zo nx to t c) (h : bInv Zo to fm F Y pa I tl ac to) (ht : ¬ 1 < t) (hte : to ≤ e) (hT : (c = 6 ∧ tl2 = upd tl 2 (tl 2 + 1)) ∨ (¬ c = 6 ∧ tl2 = tl)) : bInv Z e fm F Y pa I (upd tl2 0 (tl2 0 + 1)) ac to := by
  obtain ⟨t5, t0, t1, t3, t2⟩ := ht_5 hT
  obtain ⟨pl, P, md, Z1, N, hS, hs, hk, hke, hf, hm⟩ := h
  have u1 := up_s up hs
  have hlv : zLv Z1 = zLv (zClose Z1) := lv_close (up_pos u1) (by rw [up_end u1, hk]; exact Int32.lt_irrefl) (by rw [up_due u1]; exact decide_eq_false ht)
  have hm : mStc N (lvS (pl, ac, -1, md, zClose Z1, P)) F := by
    have e9 : lvS (pl, ac, -1, md, Z1, P) = lvS (pl, ac, -1, md, zClose Z1, P) := by
      show (_, _, _, _, zLv Z1, _) = (_, _, _, _, zLv (zClose Z1), _)
      rw [hlv]
    rw [← e9]
    exact hm
  have ec := up_close u1
  obtain ⟨⟨d1, d2⟩, ⟨d3, d4, d5, d6⟩, d7⟩ := hS.2
  refine ⟨pl, P, md, zClose Z1, N, bs_to hS (by rw [ec]) (by rw [ec]) t5 ⟨?_, ?_, ?_, ?_⟩ (zok_close d7), up_dn u1 (by rw [ec]) (by rw [ec]) ⟨by rw [ec], by rw [ec], by rw [ec], by rw [ec]⟩, by rw [ec]; exact hk, hte, by rw [ec]; exact hf, hm⟩
  · show tl2 0 + 1 = _
    rw [ec, t0, d3]
  · show tl2 1 = _
    rw [ec, t1, d4]
  · show tl2 2 = _
    rw [ec, t2, d5]
  · show tl2 3 = _
    rw [ec, t3, d6]
theorem bt_12 (up : bUp Z Zo nx to t c) (h : bRes Zo to fm F r Y pa I tl ac wr) (hr : ¬ r = 0) (hr3 : ¬ r = 3) (hT : (c = 6 ∧ tl2 = upd tl 2 (tl 2 + 1)) ∨ (¬ c = 6 ∧ tl2 = tl)) : bRes Z e fm F r Y pa I (upd tl2 0 (tl2 0 + 1)) ac wr := by
  obtain ⟨t5, t0, t1, t3, t2⟩ := ht_5 hT
  rcases h with ⟨h, -⟩ | ⟨h, G, hG, g1, g2, ⟨a1, a2, a3, a4, a5⟩, g4, ⟨c0, c1, c2, c3⟩, g6, g7⟩ | ⟨h, -⟩
  · exact absurd h hr
  rotate_left
  · exact absurd h hr3
  refine Or.inr (Or.inl ⟨h, G, hG, g1, g2, ⟨a1, a2, a3, t5.trans a4, a5⟩, g4, ⟨?_, ?_, ?_, ?_⟩, g6, g7⟩)
  · show tl2 0 + 1 + _ = _
    rw [← c0, up.2.1.1, t0, Int32.add_assoc, Int32.add_comm 1]
  · show tl2 1 = _
    rw [t1]; exact c1
  · show tl2 2 + _ = _
    rw [← c2, up_c6 up, t2]
    by_cases h6 : c = 6
    · rw [if_pos h6, if_pos h6, Int32.add_assoc]
      congr 1
      rw [Int32.add_comm]
      exact (Int32.ofNat_add _ 1).symm
    · rw [if_neg h6, if_neg h6]
      rfl
  · show tl2 3 = _
    rw [t3]; exact c3
theorem bt_3n (up : bUp Z Zo nx to t c) (h : bRes Zo to fm F 3 Y pa I tl ac wr) (hn : ∀ f : Nat, f < 7 → wr = nI f → kCa c (nI f) = false) (hT : (c = 6 ∧ tl2 = upd tl 2 (tl 2 + 1)) ∨ (¬ c = 6 ∧ tl2 = tl)) : bRes Z e fm F 3 Y pa I tl2 ac wr := by
  obtain ⟨t5, t0, t1, t3, t2⟩ := ht_5 hT
  rcases h with ⟨h, -⟩ | ⟨h, -⟩ | ⟨-, pl, P, md, Zp, f, N, hf7, hwr, hS, hs, hf, hm⟩
  · exact absurd h (by decide)
  · exact absurd h (by decide)
  have u1 := up_s up hs
  have hp := up_pos u1
  have hn := hn f hf7 hwr
  obtain ⟨⟨d1, d2⟩, ⟨d3, d4, d5, d6⟩, d7⟩ := hS.2
  have key : ∃ Zq : cZ, zUnw Zp.2.2.2.2.2.2.2.2.2.2.2.toNatClampNeg ac (nI f) Zp = zUnw Z.2.2.2.2.2.2.2.2.2.2.2.toNatClampNeg ac (nI f) Zq ∧ Zq = (Zp.1, Zp.2.1, Zp.2.2.1, Zp.2.2.2.1, Zp.2.2.2.2.1, (if c = 6 then Zp.2.2.2.2.2.1 + 1 else Zp.2.2.2.2.2.1), Zp.2.2.2.2.2.2.1, Zp.2.2.2.2.2.2.2.1, Zp.2.2.2.2.2.2.2.2.1, Zp.2.2.2.2.2.2.2.2.2.1, Zp.2.2.2.2.2.2.2.2.2.2.1, Zp.2.2.2.2.2.2.2.2.2.2.2 - 1) ∧ zOk Zq := by
    rw [u1.2.1.2, zUnw_s, up_cat u1, hn, if_neg (by decide)]
    by_cases h6 : c = 6
    · rw [if_pos h6, if_pos h6]
      exact ⟨zDrop (zFin Zp), rfl, if_neg hp, zok_drop (zok_fin d7)⟩
    · rw [if_neg h6, if_neg h6]
      exact ⟨zDrop Zp, rfl, if_neg hp, zok_drop d7⟩
  obtain ⟨Zq, eu, eq, ho⟩ := key
  have hss : sS Z Zq := up_dn u1 (by rw [eq]) (by rw [eq]) ⟨by rw [eq], by rw [eq], by rw [eq], by rw [eq]⟩
  refine Or.inr (Or.inr ⟨rfl, pl, P, md, Zq, f, N, hf7, hwr, bs_to hS (by rw [eq]) (by rw [eq]) t5 ⟨?_, ?_, ?_, ?_⟩ ho, hss, by rw [eq]; exact hf, ?_⟩)
  · rw [eq, t0]; exact d3
  · rw [eq, t1]; exact d4
  · rw [eq, t2, d5]
  · rw [eq, t3]; exact d6
  · rw [hss.2.1, ← eu]
    exact hm
theorem bt_3t (up : bUp Z Zo nx to t c) (h : bRes Zo to fm F 3 Y pa I tl ac wr) (hn : ∀ f : Nat, f < 7 → wr = nI f → kCa c (nI f) = true) (hte : to ≤ e) (hT : (c = 6 ∧ tl2 = upd tl 2 (tl 2 + 1)) ∨ (¬ c = 6 ∧ tl2 = tl)) : bInv Z e fm F Y pa I (upd (upd tl2 1 (tl2 1 + 1)) 0 (upd tl2 1 (tl2 1 + 1) 0 + 1)) (-1 - wr.toInt64) to := by
  obtain ⟨t5, t0, t1, t3, t2⟩ := ht_5 hT
  rcases h with ⟨h, -⟩ | ⟨h, -⟩ | ⟨-, pl, P, md, Zp, f, N, hf7, hwr, hS, hs, hf, hm⟩
  · exact absurd h (by decide)
  · exact absurd h (by decide)
  have u0 := up_s up hs
  have hn := hn f hf7 hwr
  obtain ⟨⟨d1, d2⟩, ⟨d3, d4, d5, d6⟩, d7⟩ := hS.2
  have u1 : bUp Z (zCg (zAt Zp (zEnd Zp))) nx to t c := up_s u0 (sS_to (sS_rf _) rfl rfl ⟨rfl, rfl, rfl, rfl⟩)
  rw [u0.2.1.2, zUnw_s, up_cat u0, hn, if_pos rfl] at hm
  have ec := up_close u1
  refine ⟨pl, P, md, zClose (zCg (zAt Zp (zEnd Zp))), N, bs_to hS (by rw [ec]; rfl) (by rw [ec]; rfl) t5 ⟨?_, ?_, ?_, ?_⟩ (zok_close (zok_dep (zok_at d7 (zok_end d7)) (zok_end d7) rfl rfl (Or.inr rfl))), up_dn u1 (by rw [ec]) (by rw [ec]) ⟨by rw [ec], by rw [ec], by rw [ec], by rw [ec]⟩, by rw [ec]; exact up_end u0, hte, by rw [ec]; exact hf, by rw [hwr]; exact hm⟩
  · show tl2 0 + 1 = _
    rw [ec, t0, d3]; rfl
  · show tl2 1 + 1 = _
    rw [ec, t1, d4]; rfl
  · show tl2 2 = _
    rw [ec, t2, d5]; rfl
  · show tl2 3 = _
    rw [ec, t3, d6]; rfl
/-- the catching of a TRY, as both sides tell it -/
theorem tk_0 {b wr : Int32} (h : rTk (b &&& 7) wr = 0) : ∀ f : Nat, f < 7 → wr = nI f → kCa (b &&& 7) (nI f) = false := by
  intro f hf hw
  obtain ⟨j, hj, e⟩ := and7 b
  rw [hw, e] at h
  rw [e]
  exact (tk_ca ⟨j, hj⟩ ⟨f, hf⟩).2.1 h
theorem tk_01 : ∀ c : Fin 8, ∀ f : Fin 7, ¬ rTk (nI c.1) (nI f.1) = 0 → kCa (nI c.1) (nI f.1) = true := by decide +kernel
theorem tk_1 {b wr : Int32} (h : ¬ rTk (b &&& 7) wr = 0) : ∀ f : Nat, f < 7 → wr = nI f → kCa (b &&& 7) (nI f) = true := by
  intro f hf hw
  obtain ⟨j, hj, e⟩ := and7 b
  rw [hw, e] at h
  rw [e]
  exact tk_01 ⟨j, hj⟩ ⟨f, hf⟩ h
/-- a REPEAT of the reference, before its turn n -/
def bLp (Z : cZ) (e fm : Int32) (F : ((Nat → Option Nat) × Int64 × Int32 × Int32 × cZ × cQ)) (nx to b n r : Int32) (Y : rY) (pa : Nat → Int32) (I : rI) (tl : Nat → Int32) (ac : Int64) (wr : Int32) : Prop :=
  (r = 0 ∧ (¬ to ≤ nx ∧ ¬ b ≤ n) ∧ 0 ≤ n ∧ ∃ Zo : cZ, bUp Z Zo nx to (b - n) 8 ∧ bInv Zo to fm F Y pa I tl ac nx) ∨
  (r = 0 ∧ (to ≤ nx ∨ b ≤ n) ∧ bInv Z e fm F Y pa I (upd tl 0 (tl 0 + 1)) ac to) ∨
  (r = 3 ∧ bRes Z e fm F 3 Y pa I tl ac wr) ∨
  ((¬ r = 0 ∧ ¬ r = 3) ∧ bRes Z e fm F r Y pa I (upd tl 0 (tl 0 + 1)) ac wr)
theorem bg_rep (h : bGo Z e fm F Y pa I tl ac k) (he : zEnd Z = e) (hd : Z.2.2.2.2.2.2.2.2.2.2.2.toNatClampNeg < 200) (hw : I.1 k.toNatClampNeg = 44) (ht : to = rTo e (k + 1) (I.2.1 k.toNatClampNeg)) : bLp Z e fm F (k + 1) to (I.2.2.1 k.toNatClampNeg) 0 0 Y pa I tl ac wr := by
  obtain ⟨t1, t2, t3, t4⟩ := bg_tob h he ht
  obtain ⟨⟨n1, n2⟩, -⟩ := bg_nx h he
  by_cases hx : to ≤ k + 1 ∨ I.2.2.1 k.toNatClampNeg ≤ 0
  · refine Or.inr (Or.inl ⟨rfl, hx, ?_⟩)
    refine bg_dn h (fun Z2 hs ha _ => ?_) (by rw [hw]; decide) ⟨⟨t3, t4⟩, t2⟩
    rw [hw, ctl_44]
    unfold zRep
    rw [zEn_to ((sS_end hs).trans he) ha, ha, ← ht]
    by_cases h1 : to ≤ k + 1
    · rw [if_pos h1]; rfl
    · rw [if_neg h1, if_pos (hx.resolve_left h1)]; rfl
  · have hx1 : ¬ to ≤ k + 1 := fun q => hx (Or.inl q)
    have hx2 : ¬ I.2.2.1 k.toNatClampNeg ≤ 0 := fun q => hx (Or.inr q)
    refine Or.inl ⟨rfl, ⟨hx1, hx2⟩, by decide, ?_⟩
    obtain ⟨pl, P, md, Z2, N, X, hS, hs, hk, hke, hf, hm, hX⟩ := h
    rw [hw] at hX
    rcases hX with ⟨rfl, -⟩ | ⟨_, _, hx, _⟩
    rotate_left
    · exact absurd hx (by decide)
    have er : zRep Z2 (I.2.1 k.toNatClampNeg) (I.2.2.1 k.toNatClampNeg) = zOpen Z2 (k + 1) to (I.2.2.1 k.toNatClampNeg) 8 := by
      unfold zRep
      rw [zEn_to ((sS_end hs).trans he) hk, hk, ← ht, if_neg hx1, if_neg hx2]
    rw [ctl_44, er] at hm
    obtain ⟨u1, u2⟩ := up_open (nx := k + 1) (to := to) (t := I.2.2.1 k.toNatClampNeg) (c := 8) hs hS.2.2.2 hd
    obtain ⟨⟨d1, d2⟩, ⟨d3, d4, d5, d6⟩, d7⟩ := hS.2
    have ho := zok_open (t := I.2.2.1 k.toNatClampNeg) (k := 8) d7 ⟨n1, n2⟩ ⟨t3, t4⟩
    refine ⟨_, ?_, pl, P, md, _, N, bs_to hS ?_ ?_ rfl ⟨?_, ?_, ?_, ?_⟩ ho, sS_rf _, ?_, t1, ?_, hm⟩
    · rw [Int32.sub_zero]; exact u1
    · rw [u2]
    · rw [u2]
    · rw [u2]; exact d3
    · rw [u2]; exact d4
    · rw [u2]; exact d5
    · rw [u2]; exact d6
    · rw [u2]; exact hk
    · rw [u2]; exact hf
end BTry
section BRep
variable {Z Zo : cZ} {e fm nx to t c : Int32} {F : ((Nat → Option Nat) × Int64 × Int32 × Int32 × cZ × cQ)} {Y : rY} {pa : Nat → Int32} {I : rI} {tl tl2 : Nat → Int32} {ac : Int64} {k wr r : Int32}
variable {b n b' : Int32} {Y' : rY} {pa' : Nat → Int32} {I' : rI} {tl' : Nat → Int32} {ac' : Int64} {wr' r' : Int32}
theorem bl_A (h : bLp Z e fm F nx to b n r Y pa I tl ac wr) (h1 : ¬ to ≤ nx) (h2 : ¬ b ≤ n) (hr : r = 0) : 0 ≤ n ∧ ∃ Zo : cZ, bUp Z Zo nx to (b - n) 8 ∧ bInv Zo to fm F Y pa I tl ac nx := by
  rcases h with ⟨_, _, h3, h4⟩ | ⟨_, h3, _⟩ | ⟨h3, _⟩ | ⟨⟨h3, _⟩, _⟩
  · exact ⟨h3, h4⟩
  · exact absurd h3 (fun q => q.elim h1 h2)
  · exact absurd (hr.symm.trans h3) (by decide)
  · exact absurd hr h3
theorem bl_0 (h : bLp Z e fm F nx to b n r Y pa I tl ac wr) (h1 : to ≤ nx ∨ b ≤ n) (hr : r = 0) : bInv Z e fm F Y pa I (upd tl 0 (tl 0 + 1)) ac to := by
  rcases h with ⟨_, h3, _⟩ | ⟨_, _, h4⟩ | ⟨h3, _⟩ | ⟨⟨h3, _⟩, _⟩
  · exact absurd h1 (fun q => q.elim h3.1 h3.2)
  · exact h4
  · exact absurd (hr.symm.trans h3) (by decide)
  · exact absurd hr h3
theorem bl_3 (h : bLp Z e fm F nx to b n r Y pa I tl ac wr) (hr : r = 3) : bRes Z e fm F r Y pa I tl ac wr := by
  subst hr
  rcases h with ⟨h3, _⟩ | ⟨h3, _⟩ | ⟨_, h3⟩ | ⟨⟨_, h3⟩, _⟩
  · exact absurd h3 (by decide)
  · exact absurd h3 (by decide)
  · exact h3
  · exact absurd rfl h3
theorem bl_12 (h : bLp Z e fm F nx to b n r Y pa I tl ac wr) (hr : ¬ r = 0) (hr3 : ¬ r = 3) : bRes Z e fm F r Y pa I (upd tl 0 (tl 0 + 1)) ac wr := by
  rcases h with ⟨h3, _⟩ | ⟨h3, _⟩ | ⟨h3, _⟩ | ⟨_, h3⟩
  · exact absurd h3 hr
  · exact absurd h3 hr
  · exact absurd h3 hr3
  · exact h3
theorem bi_pg (h : bInv Z e fm F Y pa I tl ac k) : bPg I Z := by
  obtain ⟨pl, P, md, Z1, N, hS, hs, -⟩ := h
  have := hS.2.1.2
  unfold bPg at this ⊢
  rw [hs.1] at this
  exact this
theorem num_1 (h0 : 0 ≤ n) (h2 : ¬ b ≤ n) : (1 < b - n ↔ ¬ b ≤ n + 1) ∧ b - n - 1 = b - (n + 1) ∧ 0 ≤ n + 1 ∧ (b - (n + 1)).toNatClampNeg < (b - n).toNatClampNeg := by
  rw [Int32.le_iff_toInt_le, ci_0] at h0
  rw [Int32.le_iff_toInt_le] at h2
  have hb := b.toInt_lt
  have e1 : (b - n).toInt = b.toInt - n.toInt := by
    rw [Int32.toInt_sub]
    exact Int.bmod_eq_of_le (by omega) (by omega)
  have e2 : (n + 1).toInt = n.toInt + 1 := by
    rw [Int32.toInt_add, ci_1]
    exact Int.bmod_eq_of_le (by omega) (by omega)
  have e3 : (b - (n + 1)).toInt = b.toInt - n.toInt - 1 := by
    rw [Int32.toInt_sub, e2]
    rw [Int.bmod_eq_of_le (by omega) (by omega)]
    omega
  refine ⟨?_, Int32.toInt_inj.mp ?_, ?_, ?_⟩
  · rw [Int32.lt_iff_toInt_lt, Int32.le_iff_toInt_le, e1, e2, ci_1]
    omega
  · rw [e3, Int32.toInt_sub, e1, ci_1]
    exact Int.bmod_eq_of_le (by omega) (by omega)
  · rw [Int32.le_iff_toInt_le, ci_0, e2]
    omega
  · show (b - (n + 1)).toInt.toNat < (b - n).toInt.toNat
    rw [e3, e1]
    omega
theorem bl_st (up : bUp Z Zo nx to (b - n) 8) (h : bRes Zo to fm F r' Y' pa' I' tl' ac' wr') (h1 : ¬ to ≤ nx) (h2 : ¬ b ≤ n) (h0 : 0 ≤ n) (hb : r' = 0 → b' = b) (hte : to ≤ e) : bLp Z e fm F nx to b' (n + 1) r' Y' pa' I' tl' ac' wr' := by
  obtain ⟨n1, n2, n3, -⟩ := num_1 h0 h2
  have hT : (8 = (6 : Int32) ∧ tl' = upd tl' 2 (tl' 2 + 1)) ∨ (¬ 8 = (6 : Int32) ∧ tl' = tl') := Or.inr ⟨by decide, rfl⟩
  by_cases hr : r' = 0
  · have hb := hb hr
    subst hb
    subst hr
    have h := h.resolve_right (fun q => q.elim (fun q => absurd q.1 (by decide)) (fun q => absurd q.1 (by decide)))
    obtain ⟨-, h⟩ := h
    by_cases hx : b' ≤ n + 1
    · exact Or.inr (Or.inl ⟨rfl, Or.inr hx, bi_close up h (fun q => n1.1 q hx) hte hT⟩)
    · refine Or.inl ⟨rfl, ⟨h1, hx⟩, n3, ?_⟩
      obtain ⟨pl, P, md, Z1, N, hS, hs, hk, hke, hf, hm⟩ := h
      have u1 := up_s up hs
      have hlv := lv_turn (up_pos u1) (by rw [up_end u1, hk]; exact Int32.lt_irrefl) (by rw [up_due u1]; exact decide_eq_true (n1.2 hx))
      have u2 : bUp Z (zTurn Z1) nx to (b' - (n + 1)) 8 := up_turn u1 rfl rfl ⟨rfl, rfl, rfl⟩ (by
        show upd Z1.2.2.2.2.2.2.2.2.2.1 (Z1.2.2.2.2.2.2.2.2.2.2.2 - 1).toNatClampNeg (Z1.2.2.2.2.2.2.2.2.2.1 (Z1.2.2.2.2.2.2.2.2.2.2.2 - 1).toNatClampNeg - 1) = _
        rw [up_ix u1, u1.2.2.2.2.2.1, n2])
      rw [up_sta u2] at hlv
      have u3 : bUp Z (zAt (zTurn Z1) nx) nx to (b' - (n + 1)) 8 := up_s u2 (sS_to (sS_rf _) rfl rfl ⟨rfl, rfl, rfl, rfl⟩)
      have hlt : nx < to := by
        rw [Int32.le_iff_toInt_le] at h1
        rw [Int32.lt_iff_toInt_lt]
        omega
      have hin : zLv (zAt (zTurn Z1) nx) = zAt (zTurn Z1) nx := lv_in (by rw [up_end u3]; exact hlt)
      obtain ⟨⟨d1, d2⟩, ⟨d3, d4, d5, d6⟩, d7⟩ := hS.2
      have hst := zok_sta d7
      rw [up_sta u1] at hst
      refine ⟨_, u3, pl, P, md, zAt (zTurn Z1) nx, N, bs_to hS rfl rfl rfl ⟨d3, d4, d5, d6⟩ (zok_dep d7 hst rfl rfl (Or.inr rfl)), sS_rf _, rfl, Int32.le_of_lt hlt, hf, ?_⟩
      show mStc N (pl, ac', -1, md, zLv (zAt (zTurn Z1) nx), P) F
      rw [hin, ← hlv]
      exact hm
  · by_cases hr3 : r' = 3
    · subst hr3
      exact Or.inr (Or.inr (Or.inl ⟨rfl, bt_3n up h (fun f hf _ => ca_8 ⟨f, hf⟩) hT⟩))
    · exact Or.inr (Or.inr (Or.inr ⟨⟨hr, hr3⟩, bt_12 up h hr hr3 hT⟩))
end BRep
section BDone
variable {Z Zo : cZ} {e fm nx to t c : Int32} {F : ((Nat → Option Nat) × Int64 × Int32 × Int32 × cZ × cQ)} {Y : rY} {pa : Nat → Int32} {I : rI} {tl tl2 : Nat → Int32} {ac : Int64} {k wr r : Int32}
variable {Y' : rY} {pa' : Nat → Int32} {tl' : Nat → Int32} {wr' tw' : Int32} {r9 r' : Int64} {u9 : (Nat → Option Nat) × Int32 × Int32 × cQ}
theorem w_ctl {w : Int32} (h0 : ¬ w = 40) (h1 : ¬ w = 41) (h2 : ¬ w = 42) (h3 : ¬ w = 43) (h4 : ¬ w = 44) (h5 : ¬ w = 45) : w < 40 ∨ 45 < w := by
  by_cases ha : w < 40
  · exact Or.inl ha
  · refine Or.inr ?_
    rw [Int32.lt_iff_toInt_lt, show (40 : Int32).toInt = 40 by decide] at ha
    rw [Int32.lt_iff_toInt_lt, show (45 : Int32).toInt = 45 by decide]
    have k0 : ¬ w.toInt = 40 := fun q => h0 (Int32.toInt_inj.mp (q.trans (by decide)))
    have k1 : ¬ w.toInt = 41 := fun q => h1 (Int32.toInt_inj.mp (q.trans (by decide)))
    have k2 : ¬ w.toInt = 42 := fun q => h2 (Int32.toInt_inj.mp (q.trans (by decide)))
    have k3 : ¬ w.toInt = 43 := fun q => h3 (Int32.toInt_inj.mp (q.trans (by decide)))
    have k4 : ¬ w.toInt = 44 := fun q => h4 (Int32.toInt_inj.mp (q.trans (by decide)))
    have k5 : ¬ w.toInt = 45 := fun q => h5 (Int32.toInt_inj.mp (q.trans (by decide)))
    omega
/-- what is known of the mill's operation, before the reference's is done -/
def bOp (Z : cZ) (e fm : Int32) (F : ((Nat → Option Nat) × Int64 × Int32 × Int32 × cZ × cQ)) (I : rI) (tl : Nat → Int32) (ac : Int64) (k : Int32) (r9 : Int64) (u9 : (Nat → Option Nat) × Int32 × Int32 × cQ) : Prop :=
  ∃ (Z2 : cZ) (N : Nat), cWF u9.1 u9.2.2.2 ∧ (0 ≤ u9.2.2.1 ∧ u9.2.2.1 ≤ 6000) ∧ fo (-1) u9.2.1 ∧ bC I tl Z2 ∧ sS Z Z2 ∧ Z2.2.1 = k + 1 ∧ k + 1 ≤ e ∧ (0 ≤ Z2.2.2.1 ∧ Z2.2.2.1 ≤ fm) ∧
    ((u9.2.1 = -1 ∧ mStc N (lvS (u9.1, r9, -1, u9.2.2.1, zDn Z2, u9.2.2.2)) F) ∨ (¬ u9.2.1 = -1 ∧ mStc N (lvS (u9.1, (zUnw Z2.2.2.2.2.2.2.2.2.2.2.2.toNatClampNeg ac u9.2.1 Z2).1, (zUnw Z2.2.2.2.2.2.2.2.2.2.2.2.toNatClampNeg ac u9.2.1 Z2).2.1, u9.2.2.1, (zUnw Z2.2.2.2.2.2.2.2.2.2.2.2.toNatClampNeg ac u9.2.1 Z2).2.2, u9.2.2.2)) F))
theorem bg_op (h : bGo Z e fm F Y pa I tl ac k) (hw : I.1 k.toNatClampNeg < 40 ∨ 45 < I.1 k.toNatClampNeg) : ∃ (ρ : Nat → Nat) (pl : Nat → Option Nat) (P : cQ) (md : Int32) (Z2 : cZ) (r9 : Int64) (u9 : (Nat → Option Nat) × Int32 × Int32 × cQ), rR Y.2.2.2.2.2.2.2.2.2.1 Y pa ρ pl P ∧ cWF pl P ∧ rCnt Y md ∧ tl 5 = md ∧ (0 ≤ md ∧ md ≤ 6000) ∧ q_X11_answerOf (I.1 k.toNatClampNeg) (I.2.1 k.toNatClampNeg) (I.2.2.1 k.toNatClampNeg) (I.2.2.2.1 k.toNatClampNeg) pl ac (-1) md Z2 P r9 u9 ∧ bOp Z e fm F I tl ac k r9 u9 := by
  obtain ⟨pl, P, md, Z2, N, X, hS, hs, hk, hke, hf, hm, hX⟩ := h
  obtain ⟨⟨⟨ρ, a1⟩, a2, a3, a4, a5⟩, hC⟩ := hS
  rcases hX with ⟨-, hx⟩ | ⟨r9, u9, -, hq, hX⟩
  · exact absurd hw (fun q => q.elim hx.1 hx.2)
  obtain ⟨w1, w2, w3⟩ := wq_answerOf a2 hq
  refine ⟨ρ, pl, P, md, Z2, r9, u9, a1, a2, a3, a4, a5, hq, Z2, N, w1, ?_, w2, hC, hs, hk, hke, hf, ?_⟩
  · by_cases hkm : kMk (I.1 k.toNatClampNeg) (I.2.1 k.toNatClampNeg) (I.2.2.1 k.toNatClampNeg) (I.2.2.2.1 k.toNatClampNeg) md
    · rw [w3.1 hkm]
      have := md_up a5.1 hkm.1
      exact ⟨this.1, this.2.1⟩
    · rw [w3.2 hkm]
      exact a5
  · rcases hX with ⟨h1, rfl⟩ | ⟨h1, rfl⟩
    · exact Or.inl ⟨h1, hm⟩
    · exact Or.inr ⟨h1, hm⟩
theorem bo_ok (h : bOp Z e fm F I tl ac k r9 u9) (ha : rAns u9.2.1 r9 u9.1 u9.2.2.2 u9.2.2.1 tl Y r' Y' pa' tl' wr' tw') (ht : tw' = 0) : bInv Z e fm F Y' pa' I (upd tl' 0 (tl' 0 + 1)) r' (k + 1) := by
  obtain ⟨Z2, N, w1, w2, -, ⟨d12, ⟨d3, d4, d5, d6⟩, d7⟩, hs, hk, hke, hf, hX⟩ := h
  obtain ⟨hd, rfl, h3, -, h5⟩ := ha
  rcases hd with ⟨e1, -, rfl⟩ | ⟨-, e1, -⟩
  rotate_left
  · exact absurd (ht.symm.trans e1) (by decide)
  rcases hX with ⟨-, hm⟩ | ⟨q, -⟩
  rotate_left
  · exact absurd e1 q
  refine ⟨_, _, _, zDn Z2, N, ⟨⟨h5, w1, h3, rfl, w2⟩, d12, ⟨?_, d4, d5, d6⟩, zok_dn d7⟩, sS_to hs rfl rfl ⟨rfl, rfl, rfl, rfl⟩, hk, hke, hf, hm⟩
  show tl 0 + 1 = Z2.2.2.2.1 + 1
  rw [d3]
theorem bo_no (h : bOp Z e fm F I tl ac k r9 u9) (ha : rAns u9.2.1 r9 u9.1 u9.2.2.2 u9.2.2.1 tl Y r' Y' pa' tl' wr' tw') (ht : ¬ tw' = 0) : bRes Z e fm F 3 Y' pa' I tl' ac wr' := by
  obtain ⟨Z2, N, w1, w2, w3, ⟨d12, d3, d7⟩, hs, hk, hke, hf, hX⟩ := h
  obtain ⟨hd, rfl, h3, -, h5⟩ := ha
  rcases hd with ⟨-, e1, -⟩ | ⟨e1, -, rfl⟩
  · exact absurd e1 ht
  rcases hX with ⟨q, -⟩ | ⟨-, hm⟩
  · exact absurd q e1
  rcases w3 with w3 | ⟨f, hf7, ef⟩
  · exact absurd w3 e1
  rw [ef] at hm
  exact Or.inr (Or.inr ⟨rfl, _, _, _, Z2, f, N, hf7, ef, ⟨⟨h5, w1, h3, rfl, w2⟩, d12, d3, d7⟩, hs, hf, hm⟩)
end BDone

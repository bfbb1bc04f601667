theorem cp_ne {n : Int32} {Y : rY} {pa : Nat → Int32} {ρ : Nat → Nat} {pl : Nat → Option Nat} {P : cQ} (wf : cWF pl P) (h : rR n Y pa ρ pl P) {t1 t2 y : Nat} {v1 v2 : Int32} (m1 : t1 ∈ P.1) (m2 : t2 ∈ P.1) (k1 : P.2.1 t1 = 5 ∨ P.2.1 t1 = 6) (k2 : P.2.1 t2 = 5 ∨ P.2.1 t2 = 6) (h1 : P.2.2.2.2.1 t1 = some y) (h2 : P.2.2.2.2.1 t2 = some y) (a1 : 0 < v1) (b1 : v1 < n) (c1 : ρ v1.toNatClampNeg = t1) (a2 : 0 < v2) (b2 : v2 < n) (c2 : ρ v2.toNatClampNeg = t2) : v1 = v2 := by
  have e := wf.2.2.2.2.2.2.2.2.2 t1 t2 y m1 m2 k1 k2 h1 h2
  have i1 := rk_in h a1 b1
  have i2 := rk_in h a2 b2
  have := h.2.2.2.1 _ _ i1.2.1 i1.2.2.1 i2.2.1 i2.2.2.1 (c1.trans (e.trans c2.symm))
  have p1 := (i32_pos a1).1
  have p2 := (i32_pos a2).1
  rw [Int32.le_iff_toInt_le, ci_0] at p1 p2
  have this : v1.toInt.toNat = v2.toInt.toNat := this
  exact Int32.toInt_inj.mp (by omega)
theorem ge_lt {i j : Int32} (h : ¬ j ≤ i) (hi : ¬ i < 0) (hj : ¬ j < 0) : i.toNatClampNeg < j.toNatClampNeg := k1_lt hi h
theorem cth_go {ok : Option Nat → Bool} {src dk : Nat → Option Nat} {k n i j : Int32} {o9 : Option Nat} {X : Bool × (Nat → Option Nat)} (h0 : ¬ k < 0) (h : ¬ n ≤ k) (hj : (j + k).toNatClampNeg = j.toNatClampNeg + k.toNatClampNeg) (eo : o9 = src (i.toNatClampNeg + k.toNatClampNeg)) (hk : ok o9 = true) (q : cTh ok src i.toNatClampNeg j.toNatClampNeg (n.toNatClampNeg - k.toNatClampNeg) k.toNatClampNeg dk = X) : cTh ok src i.toNatClampNeg j.toNatClampNeg (n.toNatClampNeg - (k + 1).toNatClampNeg) (k + 1).toNatClampNeg (va_up dk (j + k).toNatClampNeg o9) = X := by
  obtain ⟨r, e1, e2⟩ := th_sub h0 h
  rw [e1, cTh_s, ← eo, if_pos hk] at q
  rw [e2, up1_clamp h0 h, hj]
  exact q
theorem cth_no {ok : Option Nat → Bool} {src dk : Nat → Option Nat} {k n i j : Int32} {o9 : Option Nat} {X : Bool × (Nat → Option Nat)} (h0 : ¬ k < 0) (h : ¬ n ≤ k) (eo : o9 = src (i.toNatClampNeg + k.toNatClampNeg)) (hk : ok o9 = false) (q : cTh ok src i.toNatClampNeg j.toNatClampNeg (n.toNatClampNeg - k.toNatClampNeg) k.toNatClampNeg dk = X) : (false, dk) = X := by
  obtain ⟨r, e1, e2⟩ := th_sub h0 h
  rw [e1, cTh_s, ← eo, if_neg (by rw [hk]; decide)] at q
  exact q
theorem gd_up {P : cQ} {x2 : Nat} {d : Nat → Option Nat} (h : ∀ j9 t9, d j9 = some t9 → t9 ∈ P.1 ∧ P.2.1 t9 < 7 ∧ kOf (P.2.1 t9) (P.2.2.1 t9) (P.2.2.2.1 x2) = true) {a : Nat} {o : Option Nat} (ho : ∀ z9, o = some z9 → z9 ∈ P.1 ∧ P.2.1 z9 < 7 ∧ kOf (P.2.1 z9) (P.2.2.1 z9) (P.2.2.2.1 x2) = true) : ∀ j9 t9, va_up d a o j9 = some t9 → t9 ∈ P.1 ∧ P.2.1 t9 < 7 ∧ kOf (P.2.1 t9) (P.2.2.1 t9) (P.2.2.2.1 x2) = true := by
  intro j9 t9 e
  by_cases hj : j9 = a
  · subst hj; rw [va_up_self] at e; exact ho t9 e
  · rw [va_up_ne _ _ hj] at e; exact h j9 t9 e
theorem cp_g0 {pl : Nat → Option Nat} {P : cQ} {t2 y2 : Nat} (wf : cWF pl P) (m2 : t2 ∈ P.1) (k2 : P.2.1 t2 = 6) (h2 : P.2.2.2.2.1 t2 = some y2) : ∀ j9 t9, P.2.2.2.2.2.2.2 y2 j9 = some t9 → t9 ∈ P.1 ∧ P.2.1 t9 < 7 ∧ kOf (P.2.1 t9) (P.2.2.1 t9) (P.2.2.2.1 t2) = true := by
  intro j9 t9 e
  obtain ⟨ym, y8⟩ := wf_arr wf m2 k2 h2
  have w5 := wf.2.2.2.2.1 y2 j9 t9 ym y8 e
  exact ⟨w5.1, w5.2, wf.2.2.2.2.2.2.2.2.1 t2 y2 j9 t9 m2 k2 h2 e⟩
theorem cp_good {pl : Nat → Option Nat} {P : cQ} {t1 t2 y1 y2 i j lo hi : Nat} (wf : cWF pl P) (m1 : t1 ∈ P.1) (m2 : t2 ∈ P.1) (k1 : P.2.1 t1 = 6) (k2 : P.2.1 t2 = 6) (h1 : P.2.2.2.2.1 t1 = some y1) (h2 : P.2.2.2.2.1 t2 = some y2) (e : t1 = t2) : ∀ j9 t9, cpB (P.2.2.2.2.2.2.2 y1) (P.2.2.2.2.2.2.2 y2) i j lo hi j9 = some t9 → t9 ∈ P.1 ∧ P.2.1 t9 < 7 ∧ kOf (P.2.1 t9) (P.2.2.1 t9) (P.2.2.2.1 t2) = true := by
  intro j9 t9 h
  unfold cpB at h
  split at h
  · have := cp_g0 wf m1 k1 h1 _ t9 h
    rw [e] at this
    exact this
  · exact cp_g0 wf m2 k2 h2 _ t9 h
theorem kz_of {b : Bool} {x : Int32} (h : x = 0 ↔ b = false) (hx : ¬ x = 0) : b = true := by
  cases b with
  | true => rfl
  | false => exact absurd (h.mpr rfl) hx
theorem ra_fw {Y Y' : rY} {pa' tl : Nat → Int32} {ρ' : Nat → Nat} {pl' : Nat → Option Nat} {P' : cQ} {md f : Int32} {r rz : Int64} (rel : rR Y'.2.2.2.2.2.2.2.2.2.1 Y' pa' ρ' pl' P') (hL : Y'.2.2.2.2.2.2.2.1 = Y.2.2.2.2.2.2.2.1 ∧ Y'.2.2.2.2.2.2.2.2.1 = Y.2.2.2.2.2.2.2.2.1 ∧ Y'.2.2.2.2.2.2.2.2.2.1 = Y.2.2.2.2.2.2.2.2.2.1 ∧ Y'.2.2.2.2.2.2.2.2.2.2 = Y.2.2.2.2.2.2.2.2.2.2) (hc : rCnt Y md) (ht : tl 5 = md) (hf : ¬ f = -1) : rAns f rz pl' P' md tl Y r Y' pa' tl f 1 := by
  refine ⟨Or.inr ⟨hf, rfl, rfl⟩, tl_same ht, ?_, ⟨by rw [hL.1]; exact Nat.le_refl _, by rw [hL.2.1]; exact Nat.le_refl _⟩, ρ', rel⟩
  unfold rCnt
  rw [hL.2.2.1, hL.2.2.2]
  exact hc
def q_X11_cp (a0 b0 i0 j0 n0 : Int32) (pl : Nat → Option Nat) (ac : Int64) (ft md : Int32) (Z : cZ) (P : cQ) (rz : Int64) (u : Int32 × cQ) : Prop := (0 = rz ∧ (2, P) = u ∧ ¬ vp_in a0 32) ∨ (0 = rz ∧ (2, P) = u ∧ vp_in a0 32 ∧ ¬ vp_in b0 32) ∨ (0 = rz ∧ (1, P) = u ∧ vp_in a0 32 ∧ vp_in b0 32 ∧ pl a0.toNatClampNeg = none) ∨ (∃ t1 : Nat, 0 = rz ∧ (1, P) = u ∧ vp_in a0 32 ∧ vp_in b0 32 ∧ pl a0.toNatClampNeg = some t1 ∧ pl b0.toNatClampNeg = none) ∨ (∃ t1 t2 y1 : Nat, 0 = rz ∧ (2, P) = u ∧ vp_in a0 32 ∧ vp_in b0 32 ∧ pl a0.toNatClampNeg = some t1 ∧ pl b0.toNatClampNeg = some t2 ∧ P.2.1 t1 = 5 ∧ P.2.1 t2 = 5 ∧ P.2.2.1 t1 = P.2.2.1 t2 ∧ P.2.2.2.2.1 t1 = some y1 ∧ ¬ cSp i0 n0 (P.2.2.2.2.2.1 y1)) ∨ (∃ t1 t2 y1 y2 : Nat, 0 = rz ∧ (2, P) = u ∧ vp_in a0 32 ∧ vp_in b0 32 ∧ pl a0.toNatClampNeg = some t1 ∧ pl b0.toNatClampNeg = some t2 ∧ P.2.1 t1 = 5 ∧ P.2.1 t2 = 5 ∧ P.2.2.1 t1 = P.2.2.1 t2 ∧ P.2.2.2.2.1 t1 = some y1 ∧ P.2.2.2.2.1 t2 = some y2 ∧ cSp i0 n0 (P.2.2.2.2.2.1 y1) ∧ ¬ cSp j0 n0 (P.2.2.2.2.2.1 y2)) ∨ (∃ t1 t2 y1 y2 : Nat, 0 = rz ∧ (ft, pLc P y2 (va_cpy (P.2.2.2.2.2.2.1 y1) (P.2.2.2.2.2.2.1 y2) i0.toNatClampNeg j0.toNatClampNeg n0.toNatClampNeg)) = u ∧ vp_in a0 32 ∧ vp_in b0 32 ∧ pl a0.toNatClampNeg = some t1 ∧ pl b0.toNatClampNeg = some t2 ∧ P.2.1 t1 = 5 ∧ P.2.1 t2 = 5 ∧ P.2.2.1 t1 = P.2.2.1 t2 ∧ P.2.2.2.2.1 t1 = some y1 ∧ P.2.2.2.2.1 t2 = some y2 ∧ cSp i0 n0 (P.2.2.2.2.2.1 y1) ∧ cSp j0 n0 (P.2.2.2.2.2.1 y2)) ∨ (∃ t1 t2 y1 : Nat, 0 = rz ∧ (2, P) = u ∧ vp_in a0 32 ∧ vp_in b0 32 ∧ pl a0.toNatClampNeg = some t1 ∧ pl b0.toNatClampNeg = some t2 ∧ P.2.1 t1 = 6 ∧ P.2.1 t2 = 6 ∧ P.2.2.2.2.1 t1 = some y1 ∧ ¬ cSp i0 n0 (P.2.2.2.2.2.1 y1)) ∨ (∃ t1 t2 y1 y2 : Nat, 0 = rz ∧ (2, P) = u ∧ vp_in a0 32 ∧ vp_in b0 32 ∧ pl a0.toNatClampNeg = some t1 ∧ pl b0.toNatClampNeg = some t2 ∧ P.2.1 t1 = 6 ∧ P.2.1 t2 = 6 ∧ P.2.2.2.2.1 t1 = some y1 ∧ P.2.2.2.2.1 t2 = some y2 ∧ cSp i0 n0 (P.2.2.2.2.2.1 y1) ∧ ¬ cSp j0 n0 (P.2.2.2.2.2.1 y2)) ∨ (∃ t1 t2 y1 y2 : Nat, 0 = rz ∧ (ft, pRc P y2 (va_cpy (P.2.2.2.2.2.2.2 y1) (P.2.2.2.2.2.2.2 y2) i0.toNatClampNeg j0.toNatClampNeg n0.toNatClampNeg)) = u ∧ vp_in a0 32 ∧ vp_in b0 32 ∧ pl a0.toNatClampNeg = some t1 ∧ pl b0.toNatClampNeg = some t2 ∧ P.2.1 t1 = 6 ∧ P.2.1 t2 = 6 ∧ t1 = t2 ∧ P.2.2.2.2.1 t1 = some y1 ∧ P.2.2.2.2.1 t2 = some y2 ∧ cSp i0 n0 (P.2.2.2.2.2.1 y1) ∧ cSp j0 n0 (P.2.2.2.2.2.1 y2)) ∨ (∃ (t1 t2 y1 y2 : Nat) (d : Nat → Option Nat), 0 = rz ∧ (ft, pRc P y2 d) = u ∧ vp_in a0 32 ∧ vp_in b0 32 ∧ pl a0.toNatClampNeg = some t1 ∧ pl b0.toNatClampNeg = some t2 ∧ P.2.1 t1 = 6 ∧ P.2.1 t2 = 6 ∧ ¬ t1 = t2 ∧ P.2.2.2.2.1 t1 = some y1 ∧ P.2.2.2.2.1 t2 = some y2 ∧ cSp i0 n0 (P.2.2.2.2.2.1 y1) ∧ cSp j0 n0 (P.2.2.2.2.2.1 y2) ∧ cTh (kTk P t2) (P.2.2.2.2.2.2.2 y1) i0.toNatClampNeg j0.toNatClampNeg n0.toNatClampNeg 0 (P.2.2.2.2.2.2.2 y2) = (true, d)) ∨ (∃ (t1 t2 y1 y2 : Nat) (d : Nat → Option Nat), 0 = rz ∧ (5, pRc P y2 d) = u ∧ vp_in a0 32 ∧ vp_in b0 32 ∧ pl a0.toNatClampNeg = some t1 ∧ pl b0.toNatClampNeg = some t2 ∧ P.2.1 t1 = 6 ∧ P.2.1 t2 = 6 ∧ ¬ t1 = t2 ∧ P.2.2.2.2.1 t1 = some y1 ∧ P.2.2.2.2.1 t2 = some y2 ∧ cSp i0 n0 (P.2.2.2.2.2.1 y1) ∧ cSp j0 n0 (P.2.2.2.2.2.1 y2) ∧ cTh (kTk P t2) (P.2.2.2.2.2.2.2 y1) i0.toNatClampNeg j0.toNatClampNeg n0.toNatClampNeg 0 (P.2.2.2.2.2.2.2 y2) = (false, d)) ∨ (∃ t1 t2 : Nat, 0 = rz ∧ (5, P) = u ∧ vp_in a0 32 ∧ vp_in b0 32 ∧ pl a0.toNatClampNeg = some t1 ∧ pl b0.toNatClampNeg = some t2 ∧ ¬ (P.2.1 t1 = 5 ∧ P.2.1 t2 = 5 ∧ P.2.2.1 t1 = P.2.2.1 t2) ∧ ¬ (P.2.1 t1 = 6 ∧ P.2.1 t2 = 6))
theorem cp_flat {a0 b0 c0 : Int32} {pl : Nat → Option Nat} {ac : Int64} {ft md : Int32} {Z : cZ} {P : cQ} {rz : Int64} {u : Int32 × cQ} (h : q_X11_copy a0 b0 c0 pl ac ft md Z P rz u) : q_X11_cp a0 b0 ((c0 >>> (16 &&& 31)).toInt8.toInt32) ((c0 >>> (8 &&& 31)).toInt8.toInt32) c0.toInt8.toInt32 pl ac ft md Z P rz u := by
  rcases h with h | h | h | h | ⟨t1, t2, u9, h0, h1, g1, g2, g3, g4, k1, k2, k3, hc⟩ | ⟨t1, t2, u9, h0, h1, g1, g2, g3, g4, k1, k2, hc⟩ | h
  · exact Or.inl h
  · exact Or.inr (Or.inl h)
  · exact Or.inr (Or.inr (Or.inl h))
  · exact Or.inr (Or.inr (Or.inr (Or.inl h)))
  · rcases hc with ⟨y1, e, h2, h3⟩ | ⟨y1, y2, e, h2, h3, h4, h5⟩ | ⟨y1, y2, e, h2, h3, h4, h5⟩
    · exact Or.inr (Or.inr (Or.inr (Or.inr (Or.inl ⟨t1, t2, y1, h0, e.trans h1, g1, g2, g3, g4, k1, k2, k3, h2, h3⟩))))
    · exact Or.inr (Or.inr (Or.inr (Or.inr (Or.inr (Or.inl ⟨t1, t2, y1, y2, h0, e.trans h1, g1, g2, g3, g4, k1, k2, k3, h2, h3, h4, h5⟩)))))
    · exact Or.inr (Or.inr (Or.inr (Or.inr (Or.inr (Or.inr (Or.inl ⟨t1, t2, y1, y2, h0, e.trans h1, g1, g2, g3, g4, k1, k2, k3, h2, h3, h4, h5⟩))))))
  · rcases hc with ⟨y1, e, h2, h3⟩ | ⟨y1, y2, e, h2, h3, h4, h5⟩ | ⟨y1, y2, e, hx, h2, h3, h4, h5⟩ | ⟨y1, y2, d, e, hx, h2, h3, h4, h5, h6⟩ | ⟨y1, y2, d, e, hx, h2, h3, h4, h5, h6⟩
    · exact Or.inr (Or.inr (Or.inr (Or.inr (Or.inr (Or.inr (Or.inr (Or.inl ⟨t1, t2, y1, h0, e.trans h1, g1, g2, g3, g4, k1, k2, h2, h3⟩)))))))
    · exact Or.inr (Or.inr (Or.inr (Or.inr (Or.inr (Or.inr (Or.inr (Or.inr (Or.inl ⟨t1, t2, y1, y2, h0, e.trans h1, g1, g2, g3, g4, k1, k2, h2, h3, h4, h5⟩))))))))
    · exact Or.inr (Or.inr (Or.inr (Or.inr (Or.inr (Or.inr (Or.inr (Or.inr (Or.inr (Or.inl ⟨t1, t2, y1, y2, h0, e.trans h1, g1, g2, g3, g4, k1, k2, hx, h2, h3, h4, h5⟩)))))))))
    · exact Or.inr (Or.inr (Or.inr (Or.inr (Or.inr (Or.inr (Or.inr (Or.inr (Or.inr (Or.inr (Or.inl ⟨t1, t2, y1, y2, d, h0, e.trans h1, g1, g2, g3, g4, k1, k2, hx, h2, h3, h4, h5, h6⟩))))))))))
    · exact Or.inr (Or.inr (Or.inr (Or.inr (Or.inr (Or.inr (Or.inr (Or.inr (Or.inr (Or.inr (Or.inr (Or.inl ⟨t1, t2, y1, y2, d, h0, e.trans h1, g1, g2, g3, g4, k1, k2, hx, h2, h3, h4, h5, h6⟩)))))))))))
  · exact Or.inr (Or.inr (Or.inr (Or.inr (Or.inr (Or.inr (Or.inr (Or.inr (Or.inr (Or.inr (Or.inr (Or.inr h)))))))))))
set_option maxHeartbeats 8000000 in
set_option maxRecDepth 100000 in
theorem c_X12_copied (l : Launch) (dC : Nat → ClassId) (dI : Nat → Nat → Nat) (g : Nat → Nat) (ty : Nat → ClassId) (sz : Nat) (Y : rY) (pa : Nat → Int32) (kp : Nat → Int32) (ks : Int32) (I : rI) (tl : Nat → Int32) (ac : Int64) (wr : Int32) (tw : Int32) (ρ : Nat → Nat) (pl : Nat → Option Nat) (P : cQ) (md : Int32) (Z : cZ) (rz9 : Int64) (u9 : Int32 × cQ) (a0 : Int32) (b0 : Int32) (i0 : Int32) (j0 : Int32) (n0 : Int32) (pre0 : rR Y.2.2.2.2.2.2.2.2.2.1 Y pa ρ pl P) (pre1 : cWF pl P) (pre2 : ks = 0) (pre3 : rCnt Y md) (pre4 : tl 5 = md) (pre5 : 0 ≤ md ∧ md ≤ 6000) (pre6 : tw = 0) (pre7 : q_X11_cp a0 b0 i0 j0 n0 pl ac (-1) md Z P rz9 u9) (pre8 : ∃ y : Int8, i0 = y.toInt32) (pre9 : ∃ y : Int8, j0 = y.toInt32) (pre10 : ∃ y : Int8, n0 = y.toInt32) : Met l yX12_copied (Cond.code yX12_copied cX12_copied 13 (some .long) :: gT) ({ frames := 2, cells := 0, slots := 0, locals := 42 }) (cP (dC, dI) (rTy ty) (rW g ty Y pa kp ks I tl ac wr tw) sz [.ref (g 8), .int a0, .int b0, .int i0, .int j0, .int n0]) (va_Ql (fun (rz : Int64) (u : rY × (Nat → Int32) × (Nat → Int32) × (Nat → Int32) × Int32 × Int32) => ∃ (r' : Int64) (Y' : rY) (pa' kp' tl' : Nat → Int32) (wr' tw' : Int32), r' = rz ∧ (Y', pa', kp', tl', wr', tw') = u ∧ rAns u9.1 rz9 pl u9.2 md tl Y r' Y' pa' tl' wr' tw') (cB (dC, dI) (fun u : rY × (Nat → Int32) × (Nat → Int32) × (Nat → Int32) × Int32 × Int32 => rW g ty u.1 u.2.1 u.2.2.1 ks I u.2.2.2.1 ac u.2.2.2.2.1 u.2.2.2.2.2) (va_A (rW g ty Y pa kp ks I tl ac wr tw) sz)) (va_A (rW g ty Y pa kp ks I tl ac wr tw) sz)) 0 0 (va_A (rW g ty Y pa kp ks I tl ac wr tw) sz) := by
  refine cc_of (Qa := fun A => va_Ql (fun (rz : Int64) (u : rY × (Nat → Int32) × (Nat → Int32) × (Nat → Int32) × Int32 × Int32) => ∃ (r' : Int64) (Y' : rY) (pa' kp' tl' : Nat → Int32) (wr' tw' : Int32), r' = rz ∧ (Y', pa', kp', tl', wr', tw') = u ∧ rAns u9.1 rz9 pl u9.2 md tl Y r' Y' pa' tl' wr' tw') (cB (dC, dI) (fun u : rY × (Nat → Int32) × (Nat → Int32) × (Nat → Int32) × Int32 × Int32 => rW g ty u.1 u.2.1 u.2.2.1 ks I u.2.2.2.1 ac u.2.2.2.2.1 u.2.2.2.2.2) A) A) (by decide) (Nat.le_of_ble_eq_true rfl) ?_
  intro p e s m below meth c A hx hb hr hml hown hg hlk hmn hP hK hD hT hS hA hsz ls hl
  have hown : s.vm.findClass RX12 = some m.cls := hown
  have rel := pre0
  have wf := pre1
  have hcnt := pre3
  have htl := pre4
  rcases pre7 with ⟨hrz, hu, g2⟩ | ⟨hrz, hu, g2, g3⟩ | ⟨hrz, hu, g2, g3, g4⟩ | ⟨t1, hrz, hu, g2, g3, g4, g5⟩ | ⟨t1, t2, y1, hrz, hu, g2, g3, g4, g5, g6, g7, g8, g9, g10⟩ | ⟨t1, t2, y1, y2, hrz, hu, g2, g3, g4, g5, g6, g7, g8, g9, g10, g11, g12⟩ | ⟨t1, t2, y1, y2, hrz, hu, g2, g3, g4, g5, g6, g7, g8, g9, g10, g11, g12⟩ | ⟨t1, t2, y1, hrz, hu, g2, g3, g4, g5, g6, g7, g8, g9⟩ | ⟨t1, t2, y1, y2, hrz, hu, g2, g3, g4, g5, g6, g7, g8, g9, g10, g11⟩ | ⟨t1, t2, y1, y2, hrz, hu, g2, g3, g4, g5, g6, g7, g8, g9, g10, g11, g12⟩ | ⟨t1, t2, y1, y2, d, hrz, hu, g2, g3, g4, g5, g6, g7, g8, g9, g10, g11, g12, g13⟩ | ⟨t1, t2, y1, y2, d, hrz, hu, g2, g3, g4, g5, g6, g7, g8, g9, g10, g11, g12, g13⟩ | ⟨t1, t2, hrz, hu, g2, g3, g4, g5, g6, g7⟩
  · show _
    have hl : lv_has ls 13 [(0, .ref (g 8)), (1, .int a0), (2, .int b0), (3, .int i0), (4, .int j0), (5, .int n0)] := hl
    refine lv_aload_n hx hb dX12_copied_0 rfl (lv_at hl 0 rfl) ?_
    refine lv_iload_n hx hb dX12_copied_1 rfl (lv_at hl 1 rfl) ?_
    refine cV_i (C := RX12) (n := 1) (rest := []) hx hb hml hown hg hT (c_X12_place l dC dI g ty s.heap.size Y pa kp ks I tl ac wr tw a0 ) (cv_of hg wM_X12_83 wN_X12_place wL_X12_X12_place wK_X12_place wI_X12 (by decide +kernel) ⟨Nat.le_of_ble_eq_true rfl, Nat.le_of_ble_eq_true rfl⟩) hK hP hD hS hA (va_recv hK hP (ci := 14) (q0 := 0) rfl rfl) rfl hl.1 rfl (Nat.le_of_ble_eq_true rfl) dX12_copied_2 ⟨Nat.le_of_ble_eq_true rfl, Nat.le_of_ble_eq_true rfl⟩ (fun r_2 u_3 H locs q_1 hP hD hS => ?_)
    rcases q_1 with ⟨rfl, rfl, f_4⟩ | ⟨rfl, rfl, f_5⟩
    · show _
      have hP : va_P (dC, dI) vwCl (rW g ty Y pa kp ks I tl ac 2 tw) H := hP
      have hD : va_D A (rW g ty Y pa kp ks I tl ac 2 tw) := hD
      refine lv_if_eq (tgt := 32) hx hb dX12_copied_5 (by decide) (fun _ => ?_) (fun c9 => absurd (by decide) c9) 
      refine lv_aload_n hx hb dX12_copied_32 rfl (lv_at hl 0 rfl) ?_
      refine cV_l (C := RX12) (n := 0) (rest := []) hx hb hml hown hg hT (c_X12_no l dC dI g ty H.size Y pa kp ks I tl ac 2 tw  ) (cv_of hg wM_X12_107 wN_X12_no wL_X12_X12_no wK_X12_no wI_X12 (by decide +kernel) ⟨Nat.le_of_ble_eq_true rfl, Nat.le_of_ble_eq_true rfl⟩) hK hP hD hS hA (va_recv hK hP (ci := 14) (q0 := 0) rfl rfl) rfl hl.1 rfl (Nat.le_of_ble_eq_true rfl) dX12_copied_33 ⟨Nat.le_of_ble_eq_true rfl, Nat.le_of_ble_eq_true rfl⟩ (fun r_7 u_8 H locs q_6 hP hD hS => ?_)
      obtain ⟨rfl, rfl⟩ := q_6
      have hP : va_P (dC, dI) vwCl (rW g ty Y pa kp ks I tl ac 2 1) H := hP
      have hD : va_D A (rW g ty Y pa kp ks I tl ac 2 1) := hD
      refine cr_l (wo := fun u : rY × (Nat → Int32) × (Nat → Int32) × (Nat → Int32) × Int32 × Int32 => rW g ty u.1 u.2.1 u.2.2.1 ks I u.2.2.2.1 ac u.2.2.2.2.1 u.2.2.2.2.2) ((Y, pa, kp, tl, 2, 1)) hx hb hr hlk hS hP hD ?_ dX12_copied_36
      exact ⟨0, Y, pa, kp, tl, 2, 1, rfl, rfl, (by subst hu; subst hrz; exact ra_f (f := 2) rel hcnt htl (by decide))⟩
    · show _
      exact absurd f_5 (by assumption)
  · show _
    have hl : lv_has ls 13 [(0, .ref (g 8)), (1, .int a0), (2, .int b0), (3, .int i0), (4, .int j0), (5, .int n0)] := hl
    refine lv_aload_n hx hb dX12_copied_0 rfl (lv_at hl 0 rfl) ?_
    refine lv_iload_n hx hb dX12_copied_1 rfl (lv_at hl 1 rfl) ?_
    refine cV_i (C := RX12) (n := 1) (rest := []) hx hb hml hown hg hT (c_X12_place l dC dI g ty s.heap.size Y pa kp ks I tl ac wr tw a0 ) (cv_of hg wM_X12_83 wN_X12_place wL_X12_X12_place wK_X12_place wI_X12 (by decide +kernel) ⟨Nat.le_of_ble_eq_true rfl, Nat.le_of_ble_eq_true rfl⟩) hK hP hD hS hA (va_recv hK hP (ci := 14) (q0 := 0) rfl rfl) rfl hl.1 rfl (Nat.le_of_ble_eq_true rfl) dX12_copied_2 ⟨Nat.le_of_ble_eq_true rfl, Nat.le_of_ble_eq_true rfl⟩ (fun r_10 u_11 H locs q_9 hP hD hS => ?_)
    rcases q_9 with ⟨rfl, rfl, f_12⟩ | ⟨rfl, rfl, f_13⟩
    · show _
      exact absurd (by assumption) f_12
    · show _
      have hP : va_P (dC, dI) vwCl (rW g ty Y pa kp ks I tl ac wr tw) H := hP
      have hD : va_D A (rW g ty Y pa kp ks I tl ac wr tw) := hD
      refine lv_if_eq (tgt := 32) hx hb dX12_copied_5 (by decide) (fun c9 => absurd c9 (by decide)) (fun _ => ?_)
      refine lv_aload_n hx hb dX12_copied_8 rfl (lv_at hl 0 rfl) ?_
      refine lv_iload_n hx hb dX12_copied_9 rfl (lv_at hl 2 rfl) ?_
      refine cV_i (C := RX12) (n := 1) (rest := []) hx hb hml hown hg hT (c_X12_place l dC dI g ty H.size Y pa kp ks I tl ac wr tw b0 ) (cv_of hg wM_X12_83 wN_X12_place wL_X12_X12_place wK_X12_place wI_X12 (by decide +kernel) ⟨Nat.le_of_ble_eq_true rfl, Nat.le_of_ble_eq_true rfl⟩) hK hP hD hS hA (va_recv hK hP (ci := 14) (q0 := 0) rfl rfl) rfl hl.1 rfl (Nat.le_of_ble_eq_true rfl) dX12_copied_10 ⟨Nat.le_of_ble_eq_true rfl, Nat.le_of_ble_eq_true rfl⟩ (fun r_15 u_16 H locs q_14 hP hD hS => ?_)
      rcases q_14 with ⟨rfl, rfl, f_17⟩ | ⟨rfl, rfl, f_18⟩
      · show _
        have hP : va_P (dC, dI) vwCl (rW g ty Y pa kp ks I tl ac 2 tw) H := hP
        have hD : va_D A (rW g ty Y pa kp ks I tl ac 2 tw) := hD
        refine lv_if_eq (tgt := 32) hx hb dX12_copied_13 (by decide) (fun _ => ?_) (fun c9 => absurd (by decide) c9) 
        refine lv_aload_n hx hb dX12_copied_32 rfl (lv_at hl 0 rfl) ?_
        refine cV_l (C := RX12) (n := 0) (rest := []) hx hb hml hown hg hT (c_X12_no l dC dI g ty H.size Y pa kp ks I tl ac 2 tw  ) (cv_of hg wM_X12_107 wN_X12_no wL_X12_X12_no wK_X12_no wI_X12 (by decide +kernel) ⟨Nat.le_of_ble_eq_true rfl, Nat.le_of_ble_eq_true rfl⟩) hK hP hD hS hA (va_recv hK hP (ci := 14) (q0 := 0) rfl rfl) rfl hl.1 rfl (Nat.le_of_ble_eq_true rfl) dX12_copied_33 ⟨Nat.le_of_ble_eq_true rfl, Nat.le_of_ble_eq_true rfl⟩ (fun r_20 u_21 H locs q_19 hP hD hS => ?_)
        obtain ⟨rfl, rfl⟩ := q_19
        have hP : va_P (dC, dI) vwCl (rW g ty Y pa kp ks I tl ac 2 1) H := hP
        have hD : va_D A (rW g ty Y pa kp ks I tl ac 2 1) := hD
        refine cr_l (wo := fun u : rY × (Nat → Int32) × (Nat → Int32) × (Nat → Int32) × Int32 × Int32 => rW g ty u.1 u.2.1 u.2.2.1 ks I u.2.2.2.1 ac u.2.2.2.2.1 u.2.2.2.2.2) ((Y, pa, kp, tl, 2, 1)) hx hb hr hlk hS hP hD ?_ dX12_copied_36
        exact ⟨0, Y, pa, kp, tl, 2, 1, rfl, rfl, (by subst hu; subst hrz; exact ra_f (f := 2) rel hcnt htl (by decide))⟩
      · show _
        exact absurd f_18 (by assumption)
  · show _
    have hza0 := rk_none rel g2 g4
    have hl : lv_has ls 13 [(0, .ref (g 8)), (1, .int a0), (2, .int b0), (3, .int i0), (4, .int j0), (5, .int n0)] := hl
    refine lv_aload_n hx hb dX12_copied_0 rfl (lv_at hl 0 rfl) ?_
    refine lv_iload_n hx hb dX12_copied_1 rfl (lv_at hl 1 rfl) ?_
    refine cV_i (C := RX12) (n := 1) (rest := []) hx hb hml hown hg hT (c_X12_place l dC dI g ty s.heap.size Y pa kp ks I tl ac wr tw a0 ) (cv_of hg wM_X12_83 wN_X12_place wL_X12_X12_place wK_X12_place wI_X12 (by decide +kernel) ⟨Nat.le_of_ble_eq_true rfl, Nat.le_of_ble_eq_true rfl⟩) hK hP hD hS hA (va_recv hK hP (ci := 14) (q0 := 0) rfl rfl) rfl hl.1 rfl (Nat.le_of_ble_eq_true rfl) dX12_copied_2 ⟨Nat.le_of_ble_eq_true rfl, Nat.le_of_ble_eq_true rfl⟩ (fun r_23 u_24 H locs q_22 hP hD hS => ?_)
    rcases q_22 with ⟨rfl, rfl, f_25⟩ | ⟨rfl, rfl, f_26⟩
    · show _
      exact absurd (by assumption) f_25
    · show _
      have hP : va_P (dC, dI) vwCl (rW g ty Y pa kp ks I tl ac wr tw) H := hP
      have hD : va_D A (rW g ty Y pa kp ks I tl ac wr tw) := hD
      refine lv_if_eq (tgt := 32) hx hb dX12_copied_5 (by decide) (fun c9 => absurd c9 (by decide)) (fun _ => ?_)
      refine lv_aload_n hx hb dX12_copied_8 rfl (lv_at hl 0 rfl) ?_
      refine lv_iload_n hx hb dX12_copied_9 rfl (lv_at hl 2 rfl) ?_
      refine cV_i (C := RX12) (n := 1) (rest := []) hx hb hml hown hg hT (c_X12_place l dC dI g ty H.size Y pa kp ks I tl ac wr tw b0 ) (cv_of hg wM_X12_83 wN_X12_place wL_X12_X12_place wK_X12_place wI_X12 (by decide +kernel) ⟨Nat.le_of_ble_eq_true rfl, Nat.le_of_ble_eq_true rfl⟩) hK hP hD hS hA (va_recv hK hP (ci := 14) (q0 := 0) rfl rfl) rfl hl.1 rfl (Nat.le_of_ble_eq_true rfl) dX12_copied_10 ⟨Nat.le_of_ble_eq_true rfl, Nat.le_of_ble_eq_true rfl⟩ (fun r_28 u_29 H locs q_27 hP hD hS => ?_)
      rcases q_27 with ⟨rfl, rfl, f_30⟩ | ⟨rfl, rfl, f_31⟩
      · show _
        exact absurd (by assumption) f_30
      · show _
        have hP : va_P (dC, dI) vwCl (rW g ty Y pa kp ks I tl ac wr tw) H := hP
        have hD : va_D A (rW g ty Y pa kp ks I tl ac wr tw) := hD
        refine lv_if_eq (tgt := 32) hx hb dX12_copied_13 (by decide) (fun c9 => absurd c9 (by decide)) (fun _ => ?_)
        refine lv_aload_n hx hb dX12_copied_16 rfl (lv_at hl 0 rfl) ?_
        refine lv_iload_n hx hb dX12_copied_17 rfl (lv_at hl 1 rfl) ?_
        refine cV_i (C := RX12) (n := 1) (rest := []) hx hb hml hown hg hT (c_X12_need l dC dI g ty H.size Y pa kp ks I tl ac wr tw a0 (by assumption)) (cv_of hg wM_X12_134 wN_X12_need wL_X12_X12_need wK_X12_need wI_X12 (by decide +kernel) ⟨Nat.le_of_ble_eq_true rfl, Nat.le_of_ble_eq_true rfl⟩) hK hP hD hS hA (va_recv hK hP (ci := 14) (q0 := 0) rfl rfl) rfl hl.1 rfl (Nat.le_of_ble_eq_true rfl) dX12_copied_18 ⟨Nat.le_of_ble_eq_true rfl, Nat.le_of_ble_eq_true rfl⟩ (fun r_33 u_34 H locs q_32 hP hD hS => ?_)
        rcases q_32 with ⟨rfl, rfl, f_35⟩ | ⟨rfl, rfl, f_36⟩
        · show _
          have hP : va_P (dC, dI) vwCl (rW g ty Y pa kp ks I tl ac 1 tw) H := hP
          have hD : va_D A (rW g ty Y pa kp ks I tl ac 1 tw) := hD
          refine lv_if_eq (tgt := 32) hx hb dX12_copied_21 (by decide) (fun _ => ?_) (fun c9 => absurd (by decide) c9) 
          refine lv_aload_n hx hb dX12_copied_32 rfl (lv_at hl 0 rfl) ?_
          refine cV_l (C := RX12) (n := 0) (rest := []) hx hb hml hown hg hT (c_X12_no l dC dI g ty H.size Y pa kp ks I tl ac 1 tw  ) (cv_of hg wM_X12_107 wN_X12_no wL_X12_X12_no wK_X12_no wI_X12 (by decide +kernel) ⟨Nat.le_of_ble_eq_true rfl, Nat.le_of_ble_eq_true rfl⟩) hK hP hD hS hA (va_recv hK hP (ci := 14) (q0 := 0) rfl rfl) rfl hl.1 rfl (Nat.le_of_ble_eq_true rfl) dX12_copied_33 ⟨Nat.le_of_ble_eq_true rfl, Nat.le_of_ble_eq_true rfl⟩ (fun r_38 u_39 H locs q_37 hP hD hS => ?_)
          obtain ⟨rfl, rfl⟩ := q_37
          have hP : va_P (dC, dI) vwCl (rW g ty Y pa kp ks I tl ac 1 1) H := hP
          have hD : va_D A (rW g ty Y pa kp ks I tl ac 1 1) := hD
          refine cr_l (wo := fun u : rY × (Nat → Int32) × (Nat → Int32) × (Nat → Int32) × Int32 × Int32 => rW g ty u.1 u.2.1 u.2.2.1 ks I u.2.2.2.1 ac u.2.2.2.2.1 u.2.2.2.2.2) ((Y, pa, kp, tl, 1, 1)) hx hb hr hlk hS hP hD ?_ dX12_copied_36
          exact ⟨0, Y, pa, kp, tl, 1, 1, rfl, rfl, (by subst hu; subst hrz; exact ra_f (f := 1) rel hcnt htl (by decide))⟩
        · show _
          exact absurd (by assumption) f_36
  · show _
    obtain ⟨n1t1, n2t1, n3t1⟩ := rk_some rel g2 g4
    have hnet1 := (i32_pos n1t1).2.1
    have tht1 := wf.1 _ _ g4
    have hzb0 := rk_none rel g3 g5
    have hl : lv_has ls 13 [(0, .ref (g 8)), (1, .int a0), (2, .int b0), (3, .int i0), (4, .int j0), (5, .int n0)] := hl
    refine lv_aload_n hx hb dX12_copied_0 rfl (lv_at hl 0 rfl) ?_
    refine lv_iload_n hx hb dX12_copied_1 rfl (lv_at hl 1 rfl) ?_
    refine cV_i (C := RX12) (n := 1) (rest := []) hx hb hml hown hg hT (c_X12_place l dC dI g ty s.heap.size Y pa kp ks I tl ac wr tw a0 ) (cv_of hg wM_X12_83 wN_X12_place wL_X12_X12_place wK_X12_place wI_X12 (by decide +kernel) ⟨Nat.le_of_ble_eq_true rfl, Nat.le_of_ble_eq_true rfl⟩) hK hP hD hS hA (va_recv hK hP (ci := 14) (q0 := 0) rfl rfl) rfl hl.1 rfl (Nat.le_of_ble_eq_true rfl) dX12_copied_2 ⟨Nat.le_of_ble_eq_true rfl, Nat.le_of_ble_eq_true rfl⟩ (fun r_41 u_42 H locs q_40 hP hD hS => ?_)
    rcases q_40 with ⟨rfl, rfl, f_43⟩ | ⟨rfl, rfl, f_44⟩
    · show _
      exact absurd (by assumption) f_43
    · show _
      have hP : va_P (dC, dI) vwCl (rW g ty Y pa kp ks I tl ac wr tw) H := hP
      have hD : va_D A (rW g ty Y pa kp ks I tl ac wr tw) := hD
      refine lv_if_eq (tgt := 32) hx hb dX12_copied_5 (by decide) (fun c9 => absurd c9 (by decide)) (fun _ => ?_)
      refine lv_aload_n hx hb dX12_copied_8 rfl (lv_at hl 0 rfl) ?_
      refine lv_iload_n hx hb dX12_copied_9 rfl (lv_at hl 2 rfl) ?_
      refine cV_i (C := RX12) (n := 1) (rest := []) hx hb hml hown hg hT (c_X12_place l dC dI g ty H.size Y pa kp ks I tl ac wr tw b0 ) (cv_of hg wM_X12_83 wN_X12_place wL_X12_X12_place wK_X12_place wI_X12 (by decide +kernel) ⟨Nat.le_of_ble_eq_true rfl, Nat.le_of_ble_eq_true rfl⟩) hK hP hD hS hA (va_recv hK hP (ci := 14) (q0 := 0) rfl rfl) rfl hl.1 rfl (Nat.le_of_ble_eq_true rfl) dX12_copied_10 ⟨Nat.le_of_ble_eq_true rfl, Nat.le_of_ble_eq_true rfl⟩ (fun r_46 u_47 H locs q_45 hP hD hS => ?_)
      rcases q_45 with ⟨rfl, rfl, f_48⟩ | ⟨rfl, rfl, f_49⟩
      · show _
        exact absurd (by assumption) f_48
      · show _
        have hP : va_P (dC, dI) vwCl (rW g ty Y pa kp ks I tl ac wr tw) H := hP
        have hD : va_D A (rW g ty Y pa kp ks I tl ac wr tw) := hD
        refine lv_if_eq (tgt := 32) hx hb dX12_copied_13 (by decide) (fun c9 => absurd c9 (by decide)) (fun _ => ?_)
        refine lv_aload_n hx hb dX12_copied_16 rfl (lv_at hl 0 rfl) ?_
        refine lv_iload_n hx hb dX12_copied_17 rfl (lv_at hl 1 rfl) ?_
        refine cV_i (C := RX12) (n := 1) (rest := []) hx hb hml hown hg hT (c_X12_need l dC dI g ty H.size Y pa kp ks I tl ac wr tw a0 (by assumption)) (cv_of hg wM_X12_134 wN_X12_need wL_X12_X12_need wK_X12_need wI_X12 (by decide +kernel) ⟨Nat.le_of_ble_eq_true rfl, Nat.le_of_ble_eq_true rfl⟩) hK hP hD hS hA (va_recv hK hP (ci := 14) (q0 := 0) rfl rfl) rfl hl.1 rfl (Nat.le_of_ble_eq_true rfl) dX12_copied_18 ⟨Nat.le_of_ble_eq_true rfl, Nat.le_of_ble_eq_true rfl⟩ (fun r_51 u_52 H locs q_50 hP hD hS => ?_)
        rcases q_50 with ⟨rfl, rfl, f_53⟩ | ⟨rfl, rfl, f_54⟩
        · show _
          exact absurd f_53 (by assumption)
        · show _
          have hP : va_P (dC, dI) vwCl (rW g ty Y pa kp ks I tl ac wr tw) H := hP
          have hD : va_D A (rW g ty Y pa kp ks I tl ac wr tw) := hD
          refine lv_if_eq (tgt := 32) hx hb dX12_copied_21 (by decide) (fun c9 => absurd c9 (by decide)) (fun _ => ?_)
          refine lv_aload_n hx hb dX12_copied_24 rfl (lv_at hl 0 rfl) ?_
          refine lv_iload_n hx hb dX12_copied_25 rfl (lv_at hl 2 rfl) ?_
          refine cV_i (C := RX12) (n := 1) (rest := []) hx hb hml hown hg hT (c_X12_need l dC dI g ty H.size Y pa kp ks I tl ac wr tw b0 (by assumption)) (cv_of hg wM_X12_134 wN_X12_need wL_X12_X12_need wK_X12_need wI_X12 (by decide +kernel) ⟨Nat.le_of_ble_eq_true rfl, Nat.le_of_ble_eq_true rfl⟩) hK hP hD hS hA (va_recv hK hP (ci := 14) (q0 := 0) rfl rfl) rfl hl.1 rfl (Nat.le_of_ble_eq_true rfl) dX12_copied_26 ⟨Nat.le_of_ble_eq_true rfl, Nat.le_of_ble_eq_true rfl⟩ (fun r_56 u_57 H locs q_55 hP hD hS => ?_)
          rcases q_55 with ⟨rfl, rfl, f_58⟩ | ⟨rfl, rfl, f_59⟩
          · show _
            have hP : va_P (dC, dI) vwCl (rW g ty Y pa kp ks I tl ac 1 tw) H := hP
            have hD : va_D A (rW g ty Y pa kp ks I tl ac 1 tw) := hD
            refine lv_if_ne (tgt := 37) hx hb dX12_copied_29 (by decide) (fun c9 => absurd (by decide) c9) (fun _ => ?_)
            refine lv_aload_n hx hb dX12_copied_32 rfl (lv_at hl 0 rfl) ?_
            refine cV_l (C := RX12) (n := 0) (rest := []) hx hb hml hown hg hT (c_X12_no l dC dI g ty H.size Y pa kp ks I tl ac 1 tw  ) (cv_of hg wM_X12_107 wN_X12_no wL_X12_X12_no wK_X12_no wI_X12 (by decide +kernel) ⟨Nat.le_of_ble_eq_true rfl, Nat.le_of_ble_eq_true rfl⟩) hK hP hD hS hA (va_recv hK hP (ci := 14) (q0 := 0) rfl rfl) rfl hl.1 rfl (Nat.le_of_ble_eq_true rfl) dX12_copied_33 ⟨Nat.le_of_ble_eq_true rfl, Nat.le_of_ble_eq_true rfl⟩ (fun r_61 u_62 H locs q_60 hP hD hS => ?_)
            obtain ⟨rfl, rfl⟩ := q_60
            have hP : va_P (dC, dI) vwCl (rW g ty Y pa kp ks I tl ac 1 1) H := hP
            have hD : va_D A (rW g ty Y pa kp ks I tl ac 1 1) := hD
            refine cr_l (wo := fun u : rY × (Nat → Int32) × (Nat → Int32) × (Nat → Int32) × Int32 × Int32 => rW g ty u.1 u.2.1 u.2.2.1 ks I u.2.2.2.1 ac u.2.2.2.2.1 u.2.2.2.2.2) ((Y, pa, kp, tl, 1, 1)) hx hb hr hlk hS hP hD ?_ dX12_copied_36
            exact ⟨0, Y, pa, kp, tl, 1, 1, rfl, rfl, (by subst hu; subst hrz; exact ra_f (f := 1) rel hcnt htl (by decide))⟩
          · show _
            exact absurd (by assumption) f_59
  · show _
    obtain ⟨n1t1, n2t1, n3t1⟩ := rk_some rel g2 g4
    have hnet1 := (i32_pos n1t1).2.1
    have tht1 := wf.1 _ _ g4
    obtain ⟨n1t2, n2t2, n3t2⟩ := rk_some rel g3 g5
    have hnet2 := (i32_pos n1t2).2.1
    have tht2 := wf.1 _ _ g5
    have hsr1 := rv_sr rel n1t1 n2t1 n3t1
    have hsr2 := rv_sr rel n1t2 n2t2 n3t2
    have hck := cp_kind wf tht1 tht2 hsr1 hsr2
    have hin1 := (rk_in rel n1t1 n2t1).1
    have hin2 := (rk_in rel n1t2 n2t2).1
    have hcr := hck.1 ⟨g6, g7, g8⟩
    have hv1 := rv_row rel n1t1 n2t1 n3t1 g6 g9
    obtain ⟨z1, ez1, _, _, hl1⟩ := wf.2.2.1 t1 tht1.1 g6
    cases g9.symm.trans ez1
    have hl : lv_has ls 13 [(0, .ref (g 8)), (1, .int a0), (2, .int b0), (3, .int i0), (4, .int j0), (5, .int n0)] := hl
    refine lv_aload_n hx hb dX12_copied_0 rfl (lv_at hl 0 rfl) ?_
    refine lv_iload_n hx hb dX12_copied_1 rfl (lv_at hl 1 rfl) ?_
    refine cV_i (C := RX12) (n := 1) (rest := []) hx hb hml hown hg hT (c_X12_place l dC dI g ty s.heap.size Y pa kp ks I tl ac wr tw a0 ) (cv_of hg wM_X12_83 wN_X12_place wL_X12_X12_place wK_X12_place wI_X12 (by decide +kernel) ⟨Nat.le_of_ble_eq_true rfl, Nat.le_of_ble_eq_true rfl⟩) hK hP hD hS hA (va_recv hK hP (ci := 14) (q0 := 0) rfl rfl) rfl hl.1 rfl (Nat.le_of_ble_eq_true rfl) dX12_copied_2 ⟨Nat.le_of_ble_eq_true rfl, Nat.le_of_ble_eq_true rfl⟩ (fun r_64 u_65 H locs q_63 hP hD hS => ?_)
    rcases q_63 with ⟨rfl, rfl, f_66⟩ | ⟨rfl, rfl, f_67⟩
    · show _
      exact absurd (by assumption) f_66
    · show _
      have hP : va_P (dC, dI) vwCl (rW g ty Y pa kp ks I tl ac wr tw) H := hP
      have hD : va_D A (rW g ty Y pa kp ks I tl ac wr tw) := hD
      refine lv_if_eq (tgt := 32) hx hb dX12_copied_5 (by decide) (fun c9 => absurd c9 (by decide)) (fun _ => ?_)
      refine lv_aload_n hx hb dX12_copied_8 rfl (lv_at hl 0 rfl) ?_
      refine lv_iload_n hx hb dX12_copied_9 rfl (lv_at hl 2 rfl) ?_
      refine cV_i (C := RX12) (n := 1) (rest := []) hx hb hml hown hg hT (c_X12_place l dC dI g ty H.size Y pa kp ks I tl ac wr tw b0 ) (cv_of hg wM_X12_83 wN_X12_place wL_X12_X12_place wK_X12_place wI_X12 (by decide +kernel) ⟨Nat.le_of_ble_eq_true rfl, Nat.le_of_ble_eq_true rfl⟩) hK hP hD hS hA (va_recv hK hP (ci := 14) (q0 := 0) rfl rfl) rfl hl.1 rfl (Nat.le_of_ble_eq_true rfl) dX12_copied_10 ⟨Nat.le_of_ble_eq_true rfl, Nat.le_of_ble_eq_true rfl⟩ (fun r_69 u_70 H locs q_68 hP hD hS => ?_)
      rcases q_68 with ⟨rfl, rfl, f_71⟩ | ⟨rfl, rfl, f_72⟩
      · show _
        exact absurd (by assumption) f_71
      · show _
        have hP : va_P (dC, dI) vwCl (rW g ty Y pa kp ks I tl ac wr tw) H := hP
        have hD : va_D A (rW g ty Y pa kp ks I tl ac wr tw) := hD
        refine lv_if_eq (tgt := 32) hx hb dX12_copied_13 (by decide) (fun c9 => absurd c9 (by decide)) (fun _ => ?_)
        refine lv_aload_n hx hb dX12_copied_16 rfl (lv_at hl 0 rfl) ?_
        refine lv_iload_n hx hb dX12_copied_17 rfl (lv_at hl 1 rfl) ?_
        refine cV_i (C := RX12) (n := 1) (rest := []) hx hb hml hown hg hT (c_X12_need l dC dI g ty H.size Y pa kp ks I tl ac wr tw a0 (by assumption)) (cv_of hg wM_X12_134 wN_X12_need wL_X12_X12_need wK_X12_need wI_X12 (by decide +kernel) ⟨Nat.le_of_ble_eq_true rfl, Nat.le_of_ble_eq_true rfl⟩) hK hP hD hS hA (va_recv hK hP (ci := 14) (q0 := 0) rfl rfl) rfl hl.1 rfl (Nat.le_of_ble_eq_true rfl) dX12_copied_18 ⟨Nat.le_of_ble_eq_true rfl, Nat.le_of_ble_eq_true rfl⟩ (fun r_74 u_75 H locs q_73 hP hD hS => ?_)
        rcases q_73 with ⟨rfl, rfl, f_76⟩ | ⟨rfl, rfl, f_77⟩
        · show _
          exact absurd f_76 (by assumption)
        · show _
          have hP : va_P (dC, dI) vwCl (rW g ty Y pa kp ks I tl ac wr tw) H := hP
          have hD : va_D A (rW g ty Y pa kp ks I tl ac wr tw) := hD
          refine lv_if_eq (tgt := 32) hx hb dX12_copied_21 (by decide) (fun c9 => absurd c9 (by decide)) (fun _ => ?_)
          refine lv_aload_n hx hb dX12_copied_24 rfl (lv_at hl 0 rfl) ?_
          refine lv_iload_n hx hb dX12_copied_25 rfl (lv_at hl 2 rfl) ?_
          refine cV_i (C := RX12) (n := 1) (rest := []) hx hb hml hown hg hT (c_X12_need l dC dI g ty H.size Y pa kp ks I tl ac wr tw b0 (by assumption)) (cv_of hg wM_X12_134 wN_X12_need wL_X12_X12_need wK_X12_need wI_X12 (by decide +kernel) ⟨Nat.le_of_ble_eq_true rfl, Nat.le_of_ble_eq_true rfl⟩) hK hP hD hS hA (va_recv hK hP (ci := 14) (q0 := 0) rfl rfl) rfl hl.1 rfl (Nat.le_of_ble_eq_true rfl) dX12_copied_26 ⟨Nat.le_of_ble_eq_true rfl, Nat.le_of_ble_eq_true rfl⟩ (fun r_79 u_80 H locs q_78 hP hD hS => ?_)
          rcases q_78 with ⟨rfl, rfl, f_81⟩ | ⟨rfl, rfl, f_82⟩
          · show _
            exact absurd f_81 (by assumption)
          · show _
            have hP : va_P (dC, dI) vwCl (rW g ty Y pa kp ks I tl ac wr tw) H := hP
            have hD : va_D A (rW g ty Y pa kp ks I tl ac wr tw) := hD
            refine lv_if_ne (tgt := 37) hx hb dX12_copied_29 (by decide) (fun _ => ?_) (fun c9 => absurd c9 (by decide)) 
            refine lv_aload_n hx hb dX12_copied_37 rfl (lv_at hl 0 rfl) ?_
            refine va_get (D := (dC, dI)) (ci := 14) (v := .ref (g 9)) (C := RX12) (T := TX12) (N := 21) hx hb hg inG12 hown hK hP 0 rfl rfl 8 (by decide) (hg _ wF_X12_34) (fun _ h9 => h9) rfl dX12_copied_38 ?_
            refine lv_iload_n hx hb dX12_copied_41 rfl (lv_at hl 1 rfl) ?_
            refine va_iald hx hb hK hP 7 0 rfl rfl (by assumption) dX12_copied_42 ?_
            refine lv_istore (lv' := [(6, .int (pa a0.toNatClampNeg)), (0, .ref (g 8)), (1, .int a0), (2, .int b0), (3, .int i0), (4, .int j0), (5, .int n0)]) hx hb dX12_copied_43 hl (by decide) rfl (fun ls hl => ?_)
            refine lv_aload_n hx hb dX12_copied_45 rfl (lv_at hl 1 rfl) ?_
            refine va_get (D := (dC, dI)) (ci := 14) (v := .ref (g 9)) (C := RX12) (T := TX12) (N := 21) hx hb hg inG12 hown hK hP 0 rfl rfl 8 (by decide) (hg _ wF_X12_34) (fun _ h9 => h9) rfl dX12_copied_46 ?_
            refine lv_iload_n hx hb dX12_copied_49 rfl (lv_at hl 3 rfl) ?_
            refine va_iald hx hb hK hP 7 0 rfl rfl (by assumption) dX12_copied_50 ?_
            refine lv_istore (lv' := [(7, .int (pa b0.toNatClampNeg)), (6, .int (pa a0.toNatClampNeg)), (0, .ref (g 8)), (1, .int a0), (2, .int b0), (3, .int i0), (4, .int j0), (5, .int n0)]) hx hb dX12_copied_51 hl (by decide) rfl (fun ls hl => ?_)
            refine lv_aload_n hx hb dX12_copied_53 rfl (lv_at hl 2 rfl) ?_
            refine va_get (D := (dC, dI)) (ci := 14) (v := .ref (Y.2.2.2.2.2.2.1 0)) (C := RX12) (T := TX12) (N := 21) hx hb hg inG12 hown hK hP 0 rfl rfl 0 (by decide) (hg _ wF_X12_7) (fun _ h9 => h9) rfl dX12_copied_54 ?_
            refine lv_iload hx hb dX12_copied_57 (lv_at hl 1 rfl) ?_
            refine va_iald hx hb hK hP 1 0 rfl rfl (by exact hin1) dX12_copied_59 ?_
            refine lv_bipush (v := 12) hx hb dX12_copied_60 (by decide) ?_
            refine lv_icmp_ge (tgt := 118) hx hb dX12_copied_62 (by decide) (fun c9 => absurd c9 hcr.1) (fun _ => ?_)
            refine lv_aload_n hx hb dX12_copied_65 rfl (lv_at hl 2 rfl) ?_
            refine va_get (D := (dC, dI)) (ci := 14) (v := .ref (Y.2.2.2.2.2.2.1 0)) (C := RX12) (T := TX12) (N := 21) hx hb hg inG12 hown hK hP 0 rfl rfl 0 (by decide) (hg _ wF_X12_7) (fun _ h9 => h9) rfl dX12_copied_66 ?_
            refine lv_iload hx hb dX12_copied_69 (lv_at hl 0 rfl) ?_
            refine va_iald hx hb hK hP 1 0 rfl rfl (by exact hin2) dX12_copied_71 ?_
            refine lv_bipush (v := 12) hx hb dX12_copied_72 (by decide) ?_
            refine lv_icmp_ge (tgt := 118) hx hb dX12_copied_74 (by decide) (fun c9 => absurd c9 hcr.2.1) (fun _ => ?_)
            refine lv_aload_n hx hb dX12_copied_77 rfl (lv_at hl 2 rfl) ?_
            refine va_get (D := (dC, dI)) (ci := 14) (v := .ref (Y.2.2.2.2.2.2.1 0)) (C := RX12) (T := TX12) (N := 21) hx hb hg inG12 hown hK hP 0 rfl rfl 0 (by decide) (hg _ wF_X12_7) (fun _ h9 => h9) rfl dX12_copied_78 ?_
            refine lv_iload hx hb dX12_copied_81 (lv_at hl 1 rfl) ?_
            refine va_iald hx hb hK hP 1 0 rfl rfl (by exact hin1) dX12_copied_83 ?_
            refine lv_bipush (v := 8) hx hb dX12_copied_84 (by decide) ?_
            refine lv_icmp_lt (tgt := 101) hx hb dX12_copied_86 (by decide) (fun _ => ?_) (fun c9 => absurd hcr.2.2.1 c9)
            refine lv_aload_n hx hb dX12_copied_101 rfl (lv_at hl 2 rfl) ?_
            refine va_get (D := (dC, dI)) (ci := 14) (v := .ref (Y.2.2.2.2.2.2.1 0)) (C := RX12) (T := TX12) (N := 21) hx hb hg inG12 hown hK hP 0 rfl rfl 0 (by decide) (hg _ wF_X12_7) (fun _ h9 => h9) rfl dX12_copied_102 ?_
            refine lv_iload hx hb dX12_copied_105 (lv_at hl 1 rfl) ?_
            refine va_iald hx hb hK hP 1 0 rfl rfl (by exact hin1) dX12_copied_107 ?_
            refine lv_aload_n hx hb dX12_copied_108 rfl (lv_at hl 2 rfl) ?_
            refine va_get (D := (dC, dI)) (ci := 14) (v := .ref (Y.2.2.2.2.2.2.1 0)) (C := RX12) (T := TX12) (N := 21) hx hb hg inG12 hown hK hP 0 rfl rfl 0 (by decide) (hg _ wF_X12_7) (fun _ h9 => h9) rfl dX12_copied_109 ?_
            refine lv_iload hx hb dX12_copied_112 (lv_at hl 0 rfl) ?_
            refine va_iald hx hb hK hP 1 0 rfl rfl (by exact hin2) dX12_copied_114 ?_
            refine lv_icmp_eq (tgt := 129) hx hb dX12_copied_115 (by decide) (fun _ => ?_) (fun c9 => absurd hcr.2.2.2.2 c9)
            refine lv_iload_n hx hb dX12_copied_129 rfl (lv_at hl 5 rfl) ?_
            refine lv_if_lt (tgt := 172) hx hb dX12_copied_130 (by decide) (fun c_83 => ?_) (fun c_83 => ?_)
            · show _
              refine lv_aload_n hx hb dX12_copied_172 rfl (lv_at hl 2 rfl) ?_
              refine lv_iconst (v := 2) hx hb dX12_copied_173 (by decide) ?_
              refine cV_i (C := RX12) (n := 1) (rest := []) hx hb hml hown hg hT (c_X12_fails l dC dI g ty H.size Y pa kp ks I tl ac wr tw 2 ) (cv_of hg wM_X12_79 wN_X12_fails wL_X12_X12_fails wK_X12_fails wI_X12 (by decide +kernel) ⟨Nat.le_of_ble_eq_true rfl, Nat.le_of_ble_eq_true rfl⟩) hK hP hD hS hA (va_recv hK hP (ci := 14) (q0 := 0) rfl rfl) rfl hl.1 rfl (Nat.le_of_ble_eq_true rfl) dX12_copied_174 ⟨Nat.le_of_ble_eq_true rfl, Nat.le_of_ble_eq_true rfl⟩ (fun r_85 u_86 H locs q_84 hP hD hS => ?_)
              obtain ⟨rfl, rfl⟩ := q_84
              have hP : va_P (dC, dI) vwCl (rW g ty Y pa kp ks I tl ac 2 tw) H := hP
              have hD : va_D A (rW g ty Y pa kp ks I tl ac 2 tw) := hD
              refine lv_pop hx hb dX12_copied_177 rfl ?_
              refine lv_aload_n hx hb dX12_copied_178 rfl (lv_at hl 2 rfl) ?_
              refine cV_l (C := RX12) (n := 0) (rest := []) hx hb hml hown hg hT (c_X12_no l dC dI g ty H.size Y pa kp ks I tl ac 2 tw  ) (cv_of hg wM_X12_107 wN_X12_no wL_X12_X12_no wK_X12_no wI_X12 (by decide +kernel) ⟨Nat.le_of_ble_eq_true rfl, Nat.le_of_ble_eq_true rfl⟩) hK hP hD hS hA (va_recv hK hP (ci := 14) (q0 := 0) rfl rfl) rfl hl.1 rfl (Nat.le_of_ble_eq_true rfl) dX12_copied_179 ⟨Nat.le_of_ble_eq_true rfl, Nat.le_of_ble_eq_true rfl⟩ (fun r_88 u_89 H locs q_87 hP hD hS => ?_)
              obtain ⟨rfl, rfl⟩ := q_87
              have hP : va_P (dC, dI) vwCl (rW g ty Y pa kp ks I tl ac 2 1) H := hP
              have hD : va_D A (rW g ty Y pa kp ks I tl ac 2 1) := hD
              refine cr_l (wo := fun u : rY × (Nat → Int32) × (Nat → Int32) × (Nat → Int32) × Int32 × Int32 => rW g ty u.1 u.2.1 u.2.2.1 ks I u.2.2.2.1 ac u.2.2.2.2.1 u.2.2.2.2.2) ((Y, pa, kp, tl, 2, 1)) hx hb hr hlk hS hP hD ?_ dX12_copied_182
              exact ⟨0, Y, pa, kp, tl, 2, 1, rfl, rfl, (by subst hu; subst hrz; exact ra_f (f := 2) rel hcnt htl (by decide))⟩
            · show _
              refine lv_iload hx hb dX12_copied_133 (lv_at hl 6 rfl) ?_
              refine lv_if_lt (tgt := 172) hx hb dX12_copied_135 (by decide) (fun c_90 => ?_) (fun c_90 => ?_)
              · show _
                refine lv_aload_n hx hb dX12_copied_172 rfl (lv_at hl 2 rfl) ?_
                refine lv_iconst (v := 2) hx hb dX12_copied_173 (by decide) ?_
                refine cV_i (C := RX12) (n := 1) (rest := []) hx hb hml hown hg hT (c_X12_fails l dC dI g ty H.size Y pa kp ks I tl ac wr tw 2 ) (cv_of hg wM_X12_79 wN_X12_fails wL_X12_X12_fails wK_X12_fails wI_X12 (by decide +kernel) ⟨Nat.le_of_ble_eq_true rfl, Nat.le_of_ble_eq_true rfl⟩) hK hP hD hS hA (va_recv hK hP (ci := 14) (q0 := 0) rfl rfl) rfl hl.1 rfl (Nat.le_of_ble_eq_true rfl) dX12_copied_174 ⟨Nat.le_of_ble_eq_true rfl, Nat.le_of_ble_eq_true rfl⟩ (fun r_92 u_93 H locs q_91 hP hD hS => ?_)
                obtain ⟨rfl, rfl⟩ := q_91
                have hP : va_P (dC, dI) vwCl (rW g ty Y pa kp ks I tl ac 2 tw) H := hP
                have hD : va_D A (rW g ty Y pa kp ks I tl ac 2 tw) := hD
                refine lv_pop hx hb dX12_copied_177 rfl ?_
                refine lv_aload_n hx hb dX12_copied_178 rfl (lv_at hl 2 rfl) ?_
                refine cV_l (C := RX12) (n := 0) (rest := []) hx hb hml hown hg hT (c_X12_no l dC dI g ty H.size Y pa kp ks I tl ac 2 tw  ) (cv_of hg wM_X12_107 wN_X12_no wL_X12_X12_no wK_X12_no wI_X12 (by decide +kernel) ⟨Nat.le_of_ble_eq_true rfl, Nat.le_of_ble_eq_true rfl⟩) hK hP hD hS hA (va_recv hK hP (ci := 14) (q0 := 0) rfl rfl) rfl hl.1 rfl (Nat.le_of_ble_eq_true rfl) dX12_copied_179 ⟨Nat.le_of_ble_eq_true rfl, Nat.le_of_ble_eq_true rfl⟩ (fun r_95 u_96 H locs q_94 hP hD hS => ?_)
                obtain ⟨rfl, rfl⟩ := q_94
                have hP : va_P (dC, dI) vwCl (rW g ty Y pa kp ks I tl ac 2 1) H := hP
                have hD : va_D A (rW g ty Y pa kp ks I tl ac 2 1) := hD
                refine cr_l (wo := fun u : rY × (Nat → Int32) × (Nat → Int32) × (Nat → Int32) × Int32 × Int32 => rW g ty u.1 u.2.1 u.2.2.1 ks I u.2.2.2.1 ac u.2.2.2.2.1 u.2.2.2.2.2) ((Y, pa, kp, tl, 2, 1)) hx hb hr hlk hS hP hD ?_ dX12_copied_182
                exact ⟨0, Y, pa, kp, tl, 2, 1, rfl, rfl, (by subst hu; subst hrz; exact ra_f (f := 2) rel hcnt htl (by decide))⟩
              · show _
                refine lv_iload hx hb dX12_copied_138 (lv_at hl 7 rfl) ?_
                refine lv_if_lt (tgt := 172) hx hb dX12_copied_140 (by decide) (fun c_97 => ?_) (fun c_97 => ?_)
                · show _
                  refine lv_aload_n hx hb dX12_copied_172 rfl (lv_at hl 2 rfl) ?_
                  refine lv_iconst (v := 2) hx hb dX12_copied_173 (by decide) ?_
                  refine cV_i (C := RX12) (n := 1) (rest := []) hx hb hml hown hg hT (c_X12_fails l dC dI g ty H.size Y pa kp ks I tl ac wr tw 2 ) (cv_of hg wM_X12_79 wN_X12_fails wL_X12_X12_fails wK_X12_fails wI_X12 (by decide +kernel) ⟨Nat.le_of_ble_eq_true rfl, Nat.le_of_ble_eq_true rfl⟩) hK hP hD hS hA (va_recv hK hP (ci := 14) (q0 := 0) rfl rfl) rfl hl.1 rfl (Nat.le_of_ble_eq_true rfl) dX12_copied_174 ⟨Nat.le_of_ble_eq_true rfl, Nat.le_of_ble_eq_true rfl⟩ (fun r_99 u_100 H locs q_98 hP hD hS => ?_)
                  obtain ⟨rfl, rfl⟩ := q_98
                  have hP : va_P (dC, dI) vwCl (rW g ty Y pa kp ks I tl ac 2 tw) H := hP
                  have hD : va_D A (rW g ty Y pa kp ks I tl ac 2 tw) := hD
                  refine lv_pop hx hb dX12_copied_177 rfl ?_
                  refine lv_aload_n hx hb dX12_copied_178 rfl (lv_at hl 2 rfl) ?_
                  refine cV_l (C := RX12) (n := 0) (rest := []) hx hb hml hown hg hT (c_X12_no l dC dI g ty H.size Y pa kp ks I tl ac 2 tw  ) (cv_of hg wM_X12_107 wN_X12_no wL_X12_X12_no wK_X12_no wI_X12 (by decide +kernel) ⟨Nat.le_of_ble_eq_true rfl, Nat.le_of_ble_eq_true rfl⟩) hK hP hD hS hA (va_recv hK hP (ci := 14) (q0 := 0) rfl rfl) rfl hl.1 rfl (Nat.le_of_ble_eq_true rfl) dX12_copied_179 ⟨Nat.le_of_ble_eq_true rfl, Nat.le_of_ble_eq_true rfl⟩ (fun r_102 u_103 H locs q_101 hP hD hS => ?_)
                  obtain ⟨rfl, rfl⟩ := q_101
                  have hP : va_P (dC, dI) vwCl (rW g ty Y pa kp ks I tl ac 2 1) H := hP
                  have hD : va_D A (rW g ty Y pa kp ks I tl ac 2 1) := hD
                  refine cr_l (wo := fun u : rY × (Nat → Int32) × (Nat → Int32) × (Nat → Int32) × Int32 × Int32 => rW g ty u.1 u.2.1 u.2.2.1 ks I u.2.2.2.1 ac u.2.2.2.2.1 u.2.2.2.2.2) ((Y, pa, kp, tl, 2, 1)) hx hb hr hlk hS hP hD ?_ dX12_copied_182
                  exact ⟨0, Y, pa, kp, tl, 2, 1, rfl, rfl, (by subst hu; subst hrz; exact ra_f (f := 2) rel hcnt htl (by decide))⟩
                · show _
                  refine lv_iload_n hx hb dX12_copied_143 rfl (lv_at hl 5 rfl) ?_
                  refine lv_iload hx hb dX12_copied_144 (lv_at hl 7 rfl) ?_
                  refine lv_iadd hx hb dX12_copied_146 ?_
                  refine lv_aload_n hx hb dX12_copied_147 rfl (lv_at hl 2 rfl) ?_
                  refine va_get (D := (dC, dI)) (ci := 14) (v := .ref (Y.2.2.2.2.2.2.1 2)) (C := RX12) (T := TX12) (N := 21) hx hb hg inG12 hown hK hP 0 rfl rfl 2 (by decide) (hg _ wF_X12_16) (fun _ h9 => h9) rfl dX12_copied_148 ?_
                  refine lv_iload hx hb dX12_copied_151 (lv_at hl 1 rfl) ?_
                  refine va_iald hx hb hK hP 3 0 rfl rfl (by exact hin1) dX12_copied_153 ?_
                  refine lv_icmp_gt (tgt := 172) hx hb dX12_copied_154 (by decide) (fun c_104 => ?_) (fun c_104 => ?_)
                  · show _
                    refine lv_aload_n hx hb dX12_copied_172 rfl (lv_at hl 2 rfl) ?_
                    refine lv_iconst (v := 2) hx hb dX12_copied_173 (by decide) ?_
                    refine cV_i (C := RX12) (n := 1) (rest := []) hx hb hml hown hg hT (c_X12_fails l dC dI g ty H.size Y pa kp ks I tl ac wr tw 2 ) (cv_of hg wM_X12_79 wN_X12_fails wL_X12_X12_fails wK_X12_fails wI_X12 (by decide +kernel) ⟨Nat.le_of_ble_eq_true rfl, Nat.le_of_ble_eq_true rfl⟩) hK hP hD hS hA (va_recv hK hP (ci := 14) (q0 := 0) rfl rfl) rfl hl.1 rfl (Nat.le_of_ble_eq_true rfl) dX12_copied_174 ⟨Nat.le_of_ble_eq_true rfl, Nat.le_of_ble_eq_true rfl⟩ (fun r_106 u_107 H locs q_105 hP hD hS => ?_)
                    obtain ⟨rfl, rfl⟩ := q_105
                    have hP : va_P (dC, dI) vwCl (rW g ty Y pa kp ks I tl ac 2 tw) H := hP
                    have hD : va_D A (rW g ty Y pa kp ks I tl ac 2 tw) := hD
                    refine lv_pop hx hb dX12_copied_177 rfl ?_
                    refine lv_aload_n hx hb dX12_copied_178 rfl (lv_at hl 2 rfl) ?_
                    refine cV_l (C := RX12) (n := 0) (rest := []) hx hb hml hown hg hT (c_X12_no l dC dI g ty H.size Y pa kp ks I tl ac 2 tw  ) (cv_of hg wM_X12_107 wN_X12_no wL_X12_X12_no wK_X12_no wI_X12 (by decide +kernel) ⟨Nat.le_of_ble_eq_true rfl, Nat.le_of_ble_eq_true rfl⟩) hK hP hD hS hA (va_recv hK hP (ci := 14) (q0 := 0) rfl rfl) rfl hl.1 rfl (Nat.le_of_ble_eq_true rfl) dX12_copied_179 ⟨Nat.le_of_ble_eq_true rfl, Nat.le_of_ble_eq_true rfl⟩ (fun r_109 u_110 H locs q_108 hP hD hS => ?_)
                    obtain ⟨rfl, rfl⟩ := q_108
                    have hP : va_P (dC, dI) vwCl (rW g ty Y pa kp ks I tl ac 2 1) H := hP
                    have hD : va_D A (rW g ty Y pa kp ks I tl ac 2 1) := hD
                    refine cr_l (wo := fun u : rY × (Nat → Int32) × (Nat → Int32) × (Nat → Int32) × Int32 × Int32 => rW g ty u.1 u.2.1 u.2.2.1 ks I u.2.2.2.1 ac u.2.2.2.2.1 u.2.2.2.2.2) ((Y, pa, kp, tl, 2, 1)) hx hb hr hlk hS hP hD ?_ dX12_copied_182
                    exact ⟨0, Y, pa, kp, tl, 2, 1, rfl, rfl, (by subst hu; subst hrz; exact ra_f (f := 2) rel hcnt htl (by decide))⟩
                  · show _
                    refine lv_iload hx hb dX12_copied_157 (lv_at hl 6 rfl) ?_
                    refine lv_iload hx hb dX12_copied_159 (lv_at hl 7 rfl) ?_
                    refine lv_iadd hx hb dX12_copied_161 ?_
                    refine lv_aload_n hx hb dX12_copied_162 rfl (lv_at hl 2 rfl) ?_
                    refine va_get (D := (dC, dI)) (ci := 14) (v := .ref (Y.2.2.2.2.2.2.1 2)) (C := RX12) (T := TX12) (N := 21) hx hb hg inG12 hown hK hP 0 rfl rfl 2 (by decide) (hg _ wF_X12_16) (fun _ h9 => h9) rfl dX12_copied_163 ?_
                    refine lv_iload hx hb dX12_copied_166 (lv_at hl 0 rfl) ?_
                    refine va_iald hx hb hK hP 3 0 rfl rfl (by exact hin2) dX12_copied_168 ?_
                    refine lv_icmp_le (tgt := 183) hx hb dX12_copied_169 (by decide) (fun c_111 => ?_) (fun c_111 => ?_)
                    · show _
                      have hsp := (sp_by (i := i0) (n := n0) (m := (Y.2.2.1 (pa a0.toNatClampNeg).toNatClampNeg)) (by assumption) (by assumption) ⟨by_lt pre8, by_lt pre10⟩ hv1.2.1).mp (gt_le (by assumption))
                      rw [show (Y.2.2.1 (pa a0.toNatClampNeg).toNatClampNeg).toNatClampNeg = _ from hv1.2.2.1] at hsp
                      exact absurd hsp g10
                    · show _
                      refine lv_aload_n hx hb dX12_copied_172 rfl (lv_at hl 2 rfl) ?_
                      refine lv_iconst (v := 2) hx hb dX12_copied_173 (by decide) ?_
                      refine cV_i (C := RX12) (n := 1) (rest := []) hx hb hml hown hg hT (c_X12_fails l dC dI g ty H.size Y pa kp ks I tl ac wr tw 2 ) (cv_of hg wM_X12_79 wN_X12_fails wL_X12_X12_fails wK_X12_fails wI_X12 (by decide +kernel) ⟨Nat.le_of_ble_eq_true rfl, Nat.le_of_ble_eq_true rfl⟩) hK hP hD hS hA (va_recv hK hP (ci := 14) (q0 := 0) rfl rfl) rfl hl.1 rfl (Nat.le_of_ble_eq_true rfl) dX12_copied_174 ⟨Nat.le_of_ble_eq_true rfl, Nat.le_of_ble_eq_true rfl⟩ (fun r_113 u_114 H locs q_112 hP hD hS => ?_)
                      obtain ⟨rfl, rfl⟩ := q_112
                      have hP : va_P (dC, dI) vwCl (rW g ty Y pa kp ks I tl ac 2 tw) H := hP
                      have hD : va_D A (rW g ty Y pa kp ks I tl ac 2 tw) := hD
                      refine lv_pop hx hb dX12_copied_177 rfl ?_
                      refine lv_aload_n hx hb dX12_copied_178 rfl (lv_at hl 2 rfl) ?_
                      refine cV_l (C := RX12) (n := 0) (rest := []) hx hb hml hown hg hT (c_X12_no l dC dI g ty H.size Y pa kp ks I tl ac 2 tw  ) (cv_of hg wM_X12_107 wN_X12_no wL_X12_X12_no wK_X12_no wI_X12 (by decide +kernel) ⟨Nat.le_of_ble_eq_true rfl, Nat.le_of_ble_eq_true rfl⟩) hK hP hD hS hA (va_recv hK hP (ci := 14) (q0 := 0) rfl rfl) rfl hl.1 rfl (Nat.le_of_ble_eq_true rfl) dX12_copied_179 ⟨Nat.le_of_ble_eq_true rfl, Nat.le_of_ble_eq_true rfl⟩ (fun r_116 u_117 H locs q_115 hP hD hS => ?_)
                      obtain ⟨rfl, rfl⟩ := q_115
                      have hP : va_P (dC, dI) vwCl (rW g ty Y pa kp ks I tl ac 2 1) H := hP
                      have hD : va_D A (rW g ty Y pa kp ks I tl ac 2 1) := hD
                      refine cr_l (wo := fun u : rY × (Nat → Int32) × (Nat → Int32) × (Nat → Int32) × Int32 × Int32 => rW g ty u.1 u.2.1 u.2.2.1 ks I u.2.2.2.1 ac u.2.2.2.2.1 u.2.2.2.2.2) ((Y, pa, kp, tl, 2, 1)) hx hb hr hlk hS hP hD ?_ dX12_copied_182
                      exact ⟨0, Y, pa, kp, tl, 2, 1, rfl, rfl, (by subst hu; subst hrz; exact ra_f (f := 2) rel hcnt htl (by decide))⟩
  · show _
    obtain ⟨n1t1, n2t1, n3t1⟩ := rk_some rel g2 g4
    have hnet1 := (i32_pos n1t1).2.1
    have tht1 := wf.1 _ _ g4
    obtain ⟨n1t2, n2t2, n3t2⟩ := rk_some rel g3 g5
    have hnet2 := (i32_pos n1t2).2.1
    have tht2 := wf.1 _ _ g5
    have hsr1 := rv_sr rel n1t1 n2t1 n3t1
    have hsr2 := rv_sr rel n1t2 n2t2 n3t2
    have hck := cp_kind wf tht1 tht2 hsr1 hsr2
    have hin1 := (rk_in rel n1t1 n2t1).1
    have hin2 := (rk_in rel n1t2 n2t2).1
    have hcr := hck.1 ⟨g6, g7, g8⟩
    have hv1 := rv_row rel n1t1 n2t1 n3t1 g6 g9
    obtain ⟨z1, ez1, _, _, hl1⟩ := wf.2.2.1 t1 tht1.1 g6
    cases g9.symm.trans ez1
    have hv2 := rv_row rel n1t2 n2t2 n3t2 g7 g10
    obtain ⟨z2, ez2, _, _, hl2⟩ := wf.2.2.1 t2 tht2.1 g7
    cases g10.symm.trans ez2
    have hl : lv_has ls 13 [(0, .ref (g 8)), (1, .int a0), (2, .int b0), (3, .int i0), (4, .int j0), (5, .int n0)] := hl
    refine lv_aload_n hx hb dX12_copied_0 rfl (lv_at hl 0 rfl) ?_
    refine lv_iload_n hx hb dX12_copied_1 rfl (lv_at hl 1 rfl) ?_
    refine cV_i (C := RX12) (n := 1) (rest := []) hx hb hml hown hg hT (c_X12_place l dC dI g ty s.heap.size Y pa kp ks I tl ac wr tw a0 ) (cv_of hg wM_X12_83 wN_X12_place wL_X12_X12_place wK_X12_place wI_X12 (by decide +kernel) ⟨Nat.le_of_ble_eq_true rfl, Nat.le_of_ble_eq_true rfl⟩) hK hP hD hS hA (va_recv hK hP (ci := 14) (q0 := 0) rfl rfl) rfl hl.1 rfl (Nat.le_of_ble_eq_true rfl) dX12_copied_2 ⟨Nat.le_of_ble_eq_true rfl, Nat.le_of_ble_eq_true rfl⟩ (fun r_119 u_120 H locs q_118 hP hD hS => ?_)
    rcases q_118 with ⟨rfl, rfl, f_121⟩ | ⟨rfl, rfl, f_122⟩
    · show _
      exact absurd (by assumption) f_121
    · show _
      have hP : va_P (dC, dI) vwCl (rW g ty Y pa kp ks I tl ac wr tw) H := hP
      have hD : va_D A (rW g ty Y pa kp ks I tl ac wr tw) := hD
      refine lv_if_eq (tgt := 32) hx hb dX12_copied_5 (by decide) (fun c9 => absurd c9 (by decide)) (fun _ => ?_)
      refine lv_aload_n hx hb dX12_copied_8 rfl (lv_at hl 0 rfl) ?_
      refine lv_iload_n hx hb dX12_copied_9 rfl (lv_at hl 2 rfl) ?_
      refine cV_i (C := RX12) (n := 1) (rest := []) hx hb hml hown hg hT (c_X12_place l dC dI g ty H.size Y pa kp ks I tl ac wr tw b0 ) (cv_of hg wM_X12_83 wN_X12_place wL_X12_X12_place wK_X12_place wI_X12 (by decide +kernel) ⟨Nat.le_of_ble_eq_true rfl, Nat.le_of_ble_eq_true rfl⟩) hK hP hD hS hA (va_recv hK hP (ci := 14) (q0 := 0) rfl rfl) rfl hl.1 rfl (Nat.le_of_ble_eq_true rfl) dX12_copied_10 ⟨Nat.le_of_ble_eq_true rfl, Nat.le_of_ble_eq_true rfl⟩ (fun r_124 u_125 H locs q_123 hP hD hS => ?_)
      rcases q_123 with ⟨rfl, rfl, f_126⟩ | ⟨rfl, rfl, f_127⟩
      · show _
        exact absurd (by assumption) f_126
      · show _
        have hP : va_P (dC, dI) vwCl (rW g ty Y pa kp ks I tl ac wr tw) H := hP
        have hD : va_D A (rW g ty Y pa kp ks I tl ac wr tw) := hD
        refine lv_if_eq (tgt := 32) hx hb dX12_copied_13 (by decide) (fun c9 => absurd c9 (by decide)) (fun _ => ?_)
        refine lv_aload_n hx hb dX12_copied_16 rfl (lv_at hl 0 rfl) ?_
        refine lv_iload_n hx hb dX12_copied_17 rfl (lv_at hl 1 rfl) ?_
        refine cV_i (C := RX12) (n := 1) (rest := []) hx hb hml hown hg hT (c_X12_need l dC dI g ty H.size Y pa kp ks I tl ac wr tw a0 (by assumption)) (cv_of hg wM_X12_134 wN_X12_need wL_X12_X12_need wK_X12_need wI_X12 (by decide +kernel) ⟨Nat.le_of_ble_eq_true rfl, Nat.le_of_ble_eq_true rfl⟩) hK hP hD hS hA (va_recv hK hP (ci := 14) (q0 := 0) rfl rfl) rfl hl.1 rfl (Nat.le_of_ble_eq_true rfl) dX12_copied_18 ⟨Nat.le_of_ble_eq_true rfl, Nat.le_of_ble_eq_true rfl⟩ (fun r_129 u_130 H locs q_128 hP hD hS => ?_)
        rcases q_128 with ⟨rfl, rfl, f_131⟩ | ⟨rfl, rfl, f_132⟩
        · show _
          exact absurd f_131 (by assumption)
        · show _
          have hP : va_P (dC, dI) vwCl (rW g ty Y pa kp ks I tl ac wr tw) H := hP
          have hD : va_D A (rW g ty Y pa kp ks I tl ac wr tw) := hD
          refine lv_if_eq (tgt := 32) hx hb dX12_copied_21 (by decide) (fun c9 => absurd c9 (by decide)) (fun _ => ?_)
          refine lv_aload_n hx hb dX12_copied_24 rfl (lv_at hl 0 rfl) ?_
          refine lv_iload_n hx hb dX12_copied_25 rfl (lv_at hl 2 rfl) ?_
          refine cV_i (C := RX12) (n := 1) (rest := []) hx hb hml hown hg hT (c_X12_need l dC dI g ty H.size Y pa kp ks I tl ac wr tw b0 (by assumption)) (cv_of hg wM_X12_134 wN_X12_need wL_X12_X12_need wK_X12_need wI_X12 (by decide +kernel) ⟨Nat.le_of_ble_eq_true rfl, Nat.le_of_ble_eq_true rfl⟩) hK hP hD hS hA (va_recv hK hP (ci := 14) (q0 := 0) rfl rfl) rfl hl.1 rfl (Nat.le_of_ble_eq_true rfl) dX12_copied_26 ⟨Nat.le_of_ble_eq_true rfl, Nat.le_of_ble_eq_true rfl⟩ (fun r_134 u_135 H locs q_133 hP hD hS => ?_)
          rcases q_133 with ⟨rfl, rfl, f_136⟩ | ⟨rfl, rfl, f_137⟩
          · show _
            exact absurd f_136 (by assumption)
          · show _
            have hP : va_P (dC, dI) vwCl (rW g ty Y pa kp ks I tl ac wr tw) H := hP
            have hD : va_D A (rW g ty Y pa kp ks I tl ac wr tw) := hD
            refine lv_if_ne (tgt := 37) hx hb dX12_copied_29 (by decide) (fun _ => ?_) (fun c9 => absurd c9 (by decide)) 
            refine lv_aload_n hx hb dX12_copied_37 rfl (lv_at hl 0 rfl) ?_
            refine va_get (D := (dC, dI)) (ci := 14) (v := .ref (g 9)) (C := RX12) (T := TX12) (N := 21) hx hb hg inG12 hown hK hP 0 rfl rfl 8 (by decide) (hg _ wF_X12_34) (fun _ h9 => h9) rfl dX12_copied_38 ?_
            refine lv_iload_n hx hb dX12_copied_41 rfl (lv_at hl 1 rfl) ?_
            refine va_iald hx hb hK hP 7 0 rfl rfl (by assumption) dX12_copied_42 ?_
            refine lv_istore (lv' := [(6, .int (pa a0.toNatClampNeg)), (0, .ref (g 8)), (1, .int a0), (2, .int b0), (3, .int i0), (4, .int j0), (5, .int n0)]) hx hb dX12_copied_43 hl (by decide) rfl (fun ls hl => ?_)
            refine lv_aload_n hx hb dX12_copied_45 rfl (lv_at hl 1 rfl) ?_
            refine va_get (D := (dC, dI)) (ci := 14) (v := .ref (g 9)) (C := RX12) (T := TX12) (N := 21) hx hb hg inG12 hown hK hP 0 rfl rfl 8 (by decide) (hg _ wF_X12_34) (fun _ h9 => h9) rfl dX12_copied_46 ?_
            refine lv_iload_n hx hb dX12_copied_49 rfl (lv_at hl 3 rfl) ?_
            refine va_iald hx hb hK hP 7 0 rfl rfl (by assumption) dX12_copied_50 ?_
            refine lv_istore (lv' := [(7, .int (pa b0.toNatClampNeg)), (6, .int (pa a0.toNatClampNeg)), (0, .ref (g 8)), (1, .int a0), (2, .int b0), (3, .int i0), (4, .int j0), (5, .int n0)]) hx hb dX12_copied_51 hl (by decide) rfl (fun ls hl => ?_)
            refine lv_aload_n hx hb dX12_copied_53 rfl (lv_at hl 2 rfl) ?_
            refine va_get (D := (dC, dI)) (ci := 14) (v := .ref (Y.2.2.2.2.2.2.1 0)) (C := RX12) (T := TX12) (N := 21) hx hb hg inG12 hown hK hP 0 rfl rfl 0 (by decide) (hg _ wF_X12_7) (fun _ h9 => h9) rfl dX12_copied_54 ?_
            refine lv_iload hx hb dX12_copied_57 (lv_at hl 1 rfl) ?_
            refine va_iald hx hb hK hP 1 0 rfl rfl (by exact hin1) dX12_copied_59 ?_
            refine lv_bipush (v := 12) hx hb dX12_copied_60 (by decide) ?_
            refine lv_icmp_ge (tgt := 118) hx hb dX12_copied_62 (by decide) (fun c9 => absurd c9 hcr.1) (fun _ => ?_)
            refine lv_aload_n hx hb dX12_copied_65 rfl (lv_at hl 2 rfl) ?_
            refine va_get (D := (dC, dI)) (ci := 14) (v := .ref (Y.2.2.2.2.2.2.1 0)) (C := RX12) (T := TX12) (N := 21) hx hb hg inG12 hown hK hP 0 rfl rfl 0 (by decide) (hg _ wF_X12_7) (fun _ h9 => h9) rfl dX12_copied_66 ?_
            refine lv_iload hx hb dX12_copied_69 (lv_at hl 0 rfl) ?_
            refine va_iald hx hb hK hP 1 0 rfl rfl (by exact hin2) dX12_copied_71 ?_
            refine lv_bipush (v := 12) hx hb dX12_copied_72 (by decide) ?_
            refine lv_icmp_ge (tgt := 118) hx hb dX12_copied_74 (by decide) (fun c9 => absurd c9 hcr.2.1) (fun _ => ?_)
            refine lv_aload_n hx hb dX12_copied_77 rfl (lv_at hl 2 rfl) ?_
            refine va_get (D := (dC, dI)) (ci := 14) (v := .ref (Y.2.2.2.2.2.2.1 0)) (C := RX12) (T := TX12) (N := 21) hx hb hg inG12 hown hK hP 0 rfl rfl 0 (by decide) (hg _ wF_X12_7) (fun _ h9 => h9) rfl dX12_copied_78 ?_
            refine lv_iload hx hb dX12_copied_81 (lv_at hl 1 rfl) ?_
            refine va_iald hx hb hK hP 1 0 rfl rfl (by exact hin1) dX12_copied_83 ?_
            refine lv_bipush (v := 8) hx hb dX12_copied_84 (by decide) ?_
            refine lv_icmp_lt (tgt := 101) hx hb dX12_copied_86 (by decide) (fun _ => ?_) (fun c9 => absurd hcr.2.2.1 c9)
            refine lv_aload_n hx hb dX12_copied_101 rfl (lv_at hl 2 rfl) ?_
            refine va_get (D := (dC, dI)) (ci := 14) (v := .ref (Y.2.2.2.2.2.2.1 0)) (C := RX12) (T := TX12) (N := 21) hx hb hg inG12 hown hK hP 0 rfl rfl 0 (by decide) (hg _ wF_X12_7) (fun _ h9 => h9) rfl dX12_copied_102 ?_
            refine lv_iload hx hb dX12_copied_105 (lv_at hl 1 rfl) ?_
            refine va_iald hx hb hK hP 1 0 rfl rfl (by exact hin1) dX12_copied_107 ?_
            refine lv_aload_n hx hb dX12_copied_108 rfl (lv_at hl 2 rfl) ?_
            refine va_get (D := (dC, dI)) (ci := 14) (v := .ref (Y.2.2.2.2.2.2.1 0)) (C := RX12) (T := TX12) (N := 21) hx hb hg inG12 hown hK hP 0 rfl rfl 0 (by decide) (hg _ wF_X12_7) (fun _ h9 => h9) rfl dX12_copied_109 ?_
            refine lv_iload hx hb dX12_copied_112 (lv_at hl 0 rfl) ?_
            refine va_iald hx hb hK hP 1 0 rfl rfl (by exact hin2) dX12_copied_114 ?_
            refine lv_icmp_eq (tgt := 129) hx hb dX12_copied_115 (by decide) (fun _ => ?_) (fun c9 => absurd hcr.2.2.2.2 c9)
            refine lv_iload_n hx hb dX12_copied_129 rfl (lv_at hl 5 rfl) ?_
            refine lv_if_lt (tgt := 172) hx hb dX12_copied_130 (by decide) (fun c_138 => ?_) (fun c_138 => ?_)
            · show _
              refine lv_aload_n hx hb dX12_copied_172 rfl (lv_at hl 2 rfl) ?_
              refine lv_iconst (v := 2) hx hb dX12_copied_173 (by decide) ?_
              refine cV_i (C := RX12) (n := 1) (rest := []) hx hb hml hown hg hT (c_X12_fails l dC dI g ty H.size Y pa kp ks I tl ac wr tw 2 ) (cv_of hg wM_X12_79 wN_X12_fails wL_X12_X12_fails wK_X12_fails wI_X12 (by decide +kernel) ⟨Nat.le_of_ble_eq_true rfl, Nat.le_of_ble_eq_true rfl⟩) hK hP hD hS hA (va_recv hK hP (ci := 14) (q0 := 0) rfl rfl) rfl hl.1 rfl (Nat.le_of_ble_eq_true rfl) dX12_copied_174 ⟨Nat.le_of_ble_eq_true rfl, Nat.le_of_ble_eq_true rfl⟩ (fun r_140 u_141 H locs q_139 hP hD hS => ?_)
              obtain ⟨rfl, rfl⟩ := q_139
              have hP : va_P (dC, dI) vwCl (rW g ty Y pa kp ks I tl ac 2 tw) H := hP
              have hD : va_D A (rW g ty Y pa kp ks I tl ac 2 tw) := hD
              refine lv_pop hx hb dX12_copied_177 rfl ?_
              refine lv_aload_n hx hb dX12_copied_178 rfl (lv_at hl 2 rfl) ?_
              refine cV_l (C := RX12) (n := 0) (rest := []) hx hb hml hown hg hT (c_X12_no l dC dI g ty H.size Y pa kp ks I tl ac 2 tw  ) (cv_of hg wM_X12_107 wN_X12_no wL_X12_X12_no wK_X12_no wI_X12 (by decide +kernel) ⟨Nat.le_of_ble_eq_true rfl, Nat.le_of_ble_eq_true rfl⟩) hK hP hD hS hA (va_recv hK hP (ci := 14) (q0 := 0) rfl rfl) rfl hl.1 rfl (Nat.le_of_ble_eq_true rfl) dX12_copied_179 ⟨Nat.le_of_ble_eq_true rfl, Nat.le_of_ble_eq_true rfl⟩ (fun r_143 u_144 H locs q_142 hP hD hS => ?_)
              obtain ⟨rfl, rfl⟩ := q_142
              have hP : va_P (dC, dI) vwCl (rW g ty Y pa kp ks I tl ac 2 1) H := hP
              have hD : va_D A (rW g ty Y pa kp ks I tl ac 2 1) := hD
              refine cr_l (wo := fun u : rY × (Nat → Int32) × (Nat → Int32) × (Nat → Int32) × Int32 × Int32 => rW g ty u.1 u.2.1 u.2.2.1 ks I u.2.2.2.1 ac u.2.2.2.2.1 u.2.2.2.2.2) ((Y, pa, kp, tl, 2, 1)) hx hb hr hlk hS hP hD ?_ dX12_copied_182
              exact ⟨0, Y, pa, kp, tl, 2, 1, rfl, rfl, (by subst hu; subst hrz; exact ra_f (f := 2) rel hcnt htl (by decide))⟩
            · show _
              refine lv_iload hx hb dX12_copied_133 (lv_at hl 6 rfl) ?_
              refine lv_if_lt (tgt := 172) hx hb dX12_copied_135 (by decide) (fun c_145 => ?_) (fun c_145 => ?_)
              · show _
                refine lv_aload_n hx hb dX12_copied_172 rfl (lv_at hl 2 rfl) ?_
                refine lv_iconst (v := 2) hx hb dX12_copied_173 (by decide) ?_
                refine cV_i (C := RX12) (n := 1) (rest := []) hx hb hml hown hg hT (c_X12_fails l dC dI g ty H.size Y pa kp ks I tl ac wr tw 2 ) (cv_of hg wM_X12_79 wN_X12_fails wL_X12_X12_fails wK_X12_fails wI_X12 (by decide +kernel) ⟨Nat.le_of_ble_eq_true rfl, Nat.le_of_ble_eq_true rfl⟩) hK hP hD hS hA (va_recv hK hP (ci := 14) (q0 := 0) rfl rfl) rfl hl.1 rfl (Nat.le_of_ble_eq_true rfl) dX12_copied_174 ⟨Nat.le_of_ble_eq_true rfl, Nat.le_of_ble_eq_true rfl⟩ (fun r_147 u_148 H locs q_146 hP hD hS => ?_)
                obtain ⟨rfl, rfl⟩ := q_146
                have hP : va_P (dC, dI) vwCl (rW g ty Y pa kp ks I tl ac 2 tw) H := hP
                have hD : va_D A (rW g ty Y pa kp ks I tl ac 2 tw) := hD
                refine lv_pop hx hb dX12_copied_177 rfl ?_
                refine lv_aload_n hx hb dX12_copied_178 rfl (lv_at hl 2 rfl) ?_
                refine cV_l (C := RX12) (n := 0) (rest := []) hx hb hml hown hg hT (c_X12_no l dC dI g ty H.size Y pa kp ks I tl ac 2 tw  ) (cv_of hg wM_X12_107 wN_X12_no wL_X12_X12_no wK_X12_no wI_X12 (by decide +kernel) ⟨Nat.le_of_ble_eq_true rfl, Nat.le_of_ble_eq_true rfl⟩) hK hP hD hS hA (va_recv hK hP (ci := 14) (q0 := 0) rfl rfl) rfl hl.1 rfl (Nat.le_of_ble_eq_true rfl) dX12_copied_179 ⟨Nat.le_of_ble_eq_true rfl, Nat.le_of_ble_eq_true rfl⟩ (fun r_150 u_151 H locs q_149 hP hD hS => ?_)
                obtain ⟨rfl, rfl⟩ := q_149
                have hP : va_P (dC, dI) vwCl (rW g ty Y pa kp ks I tl ac 2 1) H := hP
                have hD : va_D A (rW g ty Y pa kp ks I tl ac 2 1) := hD
                refine cr_l (wo := fun u : rY × (Nat → Int32) × (Nat → Int32) × (Nat → Int32) × Int32 × Int32 => rW g ty u.1 u.2.1 u.2.2.1 ks I u.2.2.2.1 ac u.2.2.2.2.1 u.2.2.2.2.2) ((Y, pa, kp, tl, 2, 1)) hx hb hr hlk hS hP hD ?_ dX12_copied_182
                exact ⟨0, Y, pa, kp, tl, 2, 1, rfl, rfl, (by subst hu; subst hrz; exact ra_f (f := 2) rel hcnt htl (by decide))⟩
              · show _
                refine lv_iload hx hb dX12_copied_138 (lv_at hl 7 rfl) ?_
                refine lv_if_lt (tgt := 172) hx hb dX12_copied_140 (by decide) (fun c_152 => ?_) (fun c_152 => ?_)
                · show _
                  refine lv_aload_n hx hb dX12_copied_172 rfl (lv_at hl 2 rfl) ?_
                  refine lv_iconst (v := 2) hx hb dX12_copied_173 (by decide) ?_
                  refine cV_i (C := RX12) (n := 1) (rest := []) hx hb hml hown hg hT (c_X12_fails l dC dI g ty H.size Y pa kp ks I tl ac wr tw 2 ) (cv_of hg wM_X12_79 wN_X12_fails wL_X12_X12_fails wK_X12_fails wI_X12 (by decide +kernel) ⟨Nat.le_of_ble_eq_true rfl, Nat.le_of_ble_eq_true rfl⟩) hK hP hD hS hA (va_recv hK hP (ci := 14) (q0 := 0) rfl rfl) rfl hl.1 rfl (Nat.le_of_ble_eq_true rfl) dX12_copied_174 ⟨Nat.le_of_ble_eq_true rfl, Nat.le_of_ble_eq_true rfl⟩ (fun r_154 u_155 H locs q_153 hP hD hS => ?_)
                  obtain ⟨rfl, rfl⟩ := q_153
                  have hP : va_P (dC, dI) vwCl (rW g ty Y pa kp ks I tl ac 2 tw) H := hP
                  have hD : va_D A (rW g ty Y pa kp ks I tl ac 2 tw) := hD
                  refine lv_pop hx hb dX12_copied_177 rfl ?_
                  refine lv_aload_n hx hb dX12_copied_178 rfl (lv_at hl 2 rfl) ?_
                  refine cV_l (C := RX12) (n := 0) (rest := []) hx hb hml hown hg hT (c_X12_no l dC dI g ty H.size Y pa kp ks I tl ac 2 tw  ) (cv_of hg wM_X12_107 wN_X12_no wL_X12_X12_no wK_X12_no wI_X12 (by decide +kernel) ⟨Nat.le_of_ble_eq_true rfl, Nat.le_of_ble_eq_true rfl⟩) hK hP hD hS hA (va_recv hK hP (ci := 14) (q0 := 0) rfl rfl) rfl hl.1 rfl (Nat.le_of_ble_eq_true rfl) dX12_copied_179 ⟨Nat.le_of_ble_eq_true rfl, Nat.le_of_ble_eq_true rfl⟩ (fun r_157 u_158 H locs q_156 hP hD hS => ?_)
                  obtain ⟨rfl, rfl⟩ := q_156
                  have hP : va_P (dC, dI) vwCl (rW g ty Y pa kp ks I tl ac 2 1) H := hP
                  have hD : va_D A (rW g ty Y pa kp ks I tl ac 2 1) := hD
                  refine cr_l (wo := fun u : rY × (Nat → Int32) × (Nat → Int32) × (Nat → Int32) × Int32 × Int32 => rW g ty u.1 u.2.1 u.2.2.1 ks I u.2.2.2.1 ac u.2.2.2.2.1 u.2.2.2.2.2) ((Y, pa, kp, tl, 2, 1)) hx hb hr hlk hS hP hD ?_ dX12_copied_182
                  exact ⟨0, Y, pa, kp, tl, 2, 1, rfl, rfl, (by subst hu; subst hrz; exact ra_f (f := 2) rel hcnt htl (by decide))⟩
                · show _
                  refine lv_iload_n hx hb dX12_copied_143 rfl (lv_at hl 5 rfl) ?_
                  refine lv_iload hx hb dX12_copied_144 (lv_at hl 7 rfl) ?_
                  refine lv_iadd hx hb dX12_copied_146 ?_
                  refine lv_aload_n hx hb dX12_copied_147 rfl (lv_at hl 2 rfl) ?_
                  refine va_get (D := (dC, dI)) (ci := 14) (v := .ref (Y.2.2.2.2.2.2.1 2)) (C := RX12) (T := TX12) (N := 21) hx hb hg inG12 hown hK hP 0 rfl rfl 2 (by decide) (hg _ wF_X12_16) (fun _ h9 => h9) rfl dX12_copied_148 ?_
                  refine lv_iload hx hb dX12_copied_151 (lv_at hl 1 rfl) ?_
                  refine va_iald hx hb hK hP 3 0 rfl rfl (by exact hin1) dX12_copied_153 ?_
                  refine lv_icmp_gt (tgt := 172) hx hb dX12_copied_154 (by decide) (fun c_159 => ?_) (fun c_159 => ?_)
                  · show _
                    refine lv_aload_n hx hb dX12_copied_172 rfl (lv_at hl 2 rfl) ?_
                    refine lv_iconst (v := 2) hx hb dX12_copied_173 (by decide) ?_
                    refine cV_i (C := RX12) (n := 1) (rest := []) hx hb hml hown hg hT (c_X12_fails l dC dI g ty H.size Y pa kp ks I tl ac wr tw 2 ) (cv_of hg wM_X12_79 wN_X12_fails wL_X12_X12_fails wK_X12_fails wI_X12 (by decide +kernel) ⟨Nat.le_of_ble_eq_true rfl, Nat.le_of_ble_eq_true rfl⟩) hK hP hD hS hA (va_recv hK hP (ci := 14) (q0 := 0) rfl rfl) rfl hl.1 rfl (Nat.le_of_ble_eq_true rfl) dX12_copied_174 ⟨Nat.le_of_ble_eq_true rfl, Nat.le_of_ble_eq_true rfl⟩ (fun r_161 u_162 H locs q_160 hP hD hS => ?_)
                    obtain ⟨rfl, rfl⟩ := q_160
                    have hP : va_P (dC, dI) vwCl (rW g ty Y pa kp ks I tl ac 2 tw) H := hP
                    have hD : va_D A (rW g ty Y pa kp ks I tl ac 2 tw) := hD
                    refine lv_pop hx hb dX12_copied_177 rfl ?_
                    refine lv_aload_n hx hb dX12_copied_178 rfl (lv_at hl 2 rfl) ?_
                    refine cV_l (C := RX12) (n := 0) (rest := []) hx hb hml hown hg hT (c_X12_no l dC dI g ty H.size Y pa kp ks I tl ac 2 tw  ) (cv_of hg wM_X12_107 wN_X12_no wL_X12_X12_no wK_X12_no wI_X12 (by decide +kernel) ⟨Nat.le_of_ble_eq_true rfl, Nat.le_of_ble_eq_true rfl⟩) hK hP hD hS hA (va_recv hK hP (ci := 14) (q0 := 0) rfl rfl) rfl hl.1 rfl (Nat.le_of_ble_eq_true rfl) dX12_copied_179 ⟨Nat.le_of_ble_eq_true rfl, Nat.le_of_ble_eq_true rfl⟩ (fun r_164 u_165 H locs q_163 hP hD hS => ?_)
                    obtain ⟨rfl, rfl⟩ := q_163
                    have hP : va_P (dC, dI) vwCl (rW g ty Y pa kp ks I tl ac 2 1) H := hP
                    have hD : va_D A (rW g ty Y pa kp ks I tl ac 2 1) := hD
                    refine cr_l (wo := fun u : rY × (Nat → Int32) × (Nat → Int32) × (Nat → Int32) × Int32 × Int32 => rW g ty u.1 u.2.1 u.2.2.1 ks I u.2.2.2.1 ac u.2.2.2.2.1 u.2.2.2.2.2) ((Y, pa, kp, tl, 2, 1)) hx hb hr hlk hS hP hD ?_ dX12_copied_182
                    exact ⟨0, Y, pa, kp, tl, 2, 1, rfl, rfl, (by subst hu; subst hrz; exact ra_f (f := 2) rel hcnt htl (by decide))⟩
                  · show _
                    refine lv_iload hx hb dX12_copied_157 (lv_at hl 6 rfl) ?_
                    refine lv_iload hx hb dX12_copied_159 (lv_at hl 7 rfl) ?_
                    refine lv_iadd hx hb dX12_copied_161 ?_
                    refine lv_aload_n hx hb dX12_copied_162 rfl (lv_at hl 2 rfl) ?_
                    refine va_get (D := (dC, dI)) (ci := 14) (v := .ref (Y.2.2.2.2.2.2.1 2)) (C := RX12) (T := TX12) (N := 21) hx hb hg inG12 hown hK hP 0 rfl rfl 2 (by decide) (hg _ wF_X12_16) (fun _ h9 => h9) rfl dX12_copied_163 ?_
                    refine lv_iload hx hb dX12_copied_166 (lv_at hl 0 rfl) ?_
                    refine va_iald hx hb hK hP 3 0 rfl rfl (by exact hin2) dX12_copied_168 ?_
                    refine lv_icmp_le (tgt := 183) hx hb dX12_copied_169 (by decide) (fun c_166 => ?_) (fun c_166 => ?_)
                    · show _
                      have hsp := (sp_by (i := j0) (n := n0) (m := (Y.2.2.1 (pa b0.toNatClampNeg).toNatClampNeg)) (by assumption) (by assumption) ⟨by_lt pre9, by_lt pre10⟩ hv2.2.1).mp (by assumption)
                      rw [show (Y.2.2.1 (pa b0.toNatClampNeg).toNatClampNeg).toNatClampNeg = _ from hv2.2.2.1] at hsp
                      exact absurd hsp g12
                    · show _
                      refine lv_aload_n hx hb dX12_copied_172 rfl (lv_at hl 2 rfl) ?_
                      refine lv_iconst (v := 2) hx hb dX12_copied_173 (by decide) ?_
                      refine cV_i (C := RX12) (n := 1) (rest := []) hx hb hml hown hg hT (c_X12_fails l dC dI g ty H.size Y pa kp ks I tl ac wr tw 2 ) (cv_of hg wM_X12_79 wN_X12_fails wL_X12_X12_fails wK_X12_fails wI_X12 (by decide +kernel) ⟨Nat.le_of_ble_eq_true rfl, Nat.le_of_ble_eq_true rfl⟩) hK hP hD hS hA (va_recv hK hP (ci := 14) (q0 := 0) rfl rfl) rfl hl.1 rfl (Nat.le_of_ble_eq_true rfl) dX12_copied_174 ⟨Nat.le_of_ble_eq_true rfl, Nat.le_of_ble_eq_true rfl⟩ (fun r_168 u_169 H locs q_167 hP hD hS => ?_)
                      obtain ⟨rfl, rfl⟩ := q_167
                      have hP : va_P (dC, dI) vwCl (rW g ty Y pa kp ks I tl ac 2 tw) H := hP
                      have hD : va_D A (rW g ty Y pa kp ks I tl ac 2 tw) := hD
                      refine lv_pop hx hb dX12_copied_177 rfl ?_
                      refine lv_aload_n hx hb dX12_copied_178 rfl (lv_at hl 2 rfl) ?_
                      refine cV_l (C := RX12) (n := 0) (rest := []) hx hb hml hown hg hT (c_X12_no l dC dI g ty H.size Y pa kp ks I tl ac 2 tw  ) (cv_of hg wM_X12_107 wN_X12_no wL_X12_X12_no wK_X12_no wI_X12 (by decide +kernel) ⟨Nat.le_of_ble_eq_true rfl, Nat.le_of_ble_eq_true rfl⟩) hK hP hD hS hA (va_recv hK hP (ci := 14) (q0 := 0) rfl rfl) rfl hl.1 rfl (Nat.le_of_ble_eq_true rfl) dX12_copied_179 ⟨Nat.le_of_ble_eq_true rfl, Nat.le_of_ble_eq_true rfl⟩ (fun r_171 u_172 H locs q_170 hP hD hS => ?_)
                      obtain ⟨rfl, rfl⟩ := q_170
                      have hP : va_P (dC, dI) vwCl (rW g ty Y pa kp ks I tl ac 2 1) H := hP
                      have hD : va_D A (rW g ty Y pa kp ks I tl ac 2 1) := hD
                      refine cr_l (wo := fun u : rY × (Nat → Int32) × (Nat → Int32) × (Nat → Int32) × Int32 × Int32 => rW g ty u.1 u.2.1 u.2.2.1 ks I u.2.2.2.1 ac u.2.2.2.2.1 u.2.2.2.2.2) ((Y, pa, kp, tl, 2, 1)) hx hb hr hlk hS hP hD ?_ dX12_copied_182
                      exact ⟨0, Y, pa, kp, tl, 2, 1, rfl, rfl, (by subst hu; subst hrz; exact ra_f (f := 2) rel hcnt htl (by decide))⟩
  · show _
    obtain ⟨n1t1, n2t1, n3t1⟩ := rk_some rel g2 g4
    have hnet1 := (i32_pos n1t1).2.1
    have tht1 := wf.1 _ _ g4
    obtain ⟨n1t2, n2t2, n3t2⟩ := rk_some rel g3 g5
    have hnet2 := (i32_pos n1t2).2.1
    have tht2 := wf.1 _ _ g5
    have hsr1 := rv_sr rel n1t1 n2t1 n3t1
    have hsr2 := rv_sr rel n1t2 n2t2 n3t2
    have hck := cp_kind wf tht1 tht2 hsr1 hsr2
    have hin1 := (rk_in rel n1t1 n2t1).1
    have hin2 := (rk_in rel n1t2 n2t2).1
    have hcr := hck.1 ⟨g6, g7, g8⟩
    have hv1 := rv_row rel n1t1 n2t1 n3t1 g6 g9
    obtain ⟨z1, ez1, _, _, hl1⟩ := wf.2.2.1 t1 tht1.1 g6
    cases g9.symm.trans ez1
    have hv2 := rv_row rel n1t2 n2t2 n3t2 g7 g10
    obtain ⟨z2, ez2, _, _, hl2⟩ := wf.2.2.1 t2 tht2.1 g7
    cases g10.symm.trans ez2
    have hl : lv_has ls 13 [(0, .ref (g 8)), (1, .int a0), (2, .int b0), (3, .int i0), (4, .int j0), (5, .int n0)] := hl
    refine lv_aload_n hx hb dX12_copied_0 rfl (lv_at hl 0 rfl) ?_
    refine lv_iload_n hx hb dX12_copied_1 rfl (lv_at hl 1 rfl) ?_
    refine cV_i (C := RX12) (n := 1) (rest := []) hx hb hml hown hg hT (c_X12_place l dC dI g ty s.heap.size Y pa kp ks I tl ac wr tw a0 ) (cv_of hg wM_X12_83 wN_X12_place wL_X12_X12_place wK_X12_place wI_X12 (by decide +kernel) ⟨Nat.le_of_ble_eq_true rfl, Nat.le_of_ble_eq_true rfl⟩) hK hP hD hS hA (va_recv hK hP (ci := 14) (q0 := 0) rfl rfl) rfl hl.1 rfl (Nat.le_of_ble_eq_true rfl) dX12_copied_2 ⟨Nat.le_of_ble_eq_true rfl, Nat.le_of_ble_eq_true rfl⟩ (fun r_174 u_175 H locs q_173 hP hD hS => ?_)
    rcases q_173 with ⟨rfl, rfl, f_176⟩ | ⟨rfl, rfl, f_177⟩
    · show _
      exact absurd (by assumption) f_176
    · show _
      have hP : va_P (dC, dI) vwCl (rW g ty Y pa kp ks I tl ac wr tw) H := hP
      have hD : va_D A (rW g ty Y pa kp ks I tl ac wr tw) := hD
      refine lv_if_eq (tgt := 32) hx hb dX12_copied_5 (by decide) (fun c9 => absurd c9 (by decide)) (fun _ => ?_)
      refine lv_aload_n hx hb dX12_copied_8 rfl (lv_at hl 0 rfl) ?_
      refine lv_iload_n hx hb dX12_copied_9 rfl (lv_at hl 2 rfl) ?_
      refine cV_i (C := RX12) (n := 1) (rest := []) hx hb hml hown hg hT (c_X12_place l dC dI g ty H.size Y pa kp ks I tl ac wr tw b0 ) (cv_of hg wM_X12_83 wN_X12_place wL_X12_X12_place wK_X12_place wI_X12 (by decide +kernel) ⟨Nat.le_of_ble_eq_true rfl, Nat.le_of_ble_eq_true rfl⟩) hK hP hD hS hA (va_recv hK hP (ci := 14) (q0 := 0) rfl rfl) rfl hl.1 rfl (Nat.le_of_ble_eq_true rfl) dX12_copied_10 ⟨Nat.le_of_ble_eq_true rfl, Nat.le_of_ble_eq_true rfl⟩ (fun r_179 u_180 H locs q_178 hP hD hS => ?_)
      rcases q_178 with ⟨rfl, rfl, f_181⟩ | ⟨rfl, rfl, f_182⟩
      · show _
        exact absurd (by assumption) f_181
      · show _
        have hP : va_P (dC, dI) vwCl (rW g ty Y pa kp ks I tl ac wr tw) H := hP
        have hD : va_D A (rW g ty Y pa kp ks I tl ac wr tw) := hD
        refine lv_if_eq (tgt := 32) hx hb dX12_copied_13 (by decide) (fun c9 => absurd c9 (by decide)) (fun _ => ?_)
        refine lv_aload_n hx hb dX12_copied_16 rfl (lv_at hl 0 rfl) ?_
        refine lv_iload_n hx hb dX12_copied_17 rfl (lv_at hl 1 rfl) ?_
        refine cV_i (C := RX12) (n := 1) (rest := []) hx hb hml hown hg hT (c_X12_need l dC dI g ty H.size Y pa kp ks I tl ac wr tw a0 (by assumption)) (cv_of hg wM_X12_134 wN_X12_need wL_X12_X12_need wK_X12_need wI_X12 (by decide +kernel) ⟨Nat.le_of_ble_eq_true rfl, Nat.le_of_ble_eq_true rfl⟩) hK hP hD hS hA (va_recv hK hP (ci := 14) (q0 := 0) rfl rfl) rfl hl.1 rfl (Nat.le_of_ble_eq_true rfl) dX12_copied_18 ⟨Nat.le_of_ble_eq_true rfl, Nat.le_of_ble_eq_true rfl⟩ (fun r_184 u_185 H locs q_183 hP hD hS => ?_)
        rcases q_183 with ⟨rfl, rfl, f_186⟩ | ⟨rfl, rfl, f_187⟩
        · show _
          exact absurd f_186 (by assumption)
        · show _
          have hP : va_P (dC, dI) vwCl (rW g ty Y pa kp ks I tl ac wr tw) H := hP
          have hD : va_D A (rW g ty Y pa kp ks I tl ac wr tw) := hD
          refine lv_if_eq (tgt := 32) hx hb dX12_copied_21 (by decide) (fun c9 => absurd c9 (by decide)) (fun _ => ?_)
          refine lv_aload_n hx hb dX12_copied_24 rfl (lv_at hl 0 rfl) ?_
          refine lv_iload_n hx hb dX12_copied_25 rfl (lv_at hl 2 rfl) ?_
          refine cV_i (C := RX12) (n := 1) (rest := []) hx hb hml hown hg hT (c_X12_need l dC dI g ty H.size Y pa kp ks I tl ac wr tw b0 (by assumption)) (cv_of hg wM_X12_134 wN_X12_need wL_X12_X12_need wK_X12_need wI_X12 (by decide +kernel) ⟨Nat.le_of_ble_eq_true rfl, Nat.le_of_ble_eq_true rfl⟩) hK hP hD hS hA (va_recv hK hP (ci := 14) (q0 := 0) rfl rfl) rfl hl.1 rfl (Nat.le_of_ble_eq_true rfl) dX12_copied_26 ⟨Nat.le_of_ble_eq_true rfl, Nat.le_of_ble_eq_true rfl⟩ (fun r_189 u_190 H locs q_188 hP hD hS => ?_)
          rcases q_188 with ⟨rfl, rfl, f_191⟩ | ⟨rfl, rfl, f_192⟩
          · show _
            exact absurd f_191 (by assumption)
          · show _
            have hP : va_P (dC, dI) vwCl (rW g ty Y pa kp ks I tl ac wr tw) H := hP
            have hD : va_D A (rW g ty Y pa kp ks I tl ac wr tw) := hD
            refine lv_if_ne (tgt := 37) hx hb dX12_copied_29 (by decide) (fun _ => ?_) (fun c9 => absurd c9 (by decide)) 
            refine lv_aload_n hx hb dX12_copied_37 rfl (lv_at hl 0 rfl) ?_
            refine va_get (D := (dC, dI)) (ci := 14) (v := .ref (g 9)) (C := RX12) (T := TX12) (N := 21) hx hb hg inG12 hown hK hP 0 rfl rfl 8 (by decide) (hg _ wF_X12_34) (fun _ h9 => h9) rfl dX12_copied_38 ?_
            refine lv_iload_n hx hb dX12_copied_41 rfl (lv_at hl 1 rfl) ?_
            refine va_iald hx hb hK hP 7 0 rfl rfl (by assumption) dX12_copied_42 ?_
            refine lv_istore (lv' := [(6, .int (pa a0.toNatClampNeg)), (0, .ref (g 8)), (1, .int a0), (2, .int b0), (3, .int i0), (4, .int j0), (5, .int n0)]) hx hb dX12_copied_43 hl (by decide) rfl (fun ls hl => ?_)
            refine lv_aload_n hx hb dX12_copied_45 rfl (lv_at hl 1 rfl) ?_
            refine va_get (D := (dC, dI)) (ci := 14) (v := .ref (g 9)) (C := RX12) (T := TX12) (N := 21) hx hb hg inG12 hown hK hP 0 rfl rfl 8 (by decide) (hg _ wF_X12_34) (fun _ h9 => h9) rfl dX12_copied_46 ?_
            refine lv_iload_n hx hb dX12_copied_49 rfl (lv_at hl 3 rfl) ?_
            refine va_iald hx hb hK hP 7 0 rfl rfl (by assumption) dX12_copied_50 ?_
            refine lv_istore (lv' := [(7, .int (pa b0.toNatClampNeg)), (6, .int (pa a0.toNatClampNeg)), (0, .ref (g 8)), (1, .int a0), (2, .int b0), (3, .int i0), (4, .int j0), (5, .int n0)]) hx hb dX12_copied_51 hl (by decide) rfl (fun ls hl => ?_)
            refine lv_aload_n hx hb dX12_copied_53 rfl (lv_at hl 2 rfl) ?_
            refine va_get (D := (dC, dI)) (ci := 14) (v := .ref (Y.2.2.2.2.2.2.1 0)) (C := RX12) (T := TX12) (N := 21) hx hb hg inG12 hown hK hP 0 rfl rfl 0 (by decide) (hg _ wF_X12_7) (fun _ h9 => h9) rfl dX12_copied_54 ?_
            refine lv_iload hx hb dX12_copied_57 (lv_at hl 1 rfl) ?_
            refine va_iald hx hb hK hP 1 0 rfl rfl (by exact hin1) dX12_copied_59 ?_
            refine lv_bipush (v := 12) hx hb dX12_copied_60 (by decide) ?_
            refine lv_icmp_ge (tgt := 118) hx hb dX12_copied_62 (by decide) (fun c9 => absurd c9 hcr.1) (fun _ => ?_)
            refine lv_aload_n hx hb dX12_copied_65 rfl (lv_at hl 2 rfl) ?_
            refine va_get (D := (dC, dI)) (ci := 14) (v := .ref (Y.2.2.2.2.2.2.1 0)) (C := RX12) (T := TX12) (N := 21) hx hb hg inG12 hown hK hP 0 rfl rfl 0 (by decide) (hg _ wF_X12_7) (fun _ h9 => h9) rfl dX12_copied_66 ?_
            refine lv_iload hx hb dX12_copied_69 (lv_at hl 0 rfl) ?_
            refine va_iald hx hb hK hP 1 0 rfl rfl (by exact hin2) dX12_copied_71 ?_
            refine lv_bipush (v := 12) hx hb dX12_copied_72 (by decide) ?_
            refine lv_icmp_ge (tgt := 118) hx hb dX12_copied_74 (by decide) (fun c9 => absurd c9 hcr.2.1) (fun _ => ?_)
            refine lv_aload_n hx hb dX12_copied_77 rfl (lv_at hl 2 rfl) ?_
            refine va_get (D := (dC, dI)) (ci := 14) (v := .ref (Y.2.2.2.2.2.2.1 0)) (C := RX12) (T := TX12) (N := 21) hx hb hg inG12 hown hK hP 0 rfl rfl 0 (by decide) (hg _ wF_X12_7) (fun _ h9 => h9) rfl dX12_copied_78 ?_
            refine lv_iload hx hb dX12_copied_81 (lv_at hl 1 rfl) ?_
            refine va_iald hx hb hK hP 1 0 rfl rfl (by exact hin1) dX12_copied_83 ?_
            refine lv_bipush (v := 8) hx hb dX12_copied_84 (by decide) ?_
            refine lv_icmp_lt (tgt := 101) hx hb dX12_copied_86 (by decide) (fun _ => ?_) (fun c9 => absurd hcr.2.2.1 c9)
            refine lv_aload_n hx hb dX12_copied_101 rfl (lv_at hl 2 rfl) ?_
            refine va_get (D := (dC, dI)) (ci := 14) (v := .ref (Y.2.2.2.2.2.2.1 0)) (C := RX12) (T := TX12) (N := 21) hx hb hg inG12 hown hK hP 0 rfl rfl 0 (by decide) (hg _ wF_X12_7) (fun _ h9 => h9) rfl dX12_copied_102 ?_
            refine lv_iload hx hb dX12_copied_105 (lv_at hl 1 rfl) ?_
            refine va_iald hx hb hK hP 1 0 rfl rfl (by exact hin1) dX12_copied_107 ?_
            refine lv_aload_n hx hb dX12_copied_108 rfl (lv_at hl 2 rfl) ?_
            refine va_get (D := (dC, dI)) (ci := 14) (v := .ref (Y.2.2.2.2.2.2.1 0)) (C := RX12) (T := TX12) (N := 21) hx hb hg inG12 hown hK hP 0 rfl rfl 0 (by decide) (hg _ wF_X12_7) (fun _ h9 => h9) rfl dX12_copied_109 ?_
            refine lv_iload hx hb dX12_copied_112 (lv_at hl 0 rfl) ?_
            refine va_iald hx hb hK hP 1 0 rfl rfl (by exact hin2) dX12_copied_114 ?_
            refine lv_icmp_eq (tgt := 129) hx hb dX12_copied_115 (by decide) (fun _ => ?_) (fun c9 => absurd hcr.2.2.2.2 c9)
            refine lv_iload_n hx hb dX12_copied_129 rfl (lv_at hl 5 rfl) ?_
            refine lv_if_lt (tgt := 172) hx hb dX12_copied_130 (by decide) (fun c_193 => ?_) (fun c_193 => ?_)
            · show _
              have hs1 := (sp_by (i := i0) (n := n0) (m := (Y.2.2.1 (pa a0.toNatClampNeg).toNatClampNeg)) g11.1 g11.2.1 ⟨by_lt pre8, by_lt pre10⟩ hv1.2.1).mpr (by rw [show (Y.2.2.1 (pa a0.toNatClampNeg).toNatClampNeg).toNatClampNeg = _ from hv1.2.2.1]; exact g11)
              have hs2 := (sp_by (i := j0) (n := n0) (m := (Y.2.2.1 (pa b0.toNatClampNeg).toNatClampNeg)) g12.1 g12.2.1 ⟨by_lt pre9, by_lt pre10⟩ hv2.2.1).mpr (by rw [show (Y.2.2.1 (pa b0.toNatClampNeg).toNatClampNeg).toNatClampNeg = _ from hv2.2.2.1]; exact g12)
              first | exact absurd (show i0 < 0 by assumption) g11.1 | exact absurd (show j0 < 0 by assumption) g12.1 | exact absurd (show n0 < 0 by assumption) g11.2.1 | exact absurd hs1 (ge_of (by assumption)) | exact absurd hs2 (by assumption)
            · show _
              refine lv_iload hx hb dX12_copied_133 (lv_at hl 6 rfl) ?_
              refine lv_if_lt (tgt := 172) hx hb dX12_copied_135 (by decide) (fun c_194 => ?_) (fun c_194 => ?_)
              · show _
                have hs1 := (sp_by (i := i0) (n := n0) (m := (Y.2.2.1 (pa a0.toNatClampNeg).toNatClampNeg)) g11.1 g11.2.1 ⟨by_lt pre8, by_lt pre10⟩ hv1.2.1).mpr (by rw [show (Y.2.2.1 (pa a0.toNatClampNeg).toNatClampNeg).toNatClampNeg = _ from hv1.2.2.1]; exact g11)
                have hs2 := (sp_by (i := j0) (n := n0) (m := (Y.2.2.1 (pa b0.toNatClampNeg).toNatClampNeg)) g12.1 g12.2.1 ⟨by_lt pre9, by_lt pre10⟩ hv2.2.1).mpr (by rw [show (Y.2.2.1 (pa b0.toNatClampNeg).toNatClampNeg).toNatClampNeg = _ from hv2.2.2.1]; exact g12)
                first | exact absurd (show i0 < 0 by assumption) g11.1 | exact absurd (show j0 < 0 by assumption) g12.1 | exact absurd (show n0 < 0 by assumption) g11.2.1 | exact absurd hs1 (ge_of (by assumption)) | exact absurd hs2 (by assumption)
              · show _
                refine lv_iload hx hb dX12_copied_138 (lv_at hl 7 rfl) ?_
                refine lv_if_lt (tgt := 172) hx hb dX12_copied_140 (by decide) (fun c_195 => ?_) (fun c_195 => ?_)
                · show _
                  have hs1 := (sp_by (i := i0) (n := n0) (m := (Y.2.2.1 (pa a0.toNatClampNeg).toNatClampNeg)) g11.1 g11.2.1 ⟨by_lt pre8, by_lt pre10⟩ hv1.2.1).mpr (by rw [show (Y.2.2.1 (pa a0.toNatClampNeg).toNatClampNeg).toNatClampNeg = _ from hv1.2.2.1]; exact g11)
                  have hs2 := (sp_by (i := j0) (n := n0) (m := (Y.2.2.1 (pa b0.toNatClampNeg).toNatClampNeg)) g12.1 g12.2.1 ⟨by_lt pre9, by_lt pre10⟩ hv2.2.1).mpr (by rw [show (Y.2.2.1 (pa b0.toNatClampNeg).toNatClampNeg).toNatClampNeg = _ from hv2.2.2.1]; exact g12)
                  first | exact absurd (show i0 < 0 by assumption) g11.1 | exact absurd (show j0 < 0 by assumption) g12.1 | exact absurd (show n0 < 0 by assumption) g11.2.1 | exact absurd hs1 (ge_of (by assumption)) | exact absurd hs2 (by assumption)
                · show _
                  refine lv_iload_n hx hb dX12_copied_143 rfl (lv_at hl 5 rfl) ?_
                  refine lv_iload hx hb dX12_copied_144 (lv_at hl 7 rfl) ?_
                  refine lv_iadd hx hb dX12_copied_146 ?_
                  refine lv_aload_n hx hb dX12_copied_147 rfl (lv_at hl 2 rfl) ?_
                  refine va_get (D := (dC, dI)) (ci := 14) (v := .ref (Y.2.2.2.2.2.2.1 2)) (C := RX12) (T := TX12) (N := 21) hx hb hg inG12 hown hK hP 0 rfl rfl 2 (by decide) (hg _ wF_X12_16) (fun _ h9 => h9) rfl dX12_copied_148 ?_
                  refine lv_iload hx hb dX12_copied_151 (lv_at hl 1 rfl) ?_
                  refine va_iald hx hb hK hP 3 0 rfl rfl (by exact hin1) dX12_copied_153 ?_
                  refine lv_icmp_gt (tgt := 172) hx hb dX12_copied_154 (by decide) (fun c_196 => ?_) (fun c_196 => ?_)
                  · show _
                    have hs1 := (sp_by (i := i0) (n := n0) (m := (Y.2.2.1 (pa a0.toNatClampNeg).toNatClampNeg)) g11.1 g11.2.1 ⟨by_lt pre8, by_lt pre10⟩ hv1.2.1).mpr (by rw [show (Y.2.2.1 (pa a0.toNatClampNeg).toNatClampNeg).toNatClampNeg = _ from hv1.2.2.1]; exact g11)
                    have hs2 := (sp_by (i := j0) (n := n0) (m := (Y.2.2.1 (pa b0.toNatClampNeg).toNatClampNeg)) g12.1 g12.2.1 ⟨by_lt pre9, by_lt pre10⟩ hv2.2.1).mpr (by rw [show (Y.2.2.1 (pa b0.toNatClampNeg).toNatClampNeg).toNatClampNeg = _ from hv2.2.2.1]; exact g12)
                    first | exact absurd (show i0 < 0 by assumption) g11.1 | exact absurd (show j0 < 0 by assumption) g12.1 | exact absurd (show n0 < 0 by assumption) g11.2.1 | exact absurd hs1 (ge_of (by assumption)) | exact absurd hs2 (by assumption)
                  · show _
                    refine lv_iload hx hb dX12_copied_157 (lv_at hl 6 rfl) ?_
                    refine lv_iload hx hb dX12_copied_159 (lv_at hl 7 rfl) ?_
                    refine lv_iadd hx hb dX12_copied_161 ?_
                    refine lv_aload_n hx hb dX12_copied_162 rfl (lv_at hl 2 rfl) ?_
                    refine va_get (D := (dC, dI)) (ci := 14) (v := .ref (Y.2.2.2.2.2.2.1 2)) (C := RX12) (T := TX12) (N := 21) hx hb hg inG12 hown hK hP 0 rfl rfl 2 (by decide) (hg _ wF_X12_16) (fun _ h9 => h9) rfl dX12_copied_163 ?_
                    refine lv_iload hx hb dX12_copied_166 (lv_at hl 0 rfl) ?_
                    refine va_iald hx hb hK hP 3 0 rfl rfl (by exact hin2) dX12_copied_168 ?_
                    refine lv_icmp_le (tgt := 183) hx hb dX12_copied_169 (by decide) (fun c_197 => ?_) (fun c_197 => ?_)
                    · show _
                      refine lv_iload hx hb dX12_copied_183 (lv_at hl 1 rfl) ?_
                      refine lv_iload hx hb dX12_copied_185 (lv_at hl 0 rfl) ?_
                      refine lv_icmp_ne (tgt := 200) hx hb dX12_copied_187 (by decide) (fun c_198 => ?_) (fun c_198 => ?_)
                      · show _
                        refine lv_iconst (v := 0) hx hb dX12_copied_200 (by decide) ?_
                        refine lv_istore (lv' := [(8, .int 0), (7, .int (pa b0.toNatClampNeg)), (6, .int (pa a0.toNatClampNeg)), (0, .ref (g 8)), (1, .int a0), (2, .int b0), (3, .int i0), (4, .int j0), (5, .int n0)]) hx hb dX12_copied_201 hl (by decide) rfl (fun ls hl => ?_)
                        refine lv_iconst (v := 0) hx hb dX12_copied_203 (by decide) ?_
                        refine lv_istore (lv' := [(9, .int 0), (8, .int 0), (7, .int (pa b0.toNatClampNeg)), (6, .int (pa a0.toNatClampNeg)), (0, .ref (g 8)), (1, .int a0), (2, .int b0), (3, .int i0), (4, .int j0), (5, .int n0)]) hx hb dX12_copied_204 hl (by decide) rfl (fun ls hl => ?_)
                        have gk1 := g6
                        have gk2 := g7
                        have gy1 := g9
                        have gy2 := g10
                        have gp1 := g11
                        have gp2 := g12
                        have LOOP206 : ∀ (N206 : Nat) (kq : Int32) (cq : Nat → Int64) (H : Heap) (locs : List Loc) (ls : Array Slot), n0.toNatClampNeg - kq.toNatClampNeg = N206 → (¬ kq < 0) → (kq ≤ n0) → (rR Y.2.2.2.2.2.2.2.2.2.1 (Y.1, Y.2.1, Y.2.2.1, Y.2.2.2.1, Y.2.2.2.2.1, cq, Y.2.2.2.2.2.2.1, Y.2.2.2.2.2.2.2.1, Y.2.2.2.2.2.2.2.2.1, Y.2.2.2.2.2.2.2.2.2.1, Y.2.2.2.2.2.2.2.2.2.2) pa ρ pl (pLc P y2 (cpB (P.2.2.2.2.2.2.1 y1) (P.2.2.2.2.2.2.1 y2) i0.toNatClampNeg j0.toNatClampNeg 0 kq.toNatClampNeg))) → va_P (dC, dI) vwCl (rW g ty (Y.1, Y.2.1, Y.2.2.1, Y.2.2.2.1, Y.2.2.2.2.1, cq, Y.2.2.2.2.2.2.1, Y.2.2.2.2.2.2.2.1, Y.2.2.2.2.2.2.2.2.1, Y.2.2.2.2.2.2.2.2.2.1, Y.2.2.2.2.2.2.2.2.2.2) pa kp ks I tl ac wr tw) H → va_D A (rW g ty (Y.1, Y.2.1, Y.2.2.1, Y.2.2.2.1, Y.2.2.2.2.1, cq, Y.2.2.2.2.2.2.1, Y.2.2.2.2.2.2.2.1, Y.2.2.2.2.2.2.2.2.1, Y.2.2.2.2.2.2.2.2.2.1, Y.2.2.2.2.2.2.2.2.2.2) pa kp ks I tl ac wr tw) → va_S A s.heap H locs → lv_has ls 13 [(0, .ref (g 8)), (3, .int i0), (4, .int j0), (5, .int n0), (6, .int (pa a0.toNatClampNeg)), (7, .int (pa b0.toNatClampNeg)), (8, .int 0), (9, .int kq)] → W p l e ({ frames := 2, cells := 0, slots := 0, locals := 42 }) s m ([.ref (g 8), .int a0, .int b0, .int i0, .int j0, .int n0]).toArray below meth c H locs (0 + 0 + 0 + 0 + 0) (0 + 0 + 0 + 0 + 0) (MQ below (va_Ql (fun (rz : Int64) (u : rY × (Nat → Int32) × (Nat → Int32) × (Nat → Int32) × Int32 × Int32) => ∃ (r' : Int64) (Y' : rY) (pa' kp' tl' : Nat → Int32) (wr' tw' : Int32), r' = rz ∧ (Y', pa', kp', tl', wr', tw') = u ∧ rAns u9.1 rz9 pl u9.2 md tl Y r' Y' pa' tl' wr' tw') (cB (dC, dI) (fun u : rY × (Nat → Int32) × (Nat → Int32) × (Nat → Int32) × Int32 × Int32 => rW g ty u.1 u.2.1 u.2.2.1 ks I u.2.2.2.1 ac u.2.2.2.2.1 u.2.2.2.2.2) A) A) ([.ref (g 8), .int a0, .int b0, .int i0, .int j0, .int n0]).toArray s 0 0 A) (F0 m 206 ls []) := by
                          intro N206
                          induction N206 using Nat.strongRecOn with
                          | _ N206 IH206 =>
                            intro kq cq H locs ls hN206 q0 q1 q2 hP hD hS hl
                            refine lv_iload hx hb dX12_copied_206 (lv_at hl 7 rfl) ?_
                            refine lv_iload hx hb dX12_copied_208 (lv_at hl 3 rfl) ?_
                            refine lv_icmp_ge (tgt := 355) hx hb dX12_copied_210 (by decide) (fun c_199 => ?_) (fun c_199 => ?_)
                            · show _
                              have hke := gf_eq q1 (by assumption)
                              refine lv_lconst (v := 0) hx hb dX12_copied_355 (by decide) ?_
                              refine cr_l (wo := fun u : rY × (Nat → Int32) × (Nat → Int32) × (Nat → Int32) × Int32 × Int32 => rW g ty u.1 u.2.1 u.2.2.1 ks I u.2.2.2.1 ac u.2.2.2.2.1 u.2.2.2.2.2) (((Y.1, Y.2.1, Y.2.2.1, Y.2.2.2.1, Y.2.2.2.2.1, cq, Y.2.2.2.2.2.2.1, Y.2.2.2.2.2.2.2.1, Y.2.2.2.2.2.2.2.2.1, Y.2.2.2.2.2.2.2.2.2.1, Y.2.2.2.2.2.2.2.2.2.2), pa, kp, tl, wr, tw)) hx hb hr hlk hS hP hD ?_ dX12_copied_356
                              exact ⟨0, (Y.1, Y.2.1, Y.2.2.1, Y.2.2.2.1, Y.2.2.2.2.1, cq, Y.2.2.2.2.2.2.1, Y.2.2.2.2.2.2.2.1, Y.2.2.2.2.2.2.2.2.1, Y.2.2.2.2.2.2.2.2.2.1, Y.2.2.2.2.2.2.2.2.2.2), pa, kp, tl, wr, tw, rfl, rfl, (by subst hu; subst hrz; subst pre6; exact ra_w (by rw [← cpB_full]; rw [hke] at q2; first | exact q2 | (rw [Nat.sub_self] at q2; exact q2)) ⟨rfl, rfl, rfl, rfl⟩ hcnt htl rfl)⟩
                            · show _
                              have hkn := k1_lt q0 (by assumption)
                              have hd9 : ¬ kq < 0 ∧ ¬ n0 ≤ kq ∧ (kq).toNatClampNeg = kq.toNatClampNeg := ⟨q0, (by assumption), rfl⟩
                              have ha1 := sp_add hd9.1 hd9.2.1 gp1 hl1
                              have ha2 := sp_add hd9.1 hd9.2.1 gp2 hl2
                              have hvs := rv_row (P := pLc P y2 (cpB (P.2.2.2.2.2.2.1 y1) (P.2.2.2.2.2.2.1 y2) i0.toNatClampNeg j0.toNatClampNeg 0 kq.toNatClampNeg)) q2 n1t1 n2t1 n3t1 gk1 gy1
                              have hvt := rv_row (P := pLc P y2 (cpB (P.2.2.2.2.2.2.1 y1) (P.2.2.2.2.2.2.1 y2) i0.toNatClampNeg j0.toNatClampNeg 0 kq.toNatClampNeg)) q2 n1t2 n2t2 n3t2 gk2 gy2
                              have hx9 := hvs.2.2.2 _ ha1.2.2
                              have hcr9 : va_up P.2.2.2.2.2.2.1 y2 (cpB (P.2.2.2.2.2.2.1 y1) (P.2.2.2.2.2.2.1 y2) i0.toNatClampNeg j0.toNatClampNeg 0 kq.toNatClampNeg) y1 (i0 + kq).toNatClampNeg = P.2.2.2.2.2.2.1 y1 (i0.toNatClampNeg + (kq).toNatClampNeg) := by rw [ha1.2.1]; exact cp_rd (fun e9 => absurd (cp_ne wf rel tht1.1 tht2.1 (Or.inl gk1) (Or.inl gk2) gy1 (by rw [e9]; exact gy2) n1t1 n2t1 n3t1 n1t2 n2t2 n3t2) c_198)
                              refine lv_iload hx hb dX12_copied_213 (lv_at hl 6 rfl) ?_
                              refine lv_if_eq (tgt := 228) hx hb dX12_copied_215 (by decide) (fun _ => ?_) (fun c9 => absurd (by decide) c9) 
                              refine lv_iload hx hb dX12_copied_228 (lv_at hl 7 rfl) ?_
                              refine lv_istore (lv' := [(10, .int kq), (0, .ref (g 8)), (3, .int i0), (4, .int j0), (5, .int n0), (6, .int (pa a0.toNatClampNeg)), (7, .int (pa b0.toNatClampNeg)), (8, .int 0), (9, .int kq)]) hx hb dX12_copied_230 hl (by decide) rfl (fun ls hl => ?_)
                              refine lv_aload_n hx hb dX12_copied_232 rfl (lv_at hl 1 rfl) ?_
                              refine lv_iload hx hb dX12_copied_233 (lv_at hl 5 rfl) ?_
                              refine lv_iload_n hx hb dX12_copied_235 rfl (lv_at hl 2 rfl) ?_
                              refine lv_iload hx hb dX12_copied_236 (lv_at hl 0 rfl) ?_
                              refine lv_iadd hx hb dX12_copied_238 ?_
                              refine cV_l (C := RX12) (n := 2) (rest := []) hx hb hml hown hg hT (c_X12_cell l dC dI g ty H.size (Y.1, Y.2.1, Y.2.2.1, Y.2.2.2.1, Y.2.2.2.2.1, cq, Y.2.2.2.2.2.2.1, Y.2.2.2.2.2.2.2.1, Y.2.2.2.2.2.2.2.2.1, Y.2.2.2.2.2.2.2.2.2.1, Y.2.2.2.2.2.2.2.2.2.2) pa kp ks I tl ac wr tw (pa a0.toNatClampNeg) (i0 + kq) (by exact hvs.1) (by exact hx9.1)) (cv_of hg wM_X12_140 wN_X12_cell wL_X12_X12_cell wK_X12_cell wI_X12 (by decide +kernel) ⟨Nat.le_of_ble_eq_true rfl, Nat.le_of_ble_eq_true rfl⟩) hK hP hD hS hA (va_recv hK hP (ci := 14) (q0 := 0) rfl rfl) rfl hl.1 rfl (Nat.le_of_ble_eq_true rfl) dX12_copied_239 ⟨Nat.le_of_ble_eq_true rfl, Nat.le_of_ble_eq_true rfl⟩ (fun r_201 u_202 H locs q_200 hP hD hS => ?_)
                              obtain rfl := q_200
                              have hP : va_P (dC, dI) vwCl (rW g ty (Y.1, Y.2.1, Y.2.2.1, Y.2.2.2.1, Y.2.2.2.2.1, cq, Y.2.2.2.2.2.2.1, Y.2.2.2.2.2.2.2.1, Y.2.2.2.2.2.2.2.2.1, Y.2.2.2.2.2.2.2.2.2.1, Y.2.2.2.2.2.2.2.2.2.2) pa kp ks I tl ac wr tw) H := hP
                              have hD : va_D A (rW g ty (Y.1, Y.2.1, Y.2.2.1, Y.2.2.2.1, Y.2.2.2.2.1, cq, Y.2.2.2.2.2.2.1, Y.2.2.2.2.2.2.2.1, Y.2.2.2.2.2.2.2.2.1, Y.2.2.2.2.2.2.2.2.2.1, Y.2.2.2.2.2.2.2.2.2.2) pa kp ks I tl ac wr tw) := hD
                              refine lv_topl (fun v9 ev90 => ?_)
                              have ev9 : v9 = cq (Y.2.1 (pa a0.toNatClampNeg).toNatClampNeg + (i0 + kq)).toNatClampNeg := ev90
                              have hrd := ev9.trans (hx9.2.trans hcr9)
                              refine lv_lstore (lv' := [(11, .long v9), (10, .int kq), (0, .ref (g 8)), (3, .int i0), (4, .int j0), (5, .int n0), (6, .int (pa a0.toNatClampNeg)), (7, .int (pa b0.toNatClampNeg)), (8, .int 0), (9, .int kq)]) hx hb dX12_copied_242 hl (by decide) rfl (fun ls hl => ?_)
                              refine lv_aload_n hx hb dX12_copied_244 rfl (lv_at hl 2 rfl) ?_
                              refine va_get (D := (dC, dI)) (ci := 14) (v := .ref (Y.2.2.2.2.2.2.1 0)) (C := RX12) (T := TX12) (N := 21) hx hb hg inG12 hown hK hP 0 rfl rfl 0 (by decide) (hg _ wF_X12_7) (fun _ h9 => h9) rfl dX12_copied_245 ?_
                              refine lv_iload hx hb dX12_copied_248 (lv_at hl 7 rfl) ?_
                              refine va_iald hx hb hK hP 1 0 rfl rfl (by exact hin2) dX12_copied_250 ?_
                              refine lv_bipush (v := 8) hx hb dX12_copied_251 (by decide) ?_
                              refine lv_icmp_lt (tgt := 336) hx hb dX12_copied_253 (by decide) (fun _ => ?_) (fun c9 => absurd hcr.2.2.2.1 c9)
                              refine lv_aload_n hx hb dX12_copied_336 rfl (lv_at hl 2 rfl) ?_
                              refine lv_iload hx hb dX12_copied_337 (lv_at hl 7 rfl) ?_
                              refine lv_iload hx hb dX12_copied_339 (lv_at hl 4 rfl) ?_
                              refine lv_iload hx hb dX12_copied_341 (lv_at hl 1 rfl) ?_
                              refine lv_iadd hx hb dX12_copied_343 ?_
                              refine lv_lload hx hb dX12_copied_344 (lv_at hl 0 rfl) ?_
                              refine cV_v (C := RX12) (n := 3) (rest := []) hx hb hml hown hg hT (c_X12_put l dC dI g ty H.size (Y.1, Y.2.1, Y.2.2.1, Y.2.2.2.1, Y.2.2.2.2.1, cq, Y.2.2.2.2.2.2.1, Y.2.2.2.2.2.2.2.1, Y.2.2.2.2.2.2.2.2.1, Y.2.2.2.2.2.2.2.2.2.1, Y.2.2.2.2.2.2.2.2.2.2) pa kp ks I tl ac wr tw (pa b0.toNatClampNeg) (j0 + kq) v9 (by exact hvt.1) (by exact (hvt.2.2.2 _ ha2.2.2).1)) (cv_of hg wM_X12_151 wN_X12_put wL_X12_X12_put wK_X12_put wI_X12 (by decide +kernel) ⟨Nat.le_of_ble_eq_true rfl, Nat.le_of_ble_eq_true rfl⟩) hK hP hD hS hA (va_recv hK hP (ci := 14) (q0 := 0) rfl rfl) rfl hl.1 rfl (Nat.le_of_ble_eq_true rfl) dX12_copied_346 ⟨Nat.le_of_ble_eq_true rfl, Nat.le_of_ble_eq_true rfl⟩ (fun u_205 H locs q_203 hP hD hS => ?_)
                              obtain rfl := q_203
                              have hP : va_P (dC, dI) vwCl (rW g ty (Y.1, Y.2.1, Y.2.2.1, Y.2.2.2.1, Y.2.2.2.2.1, (vp_updL cq (Y.2.1 (pa b0.toNatClampNeg).toNatClampNeg + (j0 + kq)).toNatClampNeg v9), Y.2.2.2.2.2.2.1, Y.2.2.2.2.2.2.2.1, Y.2.2.2.2.2.2.2.2.1, Y.2.2.2.2.2.2.2.2.2.1, Y.2.2.2.2.2.2.2.2.2.2) pa kp ks I tl ac wr tw) H := hP
                              have hD : va_D A (rW g ty (Y.1, Y.2.1, Y.2.2.1, Y.2.2.2.1, Y.2.2.2.2.1, (vp_updL cq (Y.2.1 (pa b0.toNatClampNeg).toNatClampNeg + (j0 + kq)).toNatClampNeg v9), Y.2.2.2.2.2.2.1, Y.2.2.2.2.2.2.2.1, Y.2.2.2.2.2.2.2.2.1, Y.2.2.2.2.2.2.2.2.2.1, Y.2.2.2.2.2.2.2.2.2.2) pa kp ks I tl ac wr tw) := hD
                              refine lv_iinc (v := (kq + 1)) (lv' := [(9, .int (kq + 1)), (11, .long v9), (10, .int kq), (0, .ref (g 8)), (3, .int i0), (4, .int j0), (5, .int n0), (6, .int (pa a0.toNatClampNeg)), (7, .int (pa b0.toNatClampNeg)), (8, .int 0)]) hx hb dX12_copied_349 hl (k := 9) rfl rfl (by decide) rfl (fun ls hl => ?_)
                              refine lv_goto (tgt := 206) hx hb dX12_copied_352 (by decide) ?_
                              have hup := up1_clamp q0 (by assumption)
                              have hw9 := rw_row (P := pLc P y2 (cpB (P.2.2.2.2.2.2.1 y1) (P.2.2.2.2.2.2.1 y2) i0.toNatClampNeg j0.toNatClampNeg 0 kq.toNatClampNeg)) (wf_lc wf _ _) q2 n1t2 n2t2 n3t2 gk2 gy2 ha2.2.2 (x := v9) rfl
                              have e9 : pLc (pLc P y2 (cpB (P.2.2.2.2.2.2.1 y1) (P.2.2.2.2.2.2.1 y2) i0.toNatClampNeg j0.toNatClampNeg 0 kq.toNatClampNeg)) y2 (vp_updL ((pLc P y2 (cpB (P.2.2.2.2.2.2.1 y1) (P.2.2.2.2.2.2.1 y2) i0.toNatClampNeg j0.toNatClampNeg 0 kq.toNatClampNeg)).2.2.2.2.2.2.1 y2) (j0 + kq).toNatClampNeg v9) = pLc P y2 (cpB (P.2.2.2.2.2.2.1 y1) (P.2.2.2.2.2.2.1 y2) i0.toNatClampNeg j0.toNatClampNeg 0 (kq + 1).toNatClampNeg) := by
                                rw [pLc_pLc, upL_up, hrd, ha2.2.1, show (pLc P y2 (cpB (P.2.2.2.2.2.2.1 y1) (P.2.2.2.2.2.2.1 y2) i0.toNatClampNeg j0.toNatClampNeg 0 kq.toNatClampNeg)).2.2.2.2.2.2.1 y2 = cpB (P.2.2.2.2.2.2.1 y1) (P.2.2.2.2.2.2.1 y2) i0.toNatClampNeg j0.toNatClampNeg 0 kq.toNatClampNeg from va_up_self _ _ _, hup]
                                rw [cpB_up _ _ (Nat.zero_le _)]
                              exact IH206 _ (by rw [← hN206]; exact th_dec q0 (by assumption)) (kq + 1) (vp_updL cq (Y.2.1 (pa b0.toNatClampNeg).toNatClampNeg + (j0 + kq)).toNatClampNeg v9) _ _ _ rfl (by exact k1_nn q0 (by assumption)) (by exact k1_le (by assumption)) (by rw [← e9]; exact hw9) hP hD hS (lv_sub hl [3, 4, 5, 6, 7, 8, 9, 0] rfl)
                        exact LOOP206 _ 0 Y.2.2.2.2.2.1 _ _ _ rfl (by decide) (by exact nn_of (by assumption)) (by rw [show (0 : Int32).toNatClampNeg = 0 from rfl, cpB_nil, pLc_self]; exact rel) hP hD hS (lv_sub hl [4, 7, 8, 9, 3, 2, 1, 0] rfl)
                      · show _
                        refine lv_iload_n hx hb dX12_copied_190 rfl (lv_at hl 5 rfl) ?_
                        refine lv_iload hx hb dX12_copied_191 (lv_at hl 6 rfl) ?_
                        refine lv_icmp_ge (tgt := 200) hx hb dX12_copied_193 (by decide) (fun c_206 => ?_) (fun c_206 => ?_)
                        · show _
                          refine lv_iconst (v := 0) hx hb dX12_copied_200 (by decide) ?_
                          refine lv_istore (lv' := [(8, .int 0), (7, .int (pa b0.toNatClampNeg)), (6, .int (pa a0.toNatClampNeg)), (0, .ref (g 8)), (1, .int a0), (2, .int b0), (3, .int i0), (4, .int j0), (5, .int n0)]) hx hb dX12_copied_201 hl (by decide) rfl (fun ls hl => ?_)
                          refine lv_iconst (v := 0) hx hb dX12_copied_203 (by decide) ?_
                          refine lv_istore (lv' := [(9, .int 0), (8, .int 0), (7, .int (pa b0.toNatClampNeg)), (6, .int (pa a0.toNatClampNeg)), (0, .ref (g 8)), (1, .int a0), (2, .int b0), (3, .int i0), (4, .int j0), (5, .int n0)]) hx hb dX12_copied_204 hl (by decide) rfl (fun ls hl => ?_)
                          have gk1 := g6
                          have gk2 := g7
                          have gy1 := g9
                          have gy2 := g10
                          have gp1 := g11
                          have gp2 := g12
                          have LOOP206 : ∀ (N206 : Nat) (kq : Int32) (cq : Nat → Int64) (H : Heap) (locs : List Loc) (ls : Array Slot), n0.toNatClampNeg - kq.toNatClampNeg = N206 → (¬ kq < 0) → (kq ≤ n0) → (rR Y.2.2.2.2.2.2.2.2.2.1 (Y.1, Y.2.1, Y.2.2.1, Y.2.2.2.1, Y.2.2.2.2.1, cq, Y.2.2.2.2.2.2.1, Y.2.2.2.2.2.2.2.1, Y.2.2.2.2.2.2.2.2.1, Y.2.2.2.2.2.2.2.2.2.1, Y.2.2.2.2.2.2.2.2.2.2) pa ρ pl (pLc P y2 (cpB (P.2.2.2.2.2.2.1 y1) (P.2.2.2.2.2.2.1 y2) i0.toNatClampNeg j0.toNatClampNeg 0 kq.toNatClampNeg))) → va_P (dC, dI) vwCl (rW g ty (Y.1, Y.2.1, Y.2.2.1, Y.2.2.2.1, Y.2.2.2.2.1, cq, Y.2.2.2.2.2.2.1, Y.2.2.2.2.2.2.2.1, Y.2.2.2.2.2.2.2.2.1, Y.2.2.2.2.2.2.2.2.2.1, Y.2.2.2.2.2.2.2.2.2.2) pa kp ks I tl ac wr tw) H → va_D A (rW g ty (Y.1, Y.2.1, Y.2.2.1, Y.2.2.2.1, Y.2.2.2.2.1, cq, Y.2.2.2.2.2.2.1, Y.2.2.2.2.2.2.2.1, Y.2.2.2.2.2.2.2.2.1, Y.2.2.2.2.2.2.2.2.2.1, Y.2.2.2.2.2.2.2.2.2.2) pa kp ks I tl ac wr tw) → va_S A s.heap H locs → lv_has ls 13 [(0, .ref (g 8)), (3, .int i0), (4, .int j0), (5, .int n0), (6, .int (pa a0.toNatClampNeg)), (7, .int (pa b0.toNatClampNeg)), (8, .int 0), (9, .int kq)] → W p l e ({ frames := 2, cells := 0, slots := 0, locals := 42 }) s m ([.ref (g 8), .int a0, .int b0, .int i0, .int j0, .int n0]).toArray below meth c H locs (0 + 0 + 0 + 0 + 0) (0 + 0 + 0 + 0 + 0) (MQ below (va_Ql (fun (rz : Int64) (u : rY × (Nat → Int32) × (Nat → Int32) × (Nat → Int32) × Int32 × Int32) => ∃ (r' : Int64) (Y' : rY) (pa' kp' tl' : Nat → Int32) (wr' tw' : Int32), r' = rz ∧ (Y', pa', kp', tl', wr', tw') = u ∧ rAns u9.1 rz9 pl u9.2 md tl Y r' Y' pa' tl' wr' tw') (cB (dC, dI) (fun u : rY × (Nat → Int32) × (Nat → Int32) × (Nat → Int32) × Int32 × Int32 => rW g ty u.1 u.2.1 u.2.2.1 ks I u.2.2.2.1 ac u.2.2.2.2.1 u.2.2.2.2.2) A) A) ([.ref (g 8), .int a0, .int b0, .int i0, .int j0, .int n0]).toArray s 0 0 A) (F0 m 206 ls []) := by
                            intro N206
                            induction N206 using Nat.strongRecOn with
                            | _ N206 IH206 =>
                              intro kq cq H locs ls hN206 q0 q1 q2 hP hD hS hl
                              refine lv_iload hx hb dX12_copied_206 (lv_at hl 7 rfl) ?_
                              refine lv_iload hx hb dX12_copied_208 (lv_at hl 3 rfl) ?_
                              refine lv_icmp_ge (tgt := 355) hx hb dX12_copied_210 (by decide) (fun c_207 => ?_) (fun c_207 => ?_)
                              · show _
                                have hke := gf_eq q1 (by assumption)
                                refine lv_lconst (v := 0) hx hb dX12_copied_355 (by decide) ?_
                                refine cr_l (wo := fun u : rY × (Nat → Int32) × (Nat → Int32) × (Nat → Int32) × Int32 × Int32 => rW g ty u.1 u.2.1 u.2.2.1 ks I u.2.2.2.1 ac u.2.2.2.2.1 u.2.2.2.2.2) (((Y.1, Y.2.1, Y.2.2.1, Y.2.2.2.1, Y.2.2.2.2.1, cq, Y.2.2.2.2.2.2.1, Y.2.2.2.2.2.2.2.1, Y.2.2.2.2.2.2.2.2.1, Y.2.2.2.2.2.2.2.2.2.1, Y.2.2.2.2.2.2.2.2.2.2), pa, kp, tl, wr, tw)) hx hb hr hlk hS hP hD ?_ dX12_copied_356
                                exact ⟨0, (Y.1, Y.2.1, Y.2.2.1, Y.2.2.2.1, Y.2.2.2.2.1, cq, Y.2.2.2.2.2.2.1, Y.2.2.2.2.2.2.2.1, Y.2.2.2.2.2.2.2.2.1, Y.2.2.2.2.2.2.2.2.2.1, Y.2.2.2.2.2.2.2.2.2.2), pa, kp, tl, wr, tw, rfl, rfl, (by subst hu; subst hrz; subst pre6; exact ra_w (by rw [← cpB_full]; rw [hke] at q2; first | exact q2 | (rw [Nat.sub_self] at q2; exact q2)) ⟨rfl, rfl, rfl, rfl⟩ hcnt htl rfl)⟩
                              · show _
                                have hkn := k1_lt q0 (by assumption)
                                have hd9 : ¬ kq < 0 ∧ ¬ n0 ≤ kq ∧ (kq).toNatClampNeg = kq.toNatClampNeg := ⟨q0, (by assumption), rfl⟩
                                have ha1 := sp_add hd9.1 hd9.2.1 gp1 hl1
                                have ha2 := sp_add hd9.1 hd9.2.1 gp2 hl2
                                have hvs := rv_row (P := pLc P y2 (cpB (P.2.2.2.2.2.2.1 y1) (P.2.2.2.2.2.2.1 y2) i0.toNatClampNeg j0.toNatClampNeg 0 kq.toNatClampNeg)) q2 n1t1 n2t1 n3t1 gk1 gy1
                                have hvt := rv_row (P := pLc P y2 (cpB (P.2.2.2.2.2.2.1 y1) (P.2.2.2.2.2.2.1 y2) i0.toNatClampNeg j0.toNatClampNeg 0 kq.toNatClampNeg)) q2 n1t2 n2t2 n3t2 gk2 gy2
                                have hx9 := hvs.2.2.2 _ ha1.2.2
                                have hcr9 : va_up P.2.2.2.2.2.2.1 y2 (cpB (P.2.2.2.2.2.2.1 y1) (P.2.2.2.2.2.2.1 y2) i0.toNatClampNeg j0.toNatClampNeg 0 kq.toNatClampNeg) y1 (i0 + kq).toNatClampNeg = P.2.2.2.2.2.2.1 y1 (i0.toNatClampNeg + (kq).toNatClampNeg) := by rw [ha1.2.1]; exact cp_rd (fun e9 => by have := i32_le (show j0 ≤ i0 by assumption); omega)
                                refine lv_iload hx hb dX12_copied_213 (lv_at hl 6 rfl) ?_
                                refine lv_if_eq (tgt := 228) hx hb dX12_copied_215 (by decide) (fun _ => ?_) (fun c9 => absurd (by decide) c9) 
                                refine lv_iload hx hb dX12_copied_228 (lv_at hl 7 rfl) ?_
                                refine lv_istore (lv' := [(10, .int kq), (0, .ref (g 8)), (3, .int i0), (4, .int j0), (5, .int n0), (6, .int (pa a0.toNatClampNeg)), (7, .int (pa b0.toNatClampNeg)), (8, .int 0), (9, .int kq)]) hx hb dX12_copied_230 hl (by decide) rfl (fun ls hl => ?_)
                                refine lv_aload_n hx hb dX12_copied_232 rfl (lv_at hl 1 rfl) ?_
                                refine lv_iload hx hb dX12_copied_233 (lv_at hl 5 rfl) ?_
                                refine lv_iload_n hx hb dX12_copied_235 rfl (lv_at hl 2 rfl) ?_
                                refine lv_iload hx hb dX12_copied_236 (lv_at hl 0 rfl) ?_
                                refine lv_iadd hx hb dX12_copied_238 ?_
                                refine cV_l (C := RX12) (n := 2) (rest := []) hx hb hml hown hg hT (c_X12_cell l dC dI g ty H.size (Y.1, Y.2.1, Y.2.2.1, Y.2.2.2.1, Y.2.2.2.2.1, cq, Y.2.2.2.2.2.2.1, Y.2.2.2.2.2.2.2.1, Y.2.2.2.2.2.2.2.2.1, Y.2.2.2.2.2.2.2.2.2.1, Y.2.2.2.2.2.2.2.2.2.2) pa kp ks I tl ac wr tw (pa a0.toNatClampNeg) (i0 + kq) (by exact hvs.1) (by exact hx9.1)) (cv_of hg wM_X12_140 wN_X12_cell wL_X12_X12_cell wK_X12_cell wI_X12 (by decide +kernel) ⟨Nat.le_of_ble_eq_true rfl, Nat.le_of_ble_eq_true rfl⟩) hK hP hD hS hA (va_recv hK hP (ci := 14) (q0 := 0) rfl rfl) rfl hl.1 rfl (Nat.le_of_ble_eq_true rfl) dX12_copied_239 ⟨Nat.le_of_ble_eq_true rfl, Nat.le_of_ble_eq_true rfl⟩ (fun r_209 u_210 H locs q_208 hP hD hS => ?_)
                                obtain rfl := q_208
                                have hP : va_P (dC, dI) vwCl (rW g ty (Y.1, Y.2.1, Y.2.2.1, Y.2.2.2.1, Y.2.2.2.2.1, cq, Y.2.2.2.2.2.2.1, Y.2.2.2.2.2.2.2.1, Y.2.2.2.2.2.2.2.2.1, Y.2.2.2.2.2.2.2.2.2.1, Y.2.2.2.2.2.2.2.2.2.2) pa kp ks I tl ac wr tw) H := hP
                                have hD : va_D A (rW g ty (Y.1, Y.2.1, Y.2.2.1, Y.2.2.2.1, Y.2.2.2.2.1, cq, Y.2.2.2.2.2.2.1, Y.2.2.2.2.2.2.2.1, Y.2.2.2.2.2.2.2.2.1, Y.2.2.2.2.2.2.2.2.2.1, Y.2.2.2.2.2.2.2.2.2.2) pa kp ks I tl ac wr tw) := hD
                                refine lv_topl (fun v9 ev90 => ?_)
                                have ev9 : v9 = cq (Y.2.1 (pa a0.toNatClampNeg).toNatClampNeg + (i0 + kq)).toNatClampNeg := ev90
                                have hrd := ev9.trans (hx9.2.trans hcr9)
                                refine lv_lstore (lv' := [(11, .long v9), (10, .int kq), (0, .ref (g 8)), (3, .int i0), (4, .int j0), (5, .int n0), (6, .int (pa a0.toNatClampNeg)), (7, .int (pa b0.toNatClampNeg)), (8, .int 0), (9, .int kq)]) hx hb dX12_copied_242 hl (by decide) rfl (fun ls hl => ?_)
                                refine lv_aload_n hx hb dX12_copied_244 rfl (lv_at hl 2 rfl) ?_
                                refine va_get (D := (dC, dI)) (ci := 14) (v := .ref (Y.2.2.2.2.2.2.1 0)) (C := RX12) (T := TX12) (N := 21) hx hb hg inG12 hown hK hP 0 rfl rfl 0 (by decide) (hg _ wF_X12_7) (fun _ h9 => h9) rfl dX12_copied_245 ?_
                                refine lv_iload hx hb dX12_copied_248 (lv_at hl 7 rfl) ?_
                                refine va_iald hx hb hK hP 1 0 rfl rfl (by exact hin2) dX12_copied_250 ?_
                                refine lv_bipush (v := 8) hx hb dX12_copied_251 (by decide) ?_
                                refine lv_icmp_lt (tgt := 336) hx hb dX12_copied_253 (by decide) (fun _ => ?_) (fun c9 => absurd hcr.2.2.2.1 c9)
                                refine lv_aload_n hx hb dX12_copied_336 rfl (lv_at hl 2 rfl) ?_
                                refine lv_iload hx hb dX12_copied_337 (lv_at hl 7 rfl) ?_
                                refine lv_iload hx hb dX12_copied_339 (lv_at hl 4 rfl) ?_
                                refine lv_iload hx hb dX12_copied_341 (lv_at hl 1 rfl) ?_
                                refine lv_iadd hx hb dX12_copied_343 ?_
                                refine lv_lload hx hb dX12_copied_344 (lv_at hl 0 rfl) ?_
                                refine cV_v (C := RX12) (n := 3) (rest := []) hx hb hml hown hg hT (c_X12_put l dC dI g ty H.size (Y.1, Y.2.1, Y.2.2.1, Y.2.2.2.1, Y.2.2.2.2.1, cq, Y.2.2.2.2.2.2.1, Y.2.2.2.2.2.2.2.1, Y.2.2.2.2.2.2.2.2.1, Y.2.2.2.2.2.2.2.2.2.1, Y.2.2.2.2.2.2.2.2.2.2) pa kp ks I tl ac wr tw (pa b0.toNatClampNeg) (j0 + kq) v9 (by exact hvt.1) (by exact (hvt.2.2.2 _ ha2.2.2).1)) (cv_of hg wM_X12_151 wN_X12_put wL_X12_X12_put wK_X12_put wI_X12 (by decide +kernel) ⟨Nat.le_of_ble_eq_true rfl, Nat.le_of_ble_eq_true rfl⟩) hK hP hD hS hA (va_recv hK hP (ci := 14) (q0 := 0) rfl rfl) rfl hl.1 rfl (Nat.le_of_ble_eq_true rfl) dX12_copied_346 ⟨Nat.le_of_ble_eq_true rfl, Nat.le_of_ble_eq_true rfl⟩ (fun u_213 H locs q_211 hP hD hS => ?_)
                                obtain rfl := q_211
                                have hP : va_P (dC, dI) vwCl (rW g ty (Y.1, Y.2.1, Y.2.2.1, Y.2.2.2.1, Y.2.2.2.2.1, (vp_updL cq (Y.2.1 (pa b0.toNatClampNeg).toNatClampNeg + (j0 + kq)).toNatClampNeg v9), Y.2.2.2.2.2.2.1, Y.2.2.2.2.2.2.2.1, Y.2.2.2.2.2.2.2.2.1, Y.2.2.2.2.2.2.2.2.2.1, Y.2.2.2.2.2.2.2.2.2.2) pa kp ks I tl ac wr tw) H := hP
                                have hD : va_D A (rW g ty (Y.1, Y.2.1, Y.2.2.1, Y.2.2.2.1, Y.2.2.2.2.1, (vp_updL cq (Y.2.1 (pa b0.toNatClampNeg).toNatClampNeg + (j0 + kq)).toNatClampNeg v9), Y.2.2.2.2.2.2.1, Y.2.2.2.2.2.2.2.1, Y.2.2.2.2.2.2.2.2.1, Y.2.2.2.2.2.2.2.2.2.1, Y.2.2.2.2.2.2.2.2.2.2) pa kp ks I tl ac wr tw) := hD
                                refine lv_iinc (v := (kq + 1)) (lv' := [(9, .int (kq + 1)), (11, .long v9), (10, .int kq), (0, .ref (g 8)), (3, .int i0), (4, .int j0), (5, .int n0), (6, .int (pa a0.toNatClampNeg)), (7, .int (pa b0.toNatClampNeg)), (8, .int 0)]) hx hb dX12_copied_349 hl (k := 9) rfl rfl (by decide) rfl (fun ls hl => ?_)
                                refine lv_goto (tgt := 206) hx hb dX12_copied_352 (by decide) ?_
                                have hup := up1_clamp q0 (by assumption)
                                have hw9 := rw_row (P := pLc P y2 (cpB (P.2.2.2.2.2.2.1 y1) (P.2.2.2.2.2.2.1 y2) i0.toNatClampNeg j0.toNatClampNeg 0 kq.toNatClampNeg)) (wf_lc wf _ _) q2 n1t2 n2t2 n3t2 gk2 gy2 ha2.2.2 (x := v9) rfl
                                have e9 : pLc (pLc P y2 (cpB (P.2.2.2.2.2.2.1 y1) (P.2.2.2.2.2.2.1 y2) i0.toNatClampNeg j0.toNatClampNeg 0 kq.toNatClampNeg)) y2 (vp_updL ((pLc P y2 (cpB (P.2.2.2.2.2.2.1 y1) (P.2.2.2.2.2.2.1 y2) i0.toNatClampNeg j0.toNatClampNeg 0 kq.toNatClampNeg)).2.2.2.2.2.2.1 y2) (j0 + kq).toNatClampNeg v9) = pLc P y2 (cpB (P.2.2.2.2.2.2.1 y1) (P.2.2.2.2.2.2.1 y2) i0.toNatClampNeg j0.toNatClampNeg 0 (kq + 1).toNatClampNeg) := by
                                  rw [pLc_pLc, upL_up, hrd, ha2.2.1, show (pLc P y2 (cpB (P.2.2.2.2.2.2.1 y1) (P.2.2.2.2.2.2.1 y2) i0.toNatClampNeg j0.toNatClampNeg 0 kq.toNatClampNeg)).2.2.2.2.2.2.1 y2 = cpB (P.2.2.2.2.2.2.1 y1) (P.2.2.2.2.2.2.1 y2) i0.toNatClampNeg j0.toNatClampNeg 0 kq.toNatClampNeg from va_up_self _ _ _, hup]
                                  rw [cpB_up _ _ (Nat.zero_le _)]
                                exact IH206 _ (by rw [← hN206]; exact th_dec q0 (by assumption)) (kq + 1) (vp_updL cq (Y.2.1 (pa b0.toNatClampNeg).toNatClampNeg + (j0 + kq)).toNatClampNeg v9) _ _ _ rfl (by exact k1_nn q0 (by assumption)) (by exact k1_le (by assumption)) (by rw [← e9]; exact hw9) hP hD hS (lv_sub hl [3, 4, 5, 6, 7, 8, 9, 0] rfl)
                          exact LOOP206 _ 0 Y.2.2.2.2.2.1 _ _ _ rfl (by decide) (by exact nn_of (by assumption)) (by rw [show (0 : Int32).toNatClampNeg = 0 from rfl, cpB_nil, pLc_self]; exact rel) hP hD hS (lv_sub hl [4, 7, 8, 9, 3, 2, 1, 0] rfl)
                        · show _
                          refine lv_iconst (v := 1) hx hb dX12_copied_196 (by decide) ?_
                          refine lv_goto (tgt := 201) hx hb dX12_copied_197 (by decide) ?_
                          refine lv_istore (lv' := [(8, .int 1), (7, .int (pa b0.toNatClampNeg)), (6, .int (pa a0.toNatClampNeg)), (0, .ref (g 8)), (1, .int a0), (2, .int b0), (3, .int i0), (4, .int j0), (5, .int n0)]) hx hb dX12_copied_201 hl (by decide) rfl (fun ls hl => ?_)
                          refine lv_iconst (v := 0) hx hb dX12_copied_203 (by decide) ?_
                          refine lv_istore (lv' := [(9, .int 0), (8, .int 1), (7, .int (pa b0.toNatClampNeg)), (6, .int (pa a0.toNatClampNeg)), (0, .ref (g 8)), (1, .int a0), (2, .int b0), (3, .int i0), (4, .int j0), (5, .int n0)]) hx hb dX12_copied_204 hl (by decide) rfl (fun ls hl => ?_)
                          have gk1 := g6
                          have gk2 := g7
                          have gy1 := g9
                          have gy2 := g10
                          have gp1 := g11
                          have gp2 := g12
                          have LOOP206 : ∀ (N206 : Nat) (kq : Int32) (cq : Nat → Int64) (H : Heap) (locs : List Loc) (ls : Array Slot), n0.toNatClampNeg - kq.toNatClampNeg = N206 → (¬ kq < 0) → (kq ≤ n0) → (rR Y.2.2.2.2.2.2.2.2.2.1 (Y.1, Y.2.1, Y.2.2.1, Y.2.2.2.1, Y.2.2.2.2.1, cq, Y.2.2.2.2.2.2.1, Y.2.2.2.2.2.2.2.1, Y.2.2.2.2.2.2.2.2.1, Y.2.2.2.2.2.2.2.2.2.1, Y.2.2.2.2.2.2.2.2.2.2) pa ρ pl (pLc P y2 (cpB (P.2.2.2.2.2.2.1 y1) (P.2.2.2.2.2.2.1 y2) i0.toNatClampNeg j0.toNatClampNeg (n0.toNatClampNeg - kq.toNatClampNeg) n0.toNatClampNeg))) → va_P (dC, dI) vwCl (rW g ty (Y.1, Y.2.1, Y.2.2.1, Y.2.2.2.1, Y.2.2.2.2.1, cq, Y.2.2.2.2.2.2.1, Y.2.2.2.2.2.2.2.1, Y.2.2.2.2.2.2.2.2.1, Y.2.2.2.2.2.2.2.2.2.1, Y.2.2.2.2.2.2.2.2.2.2) pa kp ks I tl ac wr tw) H → va_D A (rW g ty (Y.1, Y.2.1, Y.2.2.1, Y.2.2.2.1, Y.2.2.2.2.1, cq, Y.2.2.2.2.2.2.1, Y.2.2.2.2.2.2.2.1, Y.2.2.2.2.2.2.2.2.1, Y.2.2.2.2.2.2.2.2.2.1, Y.2.2.2.2.2.2.2.2.2.2) pa kp ks I tl ac wr tw) → va_S A s.heap H locs → lv_has ls 13 [(0, .ref (g 8)), (3, .int i0), (4, .int j0), (5, .int n0), (6, .int (pa a0.toNatClampNeg)), (7, .int (pa b0.toNatClampNeg)), (8, .int 1), (9, .int kq)] → W p l e ({ frames := 2, cells := 0, slots := 0, locals := 42 }) s m ([.ref (g 8), .int a0, .int b0, .int i0, .int j0, .int n0]).toArray below meth c H locs (0 + 0 + 0 + 0 + 0) (0 + 0 + 0 + 0 + 0) (MQ below (va_Ql (fun (rz : Int64) (u : rY × (Nat → Int32) × (Nat → Int32) × (Nat → Int32) × Int32 × Int32) => ∃ (r' : Int64) (Y' : rY) (pa' kp' tl' : Nat → Int32) (wr' tw' : Int32), r' = rz ∧ (Y', pa', kp', tl', wr', tw') = u ∧ rAns u9.1 rz9 pl u9.2 md tl Y r' Y' pa' tl' wr' tw') (cB (dC, dI) (fun u : rY × (Nat → Int32) × (Nat → Int32) × (Nat → Int32) × Int32 × Int32 => rW g ty u.1 u.2.1 u.2.2.1 ks I u.2.2.2.1 ac u.2.2.2.2.1 u.2.2.2.2.2) A) A) ([.ref (g 8), .int a0, .int b0, .int i0, .int j0, .int n0]).toArray s 0 0 A) (F0 m 206 ls []) := by
                            intro N206
                            induction N206 using Nat.strongRecOn with
                            | _ N206 IH206 =>
                              intro kq cq H locs ls hN206 q0 q1 q2 hP hD hS hl
                              refine lv_iload hx hb dX12_copied_206 (lv_at hl 7 rfl) ?_
                              refine lv_iload hx hb dX12_copied_208 (lv_at hl 3 rfl) ?_
                              refine lv_icmp_ge (tgt := 355) hx hb dX12_copied_210 (by decide) (fun c_214 => ?_) (fun c_214 => ?_)
                              · show _
                                have hke := gf_eq q1 (by assumption)
                                refine lv_lconst (v := 0) hx hb dX12_copied_355 (by decide) ?_
                                refine cr_l (wo := fun u : rY × (Nat → Int32) × (Nat → Int32) × (Nat → Int32) × Int32 × Int32 => rW g ty u.1 u.2.1 u.2.2.1 ks I u.2.2.2.1 ac u.2.2.2.2.1 u.2.2.2.2.2) (((Y.1, Y.2.1, Y.2.2.1, Y.2.2.2.1, Y.2.2.2.2.1, cq, Y.2.2.2.2.2.2.1, Y.2.2.2.2.2.2.2.1, Y.2.2.2.2.2.2.2.2.1, Y.2.2.2.2.2.2.2.2.2.1, Y.2.2.2.2.2.2.2.2.2.2), pa, kp, tl, wr, tw)) hx hb hr hlk hS hP hD ?_ dX12_copied_356
                                exact ⟨0, (Y.1, Y.2.1, Y.2.2.1, Y.2.2.2.1, Y.2.2.2.2.1, cq, Y.2.2.2.2.2.2.1, Y.2.2.2.2.2.2.2.1, Y.2.2.2.2.2.2.2.2.1, Y.2.2.2.2.2.2.2.2.2.1, Y.2.2.2.2.2.2.2.2.2.2), pa, kp, tl, wr, tw, rfl, rfl, (by subst hu; subst hrz; subst pre6; exact ra_w (by rw [← cpB_full]; rw [hke] at q2; first | exact q2 | (rw [Nat.sub_self] at q2; exact q2)) ⟨rfl, rfl, rfl, rfl⟩ hcnt htl rfl)⟩
                              · show _
                                have hkn := k1_lt q0 (by assumption)
                                have hd9 : ¬ ((n0 - 1) - kq) < 0 ∧ ¬ n0 ≤ ((n0 - 1) - kq) ∧ (((n0 - 1) - kq)).toNatClampNeg = n0.toNatClampNeg - (kq.toNatClampNeg + 1) := bd_ok q0 (by assumption)
                                have ha1 := sp_add hd9.1 hd9.2.1 gp1 hl1
                                have ha2 := sp_add hd9.1 hd9.2.1 gp2 hl2
                                have hvs := rv_row (P := pLc P y2 (cpB (P.2.2.2.2.2.2.1 y1) (P.2.2.2.2.2.2.1 y2) i0.toNatClampNeg j0.toNatClampNeg (n0.toNatClampNeg - kq.toNatClampNeg) n0.toNatClampNeg)) q2 n1t1 n2t1 n3t1 gk1 gy1
                                have hvt := rv_row (P := pLc P y2 (cpB (P.2.2.2.2.2.2.1 y1) (P.2.2.2.2.2.2.1 y2) i0.toNatClampNeg j0.toNatClampNeg (n0.toNatClampNeg - kq.toNatClampNeg) n0.toNatClampNeg)) q2 n1t2 n2t2 n3t2 gk2 gy2
                                have hx9 := hvs.2.2.2 _ ha1.2.2
                                have hcr9 : va_up P.2.2.2.2.2.2.1 y2 (cpB (P.2.2.2.2.2.2.1 y1) (P.2.2.2.2.2.2.1 y2) i0.toNatClampNeg j0.toNatClampNeg (n0.toNatClampNeg - kq.toNatClampNeg) n0.toNatClampNeg) y1 (i0 + ((n0 - 1) - kq)).toNatClampNeg = P.2.2.2.2.2.2.1 y1 (i0.toNatClampNeg + (((n0 - 1) - kq)).toNatClampNeg) := by rw [ha1.2.1]; exact cp_rd (fun e9 => by have := ge_lt (show ¬ j0 ≤ i0 by assumption) gp1.1 gp2.1; have := hd9.2.2; omega)
                                refine lv_iload hx hb dX12_copied_213 (lv_at hl 6 rfl) ?_
                                refine lv_if_eq (tgt := 228) hx hb dX12_copied_215 (by decide) (fun c9 => absurd c9 (by decide)) (fun _ => ?_)
                                refine lv_iload hx hb dX12_copied_218 (lv_at hl 3 rfl) ?_
                                refine lv_iconst (v := 1) hx hb dX12_copied_220 (by decide) ?_
                                refine lv_isub hx hb dX12_copied_221 ?_
                                refine lv_iload hx hb dX12_copied_222 (lv_at hl 7 rfl) ?_
                                refine lv_isub hx hb dX12_copied_224 ?_
                                refine lv_goto (tgt := 230) hx hb dX12_copied_225 (by decide) ?_
                                refine lv_istore (lv' := [(10, .int ((n0 - 1) - kq)), (0, .ref (g 8)), (3, .int i0), (4, .int j0), (5, .int n0), (6, .int (pa a0.toNatClampNeg)), (7, .int (pa b0.toNatClampNeg)), (8, .int 1), (9, .int kq)]) hx hb dX12_copied_230 hl (by decide) rfl (fun ls hl => ?_)
                                refine lv_aload_n hx hb dX12_copied_232 rfl (lv_at hl 1 rfl) ?_
                                refine lv_iload hx hb dX12_copied_233 (lv_at hl 5 rfl) ?_
                                refine lv_iload_n hx hb dX12_copied_235 rfl (lv_at hl 2 rfl) ?_
                                refine lv_iload hx hb dX12_copied_236 (lv_at hl 0 rfl) ?_
                                refine lv_iadd hx hb dX12_copied_238 ?_
                                refine cV_l (C := RX12) (n := 2) (rest := []) hx hb hml hown hg hT (c_X12_cell l dC dI g ty H.size (Y.1, Y.2.1, Y.2.2.1, Y.2.2.2.1, Y.2.2.2.2.1, cq, Y.2.2.2.2.2.2.1, Y.2.2.2.2.2.2.2.1, Y.2.2.2.2.2.2.2.2.1, Y.2.2.2.2.2.2.2.2.2.1, Y.2.2.2.2.2.2.2.2.2.2) pa kp ks I tl ac wr tw (pa a0.toNatClampNeg) (i0 + ((n0 - 1) - kq)) (by exact hvs.1) (by exact hx9.1)) (cv_of hg wM_X12_140 wN_X12_cell wL_X12_X12_cell wK_X12_cell wI_X12 (by decide +kernel) ⟨Nat.le_of_ble_eq_true rfl, Nat.le_of_ble_eq_true rfl⟩) hK hP hD hS hA (va_recv hK hP (ci := 14) (q0 := 0) rfl rfl) rfl hl.1 rfl (Nat.le_of_ble_eq_true rfl) dX12_copied_239 ⟨Nat.le_of_ble_eq_true rfl, Nat.le_of_ble_eq_true rfl⟩ (fun r_216 u_217 H locs q_215 hP hD hS => ?_)
                                obtain rfl := q_215
                                have hP : va_P (dC, dI) vwCl (rW g ty (Y.1, Y.2.1, Y.2.2.1, Y.2.2.2.1, Y.2.2.2.2.1, cq, Y.2.2.2.2.2.2.1, Y.2.2.2.2.2.2.2.1, Y.2.2.2.2.2.2.2.2.1, Y.2.2.2.2.2.2.2.2.2.1, Y.2.2.2.2.2.2.2.2.2.2) pa kp ks I tl ac wr tw) H := hP
                                have hD : va_D A (rW g ty (Y.1, Y.2.1, Y.2.2.1, Y.2.2.2.1, Y.2.2.2.2.1, cq, Y.2.2.2.2.2.2.1, Y.2.2.2.2.2.2.2.1, Y.2.2.2.2.2.2.2.2.1, Y.2.2.2.2.2.2.2.2.2.1, Y.2.2.2.2.2.2.2.2.2.2) pa kp ks I tl ac wr tw) := hD
                                refine lv_topl (fun v9 ev90 => ?_)
                                have ev9 : v9 = cq (Y.2.1 (pa a0.toNatClampNeg).toNatClampNeg + (i0 + ((n0 - 1) - kq))).toNatClampNeg := ev90
                                have hrd := ev9.trans (hx9.2.trans hcr9)
                                refine lv_lstore (lv' := [(11, .long v9), (10, .int ((n0 - 1) - kq)), (0, .ref (g 8)), (3, .int i0), (4, .int j0), (5, .int n0), (6, .int (pa a0.toNatClampNeg)), (7, .int (pa b0.toNatClampNeg)), (8, .int 1), (9, .int kq)]) hx hb dX12_copied_242 hl (by decide) rfl (fun ls hl => ?_)
                                refine lv_aload_n hx hb dX12_copied_244 rfl (lv_at hl 2 rfl) ?_
                                refine va_get (D := (dC, dI)) (ci := 14) (v := .ref (Y.2.2.2.2.2.2.1 0)) (C := RX12) (T := TX12) (N := 21) hx hb hg inG12 hown hK hP 0 rfl rfl 0 (by decide) (hg _ wF_X12_7) (fun _ h9 => h9) rfl dX12_copied_245 ?_
                                refine lv_iload hx hb dX12_copied_248 (lv_at hl 7 rfl) ?_
                                refine va_iald hx hb hK hP 1 0 rfl rfl (by exact hin2) dX12_copied_250 ?_
                                refine lv_bipush (v := 8) hx hb dX12_copied_251 (by decide) ?_
                                refine lv_icmp_lt (tgt := 336) hx hb dX12_copied_253 (by decide) (fun _ => ?_) (fun c9 => absurd hcr.2.2.2.1 c9)
                                refine lv_aload_n hx hb dX12_copied_336 rfl (lv_at hl 2 rfl) ?_
                                refine lv_iload hx hb dX12_copied_337 (lv_at hl 7 rfl) ?_
                                refine lv_iload hx hb dX12_copied_339 (lv_at hl 4 rfl) ?_
                                refine lv_iload hx hb dX12_copied_341 (lv_at hl 1 rfl) ?_
                                refine lv_iadd hx hb dX12_copied_343 ?_
                                refine lv_lload hx hb dX12_copied_344 (lv_at hl 0 rfl) ?_
                                refine cV_v (C := RX12) (n := 3) (rest := []) hx hb hml hown hg hT (c_X12_put l dC dI g ty H.size (Y.1, Y.2.1, Y.2.2.1, Y.2.2.2.1, Y.2.2.2.2.1, cq, Y.2.2.2.2.2.2.1, Y.2.2.2.2.2.2.2.1, Y.2.2.2.2.2.2.2.2.1, Y.2.2.2.2.2.2.2.2.2.1, Y.2.2.2.2.2.2.2.2.2.2) pa kp ks I tl ac wr tw (pa b0.toNatClampNeg) (j0 + ((n0 - 1) - kq)) v9 (by exact hvt.1) (by exact (hvt.2.2.2 _ ha2.2.2).1)) (cv_of hg wM_X12_151 wN_X12_put wL_X12_X12_put wK_X12_put wI_X12 (by decide +kernel) ⟨Nat.le_of_ble_eq_true rfl, Nat.le_of_ble_eq_true rfl⟩) hK hP hD hS hA (va_recv hK hP (ci := 14) (q0 := 0) rfl rfl) rfl hl.1 rfl (Nat.le_of_ble_eq_true rfl) dX12_copied_346 ⟨Nat.le_of_ble_eq_true rfl, Nat.le_of_ble_eq_true rfl⟩ (fun u_220 H locs q_218 hP hD hS => ?_)
                                obtain rfl := q_218
                                have hP : va_P (dC, dI) vwCl (rW g ty (Y.1, Y.2.1, Y.2.2.1, Y.2.2.2.1, Y.2.2.2.2.1, (vp_updL cq (Y.2.1 (pa b0.toNatClampNeg).toNatClampNeg + (j0 + ((n0 - 1) - kq))).toNatClampNeg v9), Y.2.2.2.2.2.2.1, Y.2.2.2.2.2.2.2.1, Y.2.2.2.2.2.2.2.2.1, Y.2.2.2.2.2.2.2.2.2.1, Y.2.2.2.2.2.2.2.2.2.2) pa kp ks I tl ac wr tw) H := hP
                                have hD : va_D A (rW g ty (Y.1, Y.2.1, Y.2.2.1, Y.2.2.2.1, Y.2.2.2.2.1, (vp_updL cq (Y.2.1 (pa b0.toNatClampNeg).toNatClampNeg + (j0 + ((n0 - 1) - kq))).toNatClampNeg v9), Y.2.2.2.2.2.2.1, Y.2.2.2.2.2.2.2.1, Y.2.2.2.2.2.2.2.2.1, Y.2.2.2.2.2.2.2.2.2.1, Y.2.2.2.2.2.2.2.2.2.2) pa kp ks I tl ac wr tw) := hD
                                refine lv_iinc (v := (kq + 1)) (lv' := [(9, .int (kq + 1)), (11, .long v9), (10, .int ((n0 - 1) - kq)), (0, .ref (g 8)), (3, .int i0), (4, .int j0), (5, .int n0), (6, .int (pa a0.toNatClampNeg)), (7, .int (pa b0.toNatClampNeg)), (8, .int 1)]) hx hb dX12_copied_349 hl (k := 9) rfl rfl (by decide) rfl (fun ls hl => ?_)
                                refine lv_goto (tgt := 206) hx hb dX12_copied_352 (by decide) ?_
                                have hup := up1_clamp q0 (by assumption)
                                have hw9 := rw_row (P := pLc P y2 (cpB (P.2.2.2.2.2.2.1 y1) (P.2.2.2.2.2.2.1 y2) i0.toNatClampNeg j0.toNatClampNeg (n0.toNatClampNeg - kq.toNatClampNeg) n0.toNatClampNeg)) (wf_lc wf _ _) q2 n1t2 n2t2 n3t2 gk2 gy2 ha2.2.2 (x := v9) rfl
                                have e9 : pLc (pLc P y2 (cpB (P.2.2.2.2.2.2.1 y1) (P.2.2.2.2.2.2.1 y2) i0.toNatClampNeg j0.toNatClampNeg (n0.toNatClampNeg - kq.toNatClampNeg) n0.toNatClampNeg)) y2 (vp_updL ((pLc P y2 (cpB (P.2.2.2.2.2.2.1 y1) (P.2.2.2.2.2.2.1 y2) i0.toNatClampNeg j0.toNatClampNeg (n0.toNatClampNeg - kq.toNatClampNeg) n0.toNatClampNeg)).2.2.2.2.2.2.1 y2) (j0 + ((n0 - 1) - kq)).toNatClampNeg v9) = pLc P y2 (cpB (P.2.2.2.2.2.2.1 y1) (P.2.2.2.2.2.2.1 y2) i0.toNatClampNeg j0.toNatClampNeg (n0.toNatClampNeg - (kq + 1).toNatClampNeg) n0.toNatClampNeg) := by
                                  rw [pLc_pLc, upL_up, hrd, ha2.2.1, show (pLc P y2 (cpB (P.2.2.2.2.2.2.1 y1) (P.2.2.2.2.2.2.1 y2) i0.toNatClampNeg j0.toNatClampNeg (n0.toNatClampNeg - kq.toNatClampNeg) n0.toNatClampNeg)).2.2.2.2.2.2.1 y2 = cpB (P.2.2.2.2.2.2.1 y1) (P.2.2.2.2.2.2.1 y2) i0.toNatClampNeg j0.toNatClampNeg (n0.toNatClampNeg - kq.toNatClampNeg) n0.toNatClampNeg from va_up_self _ _ _, hup]
                                  rw [hd9.2.2, show n0.toNatClampNeg - kq.toNatClampNeg = n0.toNatClampNeg - (kq.toNatClampNeg + 1) + 1 by omega, cpB_dn _ _ (by omega)]
                                exact IH206 _ (by rw [← hN206]; exact th_dec q0 (by assumption)) (kq + 1) (vp_updL cq (Y.2.1 (pa b0.toNatClampNeg).toNatClampNeg + (j0 + ((n0 - 1) - kq))).toNatClampNeg v9) _ _ _ rfl (by exact k1_nn q0 (by assumption)) (by exact k1_le (by assumption)) (by rw [← e9]; exact hw9) hP hD hS (lv_sub hl [3, 4, 5, 6, 7, 8, 9, 0] rfl)
                          exact LOOP206 _ 0 Y.2.2.2.2.2.1 _ _ _ rfl (by decide) (by exact nn_of (by assumption)) (by rw [show (0 : Int32).toNatClampNeg = 0 from rfl, Nat.sub_zero, cpB_nil, pLc_self]; exact rel) hP hD hS (lv_sub hl [4, 7, 8, 9, 3, 2, 1, 0] rfl)
                    · show _
                      have hs1 := (sp_by (i := i0) (n := n0) (m := (Y.2.2.1 (pa a0.toNatClampNeg).toNatClampNeg)) g11.1 g11.2.1 ⟨by_lt pre8, by_lt pre10⟩ hv1.2.1).mpr (by rw [show (Y.2.2.1 (pa a0.toNatClampNeg).toNatClampNeg).toNatClampNeg = _ from hv1.2.2.1]; exact g11)
                      have hs2 := (sp_by (i := j0) (n := n0) (m := (Y.2.2.1 (pa b0.toNatClampNeg).toNatClampNeg)) g12.1 g12.2.1 ⟨by_lt pre9, by_lt pre10⟩ hv2.2.1).mpr (by rw [show (Y.2.2.1 (pa b0.toNatClampNeg).toNatClampNeg).toNatClampNeg = _ from hv2.2.2.1]; exact g12)
                      first | exact absurd (show i0 < 0 by assumption) g11.1 | exact absurd (show j0 < 0 by assumption) g12.1 | exact absurd (show n0 < 0 by assumption) g11.2.1 | exact absurd hs1 (ge_of (by assumption)) | exact absurd hs2 (by assumption)
  · show _
    obtain ⟨n1t1, n2t1, n3t1⟩ := rk_some rel g2 g4
    have hnet1 := (i32_pos n1t1).2.1
    have tht1 := wf.1 _ _ g4
    obtain ⟨n1t2, n2t2, n3t2⟩ := rk_some rel g3 g5
    have hnet2 := (i32_pos n1t2).2.1
    have tht2 := wf.1 _ _ g5
    have hsr1 := rv_sr rel n1t1 n2t1 n3t1
    have hsr2 := rv_sr rel n1t2 n2t2 n3t2
    have hck := cp_kind wf tht1 tht2 hsr1 hsr2
    have hin1 := (rk_in rel n1t1 n2t1).1
    have hin2 := (rk_in rel n1t2 n2t2).1
    have hcs := hck.2.1 ⟨g6, g7⟩
    have hv1 := rv_shelf rel n1t1 n2t1 n3t1 g6 g8
    obtain ⟨z1, ez1, _, _, hl1⟩ := wf.2.2.2.1 t1 tht1.1 g6
    cases g8.symm.trans ez1
    have hl : lv_has ls 13 [(0, .ref (g 8)), (1, .int a0), (2, .int b0), (3, .int i0), (4, .int j0), (5, .int n0)] := hl
    refine lv_aload_n hx hb dX12_copied_0 rfl (lv_at hl 0 rfl) ?_
    refine lv_iload_n hx hb dX12_copied_1 rfl (lv_at hl 1 rfl) ?_
    refine cV_i (C := RX12) (n := 1) (rest := []) hx hb hml hown hg hT (c_X12_place l dC dI g ty s.heap.size Y pa kp ks I tl ac wr tw a0 ) (cv_of hg wM_X12_83 wN_X12_place wL_X12_X12_place wK_X12_place wI_X12 (by decide +kernel) ⟨Nat.le_of_ble_eq_true rfl, Nat.le_of_ble_eq_true rfl⟩) hK hP hD hS hA (va_recv hK hP (ci := 14) (q0 := 0) rfl rfl) rfl hl.1 rfl (Nat.le_of_ble_eq_true rfl) dX12_copied_2 ⟨Nat.le_of_ble_eq_true rfl, Nat.le_of_ble_eq_true rfl⟩ (fun r_222 u_223 H locs q_221 hP hD hS => ?_)
    rcases q_221 with ⟨rfl, rfl, f_224⟩ | ⟨rfl, rfl, f_225⟩
    · show _
      exact absurd (by assumption) f_224
    · show _
      have hP : va_P (dC, dI) vwCl (rW g ty Y pa kp ks I tl ac wr tw) H := hP
      have hD : va_D A (rW g ty Y pa kp ks I tl ac wr tw) := hD
      refine lv_if_eq (tgt := 32) hx hb dX12_copied_5 (by decide) (fun c9 => absurd c9 (by decide)) (fun _ => ?_)
      refine lv_aload_n hx hb dX12_copied_8 rfl (lv_at hl 0 rfl) ?_
      refine lv_iload_n hx hb dX12_copied_9 rfl (lv_at hl 2 rfl) ?_
      refine cV_i (C := RX12) (n := 1) (rest := []) hx hb hml hown hg hT (c_X12_place l dC dI g ty H.size Y pa kp ks I tl ac wr tw b0 ) (cv_of hg wM_X12_83 wN_X12_place wL_X12_X12_place wK_X12_place wI_X12 (by decide +kernel) ⟨Nat.le_of_ble_eq_true rfl, Nat.le_of_ble_eq_true rfl⟩) hK hP hD hS hA (va_recv hK hP (ci := 14) (q0 := 0) rfl rfl) rfl hl.1 rfl (Nat.le_of_ble_eq_true rfl) dX12_copied_10 ⟨Nat.le_of_ble_eq_true rfl, Nat.le_of_ble_eq_true rfl⟩ (fun r_227 u_228 H locs q_226 hP hD hS => ?_)
      rcases q_226 with ⟨rfl, rfl, f_229⟩ | ⟨rfl, rfl, f_230⟩
      · show _
        exact absurd (by assumption) f_229
      · show _
        have hP : va_P (dC, dI) vwCl (rW g ty Y pa kp ks I tl ac wr tw) H := hP
        have hD : va_D A (rW g ty Y pa kp ks I tl ac wr tw) := hD
        refine lv_if_eq (tgt := 32) hx hb dX12_copied_13 (by decide) (fun c9 => absurd c9 (by decide)) (fun _ => ?_)
        refine lv_aload_n hx hb dX12_copied_16 rfl (lv_at hl 0 rfl) ?_
        refine lv_iload_n hx hb dX12_copied_17 rfl (lv_at hl 1 rfl) ?_
        refine cV_i (C := RX12) (n := 1) (rest := []) hx hb hml hown hg hT (c_X12_need l dC dI g ty H.size Y pa kp ks I tl ac wr tw a0 (by assumption)) (cv_of hg wM_X12_134 wN_X12_need wL_X12_X12_need wK_X12_need wI_X12 (by decide +kernel) ⟨Nat.le_of_ble_eq_true rfl, Nat.le_of_ble_eq_true rfl⟩) hK hP hD hS hA (va_recv hK hP (ci := 14) (q0 := 0) rfl rfl) rfl hl.1 rfl (Nat.le_of_ble_eq_true rfl) dX12_copied_18 ⟨Nat.le_of_ble_eq_true rfl, Nat.le_of_ble_eq_true rfl⟩ (fun r_232 u_233 H locs q_231 hP hD hS => ?_)
        rcases q_231 with ⟨rfl, rfl, f_234⟩ | ⟨rfl, rfl, f_235⟩
        · show _
          exact absurd f_234 (by assumption)
        · show _
          have hP : va_P (dC, dI) vwCl (rW g ty Y pa kp ks I tl ac wr tw) H := hP
          have hD : va_D A (rW g ty Y pa kp ks I tl ac wr tw) := hD
          refine lv_if_eq (tgt := 32) hx hb dX12_copied_21 (by decide) (fun c9 => absurd c9 (by decide)) (fun _ => ?_)
          refine lv_aload_n hx hb dX12_copied_24 rfl (lv_at hl 0 rfl) ?_
          refine lv_iload_n hx hb dX12_copied_25 rfl (lv_at hl 2 rfl) ?_
          refine cV_i (C := RX12) (n := 1) (rest := []) hx hb hml hown hg hT (c_X12_need l dC dI g ty H.size Y pa kp ks I tl ac wr tw b0 (by assumption)) (cv_of hg wM_X12_134 wN_X12_need wL_X12_X12_need wK_X12_need wI_X12 (by decide +kernel) ⟨Nat.le_of_ble_eq_true rfl, Nat.le_of_ble_eq_true rfl⟩) hK hP hD hS hA (va_recv hK hP (ci := 14) (q0 := 0) rfl rfl) rfl hl.1 rfl (Nat.le_of_ble_eq_true rfl) dX12_copied_26 ⟨Nat.le_of_ble_eq_true rfl, Nat.le_of_ble_eq_true rfl⟩ (fun r_237 u_238 H locs q_236 hP hD hS => ?_)
          rcases q_236 with ⟨rfl, rfl, f_239⟩ | ⟨rfl, rfl, f_240⟩
          · show _
            exact absurd f_239 (by assumption)
          · show _
            have hP : va_P (dC, dI) vwCl (rW g ty Y pa kp ks I tl ac wr tw) H := hP
            have hD : va_D A (rW g ty Y pa kp ks I tl ac wr tw) := hD
            refine lv_if_ne (tgt := 37) hx hb dX12_copied_29 (by decide) (fun _ => ?_) (fun c9 => absurd c9 (by decide)) 
            refine lv_aload_n hx hb dX12_copied_37 rfl (lv_at hl 0 rfl) ?_
            refine va_get (D := (dC, dI)) (ci := 14) (v := .ref (g 9)) (C := RX12) (T := TX12) (N := 21) hx hb hg inG12 hown hK hP 0 rfl rfl 8 (by decide) (hg _ wF_X12_34) (fun _ h9 => h9) rfl dX12_copied_38 ?_
            refine lv_iload_n hx hb dX12_copied_41 rfl (lv_at hl 1 rfl) ?_
            refine va_iald hx hb hK hP 7 0 rfl rfl (by assumption) dX12_copied_42 ?_
            refine lv_istore (lv' := [(6, .int (pa a0.toNatClampNeg)), (0, .ref (g 8)), (1, .int a0), (2, .int b0), (3, .int i0), (4, .int j0), (5, .int n0)]) hx hb dX12_copied_43 hl (by decide) rfl (fun ls hl => ?_)
            refine lv_aload_n hx hb dX12_copied_45 rfl (lv_at hl 1 rfl) ?_
            refine va_get (D := (dC, dI)) (ci := 14) (v := .ref (g 9)) (C := RX12) (T := TX12) (N := 21) hx hb hg inG12 hown hK hP 0 rfl rfl 8 (by decide) (hg _ wF_X12_34) (fun _ h9 => h9) rfl dX12_copied_46 ?_
            refine lv_iload_n hx hb dX12_copied_49 rfl (lv_at hl 3 rfl) ?_
            refine va_iald hx hb hK hP 7 0 rfl rfl (by assumption) dX12_copied_50 ?_
            refine lv_istore (lv' := [(7, .int (pa b0.toNatClampNeg)), (6, .int (pa a0.toNatClampNeg)), (0, .ref (g 8)), (1, .int a0), (2, .int b0), (3, .int i0), (4, .int j0), (5, .int n0)]) hx hb dX12_copied_51 hl (by decide) rfl (fun ls hl => ?_)
            refine lv_aload_n hx hb dX12_copied_53 rfl (lv_at hl 2 rfl) ?_
            refine va_get (D := (dC, dI)) (ci := 14) (v := .ref (Y.2.2.2.2.2.2.1 0)) (C := RX12) (T := TX12) (N := 21) hx hb hg inG12 hown hK hP 0 rfl rfl 0 (by decide) (hg _ wF_X12_7) (fun _ h9 => h9) rfl dX12_copied_54 ?_
            refine lv_iload hx hb dX12_copied_57 (lv_at hl 1 rfl) ?_
            refine va_iald hx hb hK hP 1 0 rfl rfl (by exact hin1) dX12_copied_59 ?_
            refine lv_bipush (v := 12) hx hb dX12_copied_60 (by decide) ?_
            refine lv_icmp_ge (tgt := 118) hx hb dX12_copied_62 (by decide) (fun c9 => absurd c9 hcs.1) (fun _ => ?_)
            refine lv_aload_n hx hb dX12_copied_65 rfl (lv_at hl 2 rfl) ?_
            refine va_get (D := (dC, dI)) (ci := 14) (v := .ref (Y.2.2.2.2.2.2.1 0)) (C := RX12) (T := TX12) (N := 21) hx hb hg inG12 hown hK hP 0 rfl rfl 0 (by decide) (hg _ wF_X12_7) (fun _ h9 => h9) rfl dX12_copied_66 ?_
            refine lv_iload hx hb dX12_copied_69 (lv_at hl 0 rfl) ?_
            refine va_iald hx hb hK hP 1 0 rfl rfl (by exact hin2) dX12_copied_71 ?_
            refine lv_bipush (v := 12) hx hb dX12_copied_72 (by decide) ?_
            refine lv_icmp_ge (tgt := 118) hx hb dX12_copied_74 (by decide) (fun c9 => absurd c9 hcs.2.1) (fun _ => ?_)
            refine lv_aload_n hx hb dX12_copied_77 rfl (lv_at hl 2 rfl) ?_
            refine va_get (D := (dC, dI)) (ci := 14) (v := .ref (Y.2.2.2.2.2.2.1 0)) (C := RX12) (T := TX12) (N := 21) hx hb hg inG12 hown hK hP 0 rfl rfl 0 (by decide) (hg _ wF_X12_7) (fun _ h9 => h9) rfl dX12_copied_78 ?_
            refine lv_iload hx hb dX12_copied_81 (lv_at hl 1 rfl) ?_
            refine va_iald hx hb hK hP 1 0 rfl rfl (by exact hin1) dX12_copied_83 ?_
            refine lv_bipush (v := 8) hx hb dX12_copied_84 (by decide) ?_
            refine lv_icmp_lt (tgt := 101) hx hb dX12_copied_86 (by decide) (fun c9 => absurd c9 hcs.2.2.1) (fun _ => ?_)
            refine lv_aload_n hx hb dX12_copied_89 rfl (lv_at hl 2 rfl) ?_
            refine va_get (D := (dC, dI)) (ci := 14) (v := .ref (Y.2.2.2.2.2.2.1 0)) (C := RX12) (T := TX12) (N := 21) hx hb hg inG12 hown hK hP 0 rfl rfl 0 (by decide) (hg _ wF_X12_7) (fun _ h9 => h9) rfl dX12_copied_90 ?_
            refine lv_iload hx hb dX12_copied_93 (lv_at hl 0 rfl) ?_
            refine va_iald hx hb hK hP 1 0 rfl rfl (by exact hin2) dX12_copied_95 ?_
            refine lv_bipush (v := 8) hx hb dX12_copied_96 (by decide) ?_
            refine lv_icmp_ge (tgt := 129) hx hb dX12_copied_98 (by decide) (fun _ => ?_) (fun c9 => absurd hcs.2.2.2.1 c9)
            refine lv_iload_n hx hb dX12_copied_129 rfl (lv_at hl 5 rfl) ?_
            refine lv_if_lt (tgt := 172) hx hb dX12_copied_130 (by decide) (fun c_241 => ?_) (fun c_241 => ?_)
            · show _
              refine lv_aload_n hx hb dX12_copied_172 rfl (lv_at hl 2 rfl) ?_
              refine lv_iconst (v := 2) hx hb dX12_copied_173 (by decide) ?_
              refine cV_i (C := RX12) (n := 1) (rest := []) hx hb hml hown hg hT (c_X12_fails l dC dI g ty H.size Y pa kp ks I tl ac wr tw 2 ) (cv_of hg wM_X12_79 wN_X12_fails wL_X12_X12_fails wK_X12_fails wI_X12 (by decide +kernel) ⟨Nat.le_of_ble_eq_true rfl, Nat.le_of_ble_eq_true rfl⟩) hK hP hD hS hA (va_recv hK hP (ci := 14) (q0 := 0) rfl rfl) rfl hl.1 rfl (Nat.le_of_ble_eq_true rfl) dX12_copied_174 ⟨Nat.le_of_ble_eq_true rfl, Nat.le_of_ble_eq_true rfl⟩ (fun r_243 u_244 H locs q_242 hP hD hS => ?_)
              obtain ⟨rfl, rfl⟩ := q_242
              have hP : va_P (dC, dI) vwCl (rW g ty Y pa kp ks I tl ac 2 tw) H := hP
              have hD : va_D A (rW g ty Y pa kp ks I tl ac 2 tw) := hD
              refine lv_pop hx hb dX12_copied_177 rfl ?_
              refine lv_aload_n hx hb dX12_copied_178 rfl (lv_at hl 2 rfl) ?_
              refine cV_l (C := RX12) (n := 0) (rest := []) hx hb hml hown hg hT (c_X12_no l dC dI g ty H.size Y pa kp ks I tl ac 2 tw  ) (cv_of hg wM_X12_107 wN_X12_no wL_X12_X12_no wK_X12_no wI_X12 (by decide +kernel) ⟨Nat.le_of_ble_eq_true rfl, Nat.le_of_ble_eq_true rfl⟩) hK hP hD hS hA (va_recv hK hP (ci := 14) (q0 := 0) rfl rfl) rfl hl.1 rfl (Nat.le_of_ble_eq_true rfl) dX12_copied_179 ⟨Nat.le_of_ble_eq_true rfl, Nat.le_of_ble_eq_true rfl⟩ (fun r_246 u_247 H locs q_245 hP hD hS => ?_)
              obtain ⟨rfl, rfl⟩ := q_245
              have hP : va_P (dC, dI) vwCl (rW g ty Y pa kp ks I tl ac 2 1) H := hP
              have hD : va_D A (rW g ty Y pa kp ks I tl ac 2 1) := hD
              refine cr_l (wo := fun u : rY × (Nat → Int32) × (Nat → Int32) × (Nat → Int32) × Int32 × Int32 => rW g ty u.1 u.2.1 u.2.2.1 ks I u.2.2.2.1 ac u.2.2.2.2.1 u.2.2.2.2.2) ((Y, pa, kp, tl, 2, 1)) hx hb hr hlk hS hP hD ?_ dX12_copied_182
              exact ⟨0, Y, pa, kp, tl, 2, 1, rfl, rfl, (by subst hu; subst hrz; exact ra_f (f := 2) rel hcnt htl (by decide))⟩
            · show _
              refine lv_iload hx hb dX12_copied_133 (lv_at hl 6 rfl) ?_
              refine lv_if_lt (tgt := 172) hx hb dX12_copied_135 (by decide) (fun c_248 => ?_) (fun c_248 => ?_)
              · show _
                refine lv_aload_n hx hb dX12_copied_172 rfl (lv_at hl 2 rfl) ?_
                refine lv_iconst (v := 2) hx hb dX12_copied_173 (by decide) ?_
                refine cV_i (C := RX12) (n := 1) (rest := []) hx hb hml hown hg hT (c_X12_fails l dC dI g ty H.size Y pa kp ks I tl ac wr tw 2 ) (cv_of hg wM_X12_79 wN_X12_fails wL_X12_X12_fails wK_X12_fails wI_X12 (by decide +kernel) ⟨Nat.le_of_ble_eq_true rfl, Nat.le_of_ble_eq_true rfl⟩) hK hP hD hS hA (va_recv hK hP (ci := 14) (q0 := 0) rfl rfl) rfl hl.1 rfl (Nat.le_of_ble_eq_true rfl) dX12_copied_174 ⟨Nat.le_of_ble_eq_true rfl, Nat.le_of_ble_eq_true rfl⟩ (fun r_250 u_251 H locs q_249 hP hD hS => ?_)
                obtain ⟨rfl, rfl⟩ := q_249
                have hP : va_P (dC, dI) vwCl (rW g ty Y pa kp ks I tl ac 2 tw) H := hP
                have hD : va_D A (rW g ty Y pa kp ks I tl ac 2 tw) := hD
                refine lv_pop hx hb dX12_copied_177 rfl ?_
                refine lv_aload_n hx hb dX12_copied_178 rfl (lv_at hl 2 rfl) ?_
                refine cV_l (C := RX12) (n := 0) (rest := []) hx hb hml hown hg hT (c_X12_no l dC dI g ty H.size Y pa kp ks I tl ac 2 tw  ) (cv_of hg wM_X12_107 wN_X12_no wL_X12_X12_no wK_X12_no wI_X12 (by decide +kernel) ⟨Nat.le_of_ble_eq_true rfl, Nat.le_of_ble_eq_true rfl⟩) hK hP hD hS hA (va_recv hK hP (ci := 14) (q0 := 0) rfl rfl) rfl hl.1 rfl (Nat.le_of_ble_eq_true rfl) dX12_copied_179 ⟨Nat.le_of_ble_eq_true rfl, Nat.le_of_ble_eq_true rfl⟩ (fun r_253 u_254 H locs q_252 hP hD hS => ?_)
                obtain ⟨rfl, rfl⟩ := q_252
                have hP : va_P (dC, dI) vwCl (rW g ty Y pa kp ks I tl ac 2 1) H := hP
                have hD : va_D A (rW g ty Y pa kp ks I tl ac 2 1) := hD
                refine cr_l (wo := fun u : rY × (Nat → Int32) × (Nat → Int32) × (Nat → Int32) × Int32 × Int32 => rW g ty u.1 u.2.1 u.2.2.1 ks I u.2.2.2.1 ac u.2.2.2.2.1 u.2.2.2.2.2) ((Y, pa, kp, tl, 2, 1)) hx hb hr hlk hS hP hD ?_ dX12_copied_182
                exact ⟨0, Y, pa, kp, tl, 2, 1, rfl, rfl, (by subst hu; subst hrz; exact ra_f (f := 2) rel hcnt htl (by decide))⟩
              · show _
                refine lv_iload hx hb dX12_copied_138 (lv_at hl 7 rfl) ?_
                refine lv_if_lt (tgt := 172) hx hb dX12_copied_140 (by decide) (fun c_255 => ?_) (fun c_255 => ?_)
                · show _
                  refine lv_aload_n hx hb dX12_copied_172 rfl (lv_at hl 2 rfl) ?_
                  refine lv_iconst (v := 2) hx hb dX12_copied_173 (by decide) ?_
                  refine cV_i (C := RX12) (n := 1) (rest := []) hx hb hml hown hg hT (c_X12_fails l dC dI g ty H.size Y pa kp ks I tl ac wr tw 2 ) (cv_of hg wM_X12_79 wN_X12_fails wL_X12_X12_fails wK_X12_fails wI_X12 (by decide +kernel) ⟨Nat.le_of_ble_eq_true rfl, Nat.le_of_ble_eq_true rfl⟩) hK hP hD hS hA (va_recv hK hP (ci := 14) (q0 := 0) rfl rfl) rfl hl.1 rfl (Nat.le_of_ble_eq_true rfl) dX12_copied_174 ⟨Nat.le_of_ble_eq_true rfl, Nat.le_of_ble_eq_true rfl⟩ (fun r_257 u_258 H locs q_256 hP hD hS => ?_)
                  obtain ⟨rfl, rfl⟩ := q_256
                  have hP : va_P (dC, dI) vwCl (rW g ty Y pa kp ks I tl ac 2 tw) H := hP
                  have hD : va_D A (rW g ty Y pa kp ks I tl ac 2 tw) := hD
                  refine lv_pop hx hb dX12_copied_177 rfl ?_
                  refine lv_aload_n hx hb dX12_copied_178 rfl (lv_at hl 2 rfl) ?_
                  refine cV_l (C := RX12) (n := 0) (rest := []) hx hb hml hown hg hT (c_X12_no l dC dI g ty H.size Y pa kp ks I tl ac 2 tw  ) (cv_of hg wM_X12_107 wN_X12_no wL_X12_X12_no wK_X12_no wI_X12 (by decide +kernel) ⟨Nat.le_of_ble_eq_true rfl, Nat.le_of_ble_eq_true rfl⟩) hK hP hD hS hA (va_recv hK hP (ci := 14) (q0 := 0) rfl rfl) rfl hl.1 rfl (Nat.le_of_ble_eq_true rfl) dX12_copied_179 ⟨Nat.le_of_ble_eq_true rfl, Nat.le_of_ble_eq_true rfl⟩ (fun r_260 u_261 H locs q_259 hP hD hS => ?_)
                  obtain ⟨rfl, rfl⟩ := q_259
                  have hP : va_P (dC, dI) vwCl (rW g ty Y pa kp ks I tl ac 2 1) H := hP
                  have hD : va_D A (rW g ty Y pa kp ks I tl ac 2 1) := hD
                  refine cr_l (wo := fun u : rY × (Nat → Int32) × (Nat → Int32) × (Nat → Int32) × Int32 × Int32 => rW g ty u.1 u.2.1 u.2.2.1 ks I u.2.2.2.1 ac u.2.2.2.2.1 u.2.2.2.2.2) ((Y, pa, kp, tl, 2, 1)) hx hb hr hlk hS hP hD ?_ dX12_copied_182
                  exact ⟨0, Y, pa, kp, tl, 2, 1, rfl, rfl, (by subst hu; subst hrz; exact ra_f (f := 2) rel hcnt htl (by decide))⟩
                · show _
                  refine lv_iload_n hx hb dX12_copied_143 rfl (lv_at hl 5 rfl) ?_
                  refine lv_iload hx hb dX12_copied_144 (lv_at hl 7 rfl) ?_
                  refine lv_iadd hx hb dX12_copied_146 ?_
                  refine lv_aload_n hx hb dX12_copied_147 rfl (lv_at hl 2 rfl) ?_
                  refine va_get (D := (dC, dI)) (ci := 14) (v := .ref (Y.2.2.2.2.2.2.1 2)) (C := RX12) (T := TX12) (N := 21) hx hb hg inG12 hown hK hP 0 rfl rfl 2 (by decide) (hg _ wF_X12_16) (fun _ h9 => h9) rfl dX12_copied_148 ?_
                  refine lv_iload hx hb dX12_copied_151 (lv_at hl 1 rfl) ?_
                  refine va_iald hx hb hK hP 3 0 rfl rfl (by exact hin1) dX12_copied_153 ?_
                  refine lv_icmp_gt (tgt := 172) hx hb dX12_copied_154 (by decide) (fun c_262 => ?_) (fun c_262 => ?_)
                  · show _
                    refine lv_aload_n hx hb dX12_copied_172 rfl (lv_at hl 2 rfl) ?_
                    refine lv_iconst (v := 2) hx hb dX12_copied_173 (by decide) ?_
                    refine cV_i (C := RX12) (n := 1) (rest := []) hx hb hml hown hg hT (c_X12_fails l dC dI g ty H.size Y pa kp ks I tl ac wr tw 2 ) (cv_of hg wM_X12_79 wN_X12_fails wL_X12_X12_fails wK_X12_fails wI_X12 (by decide +kernel) ⟨Nat.le_of_ble_eq_true rfl, Nat.le_of_ble_eq_true rfl⟩) hK hP hD hS hA (va_recv hK hP (ci := 14) (q0 := 0) rfl rfl) rfl hl.1 rfl (Nat.le_of_ble_eq_true rfl) dX12_copied_174 ⟨Nat.le_of_ble_eq_true rfl, Nat.le_of_ble_eq_true rfl⟩ (fun r_264 u_265 H locs q_263 hP hD hS => ?_)
                    obtain ⟨rfl, rfl⟩ := q_263
                    have hP : va_P (dC, dI) vwCl (rW g ty Y pa kp ks I tl ac 2 tw) H := hP
                    have hD : va_D A (rW g ty Y pa kp ks I tl ac 2 tw) := hD
                    refine lv_pop hx hb dX12_copied_177 rfl ?_
                    refine lv_aload_n hx hb dX12_copied_178 rfl (lv_at hl 2 rfl) ?_
                    refine cV_l (C := RX12) (n := 0) (rest := []) hx hb hml hown hg hT (c_X12_no l dC dI g ty H.size Y pa kp ks I tl ac 2 tw  ) (cv_of hg wM_X12_107 wN_X12_no wL_X12_X12_no wK_X12_no wI_X12 (by decide +kernel) ⟨Nat.le_of_ble_eq_true rfl, Nat.le_of_ble_eq_true rfl⟩) hK hP hD hS hA (va_recv hK hP (ci := 14) (q0 := 0) rfl rfl) rfl hl.1 rfl (Nat.le_of_ble_eq_true rfl) dX12_copied_179 ⟨Nat.le_of_ble_eq_true rfl, Nat.le_of_ble_eq_true rfl⟩ (fun r_267 u_268 H locs q_266 hP hD hS => ?_)
                    obtain ⟨rfl, rfl⟩ := q_266
                    have hP : va_P (dC, dI) vwCl (rW g ty Y pa kp ks I tl ac 2 1) H := hP
                    have hD : va_D A (rW g ty Y pa kp ks I tl ac 2 1) := hD
                    refine cr_l (wo := fun u : rY × (Nat → Int32) × (Nat → Int32) × (Nat → Int32) × Int32 × Int32 => rW g ty u.1 u.2.1 u.2.2.1 ks I u.2.2.2.1 ac u.2.2.2.2.1 u.2.2.2.2.2) ((Y, pa, kp, tl, 2, 1)) hx hb hr hlk hS hP hD ?_ dX12_copied_182
                    exact ⟨0, Y, pa, kp, tl, 2, 1, rfl, rfl, (by subst hu; subst hrz; exact ra_f (f := 2) rel hcnt htl (by decide))⟩
                  · show _
                    refine lv_iload hx hb dX12_copied_157 (lv_at hl 6 rfl) ?_
                    refine lv_iload hx hb dX12_copied_159 (lv_at hl 7 rfl) ?_
                    refine lv_iadd hx hb dX12_copied_161 ?_
                    refine lv_aload_n hx hb dX12_copied_162 rfl (lv_at hl 2 rfl) ?_
                    refine va_get (D := (dC, dI)) (ci := 14) (v := .ref (Y.2.2.2.2.2.2.1 2)) (C := RX12) (T := TX12) (N := 21) hx hb hg inG12 hown hK hP 0 rfl rfl 2 (by decide) (hg _ wF_X12_16) (fun _ h9 => h9) rfl dX12_copied_163 ?_
                    refine lv_iload hx hb dX12_copied_166 (lv_at hl 0 rfl) ?_
                    refine va_iald hx hb hK hP 3 0 rfl rfl (by exact hin2) dX12_copied_168 ?_
                    refine lv_icmp_le (tgt := 183) hx hb dX12_copied_169 (by decide) (fun c_269 => ?_) (fun c_269 => ?_)
                    · show _
                      have hsp := (sp_by (i := i0) (n := n0) (m := (Y.2.2.1 (pa a0.toNatClampNeg).toNatClampNeg)) (by assumption) (by assumption) ⟨by_lt pre8, by_lt pre10⟩ hv1.2.1).mp (gt_le (by assumption))
                      rw [show (Y.2.2.1 (pa a0.toNatClampNeg).toNatClampNeg).toNatClampNeg = _ from hv1.2.2.1] at hsp
                      exact absurd hsp g9
                    · show _
                      refine lv_aload_n hx hb dX12_copied_172 rfl (lv_at hl 2 rfl) ?_
                      refine lv_iconst (v := 2) hx hb dX12_copied_173 (by decide) ?_
                      refine cV_i (C := RX12) (n := 1) (rest := []) hx hb hml hown hg hT (c_X12_fails l dC dI g ty H.size Y pa kp ks I tl ac wr tw 2 ) (cv_of hg wM_X12_79 wN_X12_fails wL_X12_X12_fails wK_X12_fails wI_X12 (by decide +kernel) ⟨Nat.le_of_ble_eq_true rfl, Nat.le_of_ble_eq_true rfl⟩) hK hP hD hS hA (va_recv hK hP (ci := 14) (q0 := 0) rfl rfl) rfl hl.1 rfl (Nat.le_of_ble_eq_true rfl) dX12_copied_174 ⟨Nat.le_of_ble_eq_true rfl, Nat.le_of_ble_eq_true rfl⟩ (fun r_271 u_272 H locs q_270 hP hD hS => ?_)
                      obtain ⟨rfl, rfl⟩ := q_270
                      have hP : va_P (dC, dI) vwCl (rW g ty Y pa kp ks I tl ac 2 tw) H := hP
                      have hD : va_D A (rW g ty Y pa kp ks I tl ac 2 tw) := hD
                      refine lv_pop hx hb dX12_copied_177 rfl ?_
                      refine lv_aload_n hx hb dX12_copied_178 rfl (lv_at hl 2 rfl) ?_
                      refine cV_l (C := RX12) (n := 0) (rest := []) hx hb hml hown hg hT (c_X12_no l dC dI g ty H.size Y pa kp ks I tl ac 2 tw  ) (cv_of hg wM_X12_107 wN_X12_no wL_X12_X12_no wK_X12_no wI_X12 (by decide +kernel) ⟨Nat.le_of_ble_eq_true rfl, Nat.le_of_ble_eq_true rfl⟩) hK hP hD hS hA (va_recv hK hP (ci := 14) (q0 := 0) rfl rfl) rfl hl.1 rfl (Nat.le_of_ble_eq_true rfl) dX12_copied_179 ⟨Nat.le_of_ble_eq_true rfl, Nat.le_of_ble_eq_true rfl⟩ (fun r_274 u_275 H locs q_273 hP hD hS => ?_)
                      obtain ⟨rfl, rfl⟩ := q_273
                      have hP : va_P (dC, dI) vwCl (rW g ty Y pa kp ks I tl ac 2 1) H := hP
                      have hD : va_D A (rW g ty Y pa kp ks I tl ac 2 1) := hD
                      refine cr_l (wo := fun u : rY × (Nat → Int32) × (Nat → Int32) × (Nat → Int32) × Int32 × Int32 => rW g ty u.1 u.2.1 u.2.2.1 ks I u.2.2.2.1 ac u.2.2.2.2.1 u.2.2.2.2.2) ((Y, pa, kp, tl, 2, 1)) hx hb hr hlk hS hP hD ?_ dX12_copied_182
                      exact ⟨0, Y, pa, kp, tl, 2, 1, rfl, rfl, (by subst hu; subst hrz; exact ra_f (f := 2) rel hcnt htl (by decide))⟩
  · show _
    obtain ⟨n1t1, n2t1, n3t1⟩ := rk_some rel g2 g4
    have hnet1 := (i32_pos n1t1).2.1
    have tht1 := wf.1 _ _ g4
    obtain ⟨n1t2, n2t2, n3t2⟩ := rk_some rel g3 g5
    have hnet2 := (i32_pos n1t2).2.1
    have tht2 := wf.1 _ _ g5
    have hsr1 := rv_sr rel n1t1 n2t1 n3t1
    have hsr2 := rv_sr rel n1t2 n2t2 n3t2
    have hck := cp_kind wf tht1 tht2 hsr1 hsr2
    have hin1 := (rk_in rel n1t1 n2t1).1
    have hin2 := (rk_in rel n1t2 n2t2).1
    have hcs := hck.2.1 ⟨g6, g7⟩
    have hv1 := rv_shelf rel n1t1 n2t1 n3t1 g6 g8
    obtain ⟨z1, ez1, _, _, hl1⟩ := wf.2.2.2.1 t1 tht1.1 g6
    cases g8.symm.trans ez1
    have hv2 := rv_shelf rel n1t2 n2t2 n3t2 g7 g9
    obtain ⟨z2, ez2, _, _, hl2⟩ := wf.2.2.2.1 t2 tht2.1 g7
    cases g9.symm.trans ez2
    have hl : lv_has ls 13 [(0, .ref (g 8)), (1, .int a0), (2, .int b0), (3, .int i0), (4, .int j0), (5, .int n0)] := hl
    refine lv_aload_n hx hb dX12_copied_0 rfl (lv_at hl 0 rfl) ?_
    refine lv_iload_n hx hb dX12_copied_1 rfl (lv_at hl 1 rfl) ?_
    refine cV_i (C := RX12) (n := 1) (rest := []) hx hb hml hown hg hT (c_X12_place l dC dI g ty s.heap.size Y pa kp ks I tl ac wr tw a0 ) (cv_of hg wM_X12_83 wN_X12_place wL_X12_X12_place wK_X12_place wI_X12 (by decide +kernel) ⟨Nat.le_of_ble_eq_true rfl, Nat.le_of_ble_eq_true rfl⟩) hK hP hD hS hA (va_recv hK hP (ci := 14) (q0 := 0) rfl rfl) rfl hl.1 rfl (Nat.le_of_ble_eq_true rfl) dX12_copied_2 ⟨Nat.le_of_ble_eq_true rfl, Nat.le_of_ble_eq_true rfl⟩ (fun r_277 u_278 H locs q_276 hP hD hS => ?_)
    rcases q_276 with ⟨rfl, rfl, f_279⟩ | ⟨rfl, rfl, f_280⟩
    · show _
      exact absurd (by assumption) f_279
    · show _
      have hP : va_P (dC, dI) vwCl (rW g ty Y pa kp ks I tl ac wr tw) H := hP
      have hD : va_D A (rW g ty Y pa kp ks I tl ac wr tw) := hD
      refine lv_if_eq (tgt := 32) hx hb dX12_copied_5 (by decide) (fun c9 => absurd c9 (by decide)) (fun _ => ?_)
      refine lv_aload_n hx hb dX12_copied_8 rfl (lv_at hl 0 rfl) ?_
      refine lv_iload_n hx hb dX12_copied_9 rfl (lv_at hl 2 rfl) ?_
      refine cV_i (C := RX12) (n := 1) (rest := []) hx hb hml hown hg hT (c_X12_place l dC dI g ty H.size Y pa kp ks I tl ac wr tw b0 ) (cv_of hg wM_X12_83 wN_X12_place wL_X12_X12_place wK_X12_place wI_X12 (by decide +kernel) ⟨Nat.le_of_ble_eq_true rfl, Nat.le_of_ble_eq_true rfl⟩) hK hP hD hS hA (va_recv hK hP (ci := 14) (q0 := 0) rfl rfl) rfl hl.1 rfl (Nat.le_of_ble_eq_true rfl) dX12_copied_10 ⟨Nat.le_of_ble_eq_true rfl, Nat.le_of_ble_eq_true rfl⟩ (fun r_282 u_283 H locs q_281 hP hD hS => ?_)
      rcases q_281 with ⟨rfl, rfl, f_284⟩ | ⟨rfl, rfl, f_285⟩
      · show _
        exact absurd (by assumption) f_284
      · show _
        have hP : va_P (dC, dI) vwCl (rW g ty Y pa kp ks I tl ac wr tw) H := hP
        have hD : va_D A (rW g ty Y pa kp ks I tl ac wr tw) := hD
        refine lv_if_eq (tgt := 32) hx hb dX12_copied_13 (by decide) (fun c9 => absurd c9 (by decide)) (fun _ => ?_)
        refine lv_aload_n hx hb dX12_copied_16 rfl (lv_at hl 0 rfl) ?_
        refine lv_iload_n hx hb dX12_copied_17 rfl (lv_at hl 1 rfl) ?_
        refine cV_i (C := RX12) (n := 1) (rest := []) hx hb hml hown hg hT (c_X12_need l dC dI g ty H.size Y pa kp ks I tl ac wr tw a0 (by assumption)) (cv_of hg wM_X12_134 wN_X12_need wL_X12_X12_need wK_X12_need wI_X12 (by decide +kernel) ⟨Nat.le_of_ble_eq_true rfl, Nat.le_of_ble_eq_true rfl⟩) hK hP hD hS hA (va_recv hK hP (ci := 14) (q0 := 0) rfl rfl) rfl hl.1 rfl (Nat.le_of_ble_eq_true rfl) dX12_copied_18 ⟨Nat.le_of_ble_eq_true rfl, Nat.le_of_ble_eq_true rfl⟩ (fun r_287 u_288 H locs q_286 hP hD hS => ?_)
        rcases q_286 with ⟨rfl, rfl, f_289⟩ | ⟨rfl, rfl, f_290⟩
        · show _
          exact absurd f_289 (by assumption)
        · show _
          have hP : va_P (dC, dI) vwCl (rW g ty Y pa kp ks I tl ac wr tw) H := hP
          have hD : va_D A (rW g ty Y pa kp ks I tl ac wr tw) := hD
          refine lv_if_eq (tgt := 32) hx hb dX12_copied_21 (by decide) (fun c9 => absurd c9 (by decide)) (fun _ => ?_)
          refine lv_aload_n hx hb dX12_copied_24 rfl (lv_at hl 0 rfl) ?_
          refine lv_iload_n hx hb dX12_copied_25 rfl (lv_at hl 2 rfl) ?_
          refine cV_i (C := RX12) (n := 1) (rest := []) hx hb hml hown hg hT (c_X12_need l dC dI g ty H.size Y pa kp ks I tl ac wr tw b0 (by assumption)) (cv_of hg wM_X12_134 wN_X12_need wL_X12_X12_need wK_X12_need wI_X12 (by decide +kernel) ⟨Nat.le_of_ble_eq_true rfl, Nat.le_of_ble_eq_true rfl⟩) hK hP hD hS hA (va_recv hK hP (ci := 14) (q0 := 0) rfl rfl) rfl hl.1 rfl (Nat.le_of_ble_eq_true rfl) dX12_copied_26 ⟨Nat.le_of_ble_eq_true rfl, Nat.le_of_ble_eq_true rfl⟩ (fun r_292 u_293 H locs q_291 hP hD hS => ?_)
          rcases q_291 with ⟨rfl, rfl, f_294⟩ | ⟨rfl, rfl, f_295⟩
          · show _
            exact absurd f_294 (by assumption)
          · show _
            have hP : va_P (dC, dI) vwCl (rW g ty Y pa kp ks I tl ac wr tw) H := hP
            have hD : va_D A (rW g ty Y pa kp ks I tl ac wr tw) := hD
            refine lv_if_ne (tgt := 37) hx hb dX12_copied_29 (by decide) (fun _ => ?_) (fun c9 => absurd c9 (by decide)) 
            refine lv_aload_n hx hb dX12_copied_37 rfl (lv_at hl 0 rfl) ?_
            refine va_get (D := (dC, dI)) (ci := 14) (v := .ref (g 9)) (C := RX12) (T := TX12) (N := 21) hx hb hg inG12 hown hK hP 0 rfl rfl 8 (by decide) (hg _ wF_X12_34) (fun _ h9 => h9) rfl dX12_copied_38 ?_
            refine lv_iload_n hx hb dX12_copied_41 rfl (lv_at hl 1 rfl) ?_
            refine va_iald hx hb hK hP 7 0 rfl rfl (by assumption) dX12_copied_42 ?_
            refine lv_istore (lv' := [(6, .int (pa a0.toNatClampNeg)), (0, .ref (g 8)), (1, .int a0), (2, .int b0), (3, .int i0), (4, .int j0), (5, .int n0)]) hx hb dX12_copied_43 hl (by decide) rfl (fun ls hl => ?_)
            refine lv_aload_n hx hb dX12_copied_45 rfl (lv_at hl 1 rfl) ?_
            refine va_get (D := (dC, dI)) (ci := 14) (v := .ref (g 9)) (C := RX12) (T := TX12) (N := 21) hx hb hg inG12 hown hK hP 0 rfl rfl 8 (by decide) (hg _ wF_X12_34) (fun _ h9 => h9) rfl dX12_copied_46 ?_
            refine lv_iload_n hx hb dX12_copied_49 rfl (lv_at hl 3 rfl) ?_
            refine va_iald hx hb hK hP 7 0 rfl rfl (by assumption) dX12_copied_50 ?_
            refine lv_istore (lv' := [(7, .int (pa b0.toNatClampNeg)), (6, .int (pa a0.toNatClampNeg)), (0, .ref (g 8)), (1, .int a0), (2, .int b0), (3, .int i0), (4, .int j0), (5, .int n0)]) hx hb dX12_copied_51 hl (by decide) rfl (fun ls hl => ?_)
            refine lv_aload_n hx hb dX12_copied_53 rfl (lv_at hl 2 rfl) ?_
            refine va_get (D := (dC, dI)) (ci := 14) (v := .ref (Y.2.2.2.2.2.2.1 0)) (C := RX12) (T := TX12) (N := 21) hx hb hg inG12 hown hK hP 0 rfl rfl 0 (by decide) (hg _ wF_X12_7) (fun _ h9 => h9) rfl dX12_copied_54 ?_
            refine lv_iload hx hb dX12_copied_57 (lv_at hl 1 rfl) ?_
            refine va_iald hx hb hK hP 1 0 rfl rfl (by exact hin1) dX12_copied_59 ?_
            refine lv_bipush (v := 12) hx hb dX12_copied_60 (by decide) ?_
            refine lv_icmp_ge (tgt := 118) hx hb dX12_copied_62 (by decide) (fun c9 => absurd c9 hcs.1) (fun _ => ?_)
            refine lv_aload_n hx hb dX12_copied_65 rfl (lv_at hl 2 rfl) ?_
            refine va_get (D := (dC, dI)) (ci := 14) (v := .ref (Y.2.2.2.2.2.2.1 0)) (C := RX12) (T := TX12) (N := 21) hx hb hg inG12 hown hK hP 0 rfl rfl 0 (by decide) (hg _ wF_X12_7) (fun _ h9 => h9) rfl dX12_copied_66 ?_
            refine lv_iload hx hb dX12_copied_69 (lv_at hl 0 rfl) ?_
            refine va_iald hx hb hK hP 1 0 rfl rfl (by exact hin2) dX12_copied_71 ?_
            refine lv_bipush (v := 12) hx hb dX12_copied_72 (by decide) ?_
            refine lv_icmp_ge (tgt := 118) hx hb dX12_copied_74 (by decide) (fun c9 => absurd c9 hcs.2.1) (fun _ => ?_)
            refine lv_aload_n hx hb dX12_copied_77 rfl (lv_at hl 2 rfl) ?_
            refine va_get (D := (dC, dI)) (ci := 14) (v := .ref (Y.2.2.2.2.2.2.1 0)) (C := RX12) (T := TX12) (N := 21) hx hb hg inG12 hown hK hP 0 rfl rfl 0 (by decide) (hg _ wF_X12_7) (fun _ h9 => h9) rfl dX12_copied_78 ?_
            refine lv_iload hx hb dX12_copied_81 (lv_at hl 1 rfl) ?_
            refine va_iald hx hb hK hP 1 0 rfl rfl (by exact hin1) dX12_copied_83 ?_
            refine lv_bipush (v := 8) hx hb dX12_copied_84 (by decide) ?_
            refine lv_icmp_lt (tgt := 101) hx hb dX12_copied_86 (by decide) (fun c9 => absurd c9 hcs.2.2.1) (fun _ => ?_)
            refine lv_aload_n hx hb dX12_copied_89 rfl (lv_at hl 2 rfl) ?_
            refine va_get (D := (dC, dI)) (ci := 14) (v := .ref (Y.2.2.2.2.2.2.1 0)) (C := RX12) (T := TX12) (N := 21) hx hb hg inG12 hown hK hP 0 rfl rfl 0 (by decide) (hg _ wF_X12_7) (fun _ h9 => h9) rfl dX12_copied_90 ?_
            refine lv_iload hx hb dX12_copied_93 (lv_at hl 0 rfl) ?_
            refine va_iald hx hb hK hP 1 0 rfl rfl (by exact hin2) dX12_copied_95 ?_
            refine lv_bipush (v := 8) hx hb dX12_copied_96 (by decide) ?_
            refine lv_icmp_ge (tgt := 129) hx hb dX12_copied_98 (by decide) (fun _ => ?_) (fun c9 => absurd hcs.2.2.2.1 c9)
            refine lv_iload_n hx hb dX12_copied_129 rfl (lv_at hl 5 rfl) ?_
            refine lv_if_lt (tgt := 172) hx hb dX12_copied_130 (by decide) (fun c_296 => ?_) (fun c_296 => ?_)
            · show _
              refine lv_aload_n hx hb dX12_copied_172 rfl (lv_at hl 2 rfl) ?_
              refine lv_iconst (v := 2) hx hb dX12_copied_173 (by decide) ?_
              refine cV_i (C := RX12) (n := 1) (rest := []) hx hb hml hown hg hT (c_X12_fails l dC dI g ty H.size Y pa kp ks I tl ac wr tw 2 ) (cv_of hg wM_X12_79 wN_X12_fails wL_X12_X12_fails wK_X12_fails wI_X12 (by decide +kernel) ⟨Nat.le_of_ble_eq_true rfl, Nat.le_of_ble_eq_true rfl⟩) hK hP hD hS hA (va_recv hK hP (ci := 14) (q0 := 0) rfl rfl) rfl hl.1 rfl (Nat.le_of_ble_eq_true rfl) dX12_copied_174 ⟨Nat.le_of_ble_eq_true rfl, Nat.le_of_ble_eq_true rfl⟩ (fun r_298 u_299 H locs q_297 hP hD hS => ?_)
              obtain ⟨rfl, rfl⟩ := q_297
              have hP : va_P (dC, dI) vwCl (rW g ty Y pa kp ks I tl ac 2 tw) H := hP
              have hD : va_D A (rW g ty Y pa kp ks I tl ac 2 tw) := hD
              refine lv_pop hx hb dX12_copied_177 rfl ?_
              refine lv_aload_n hx hb dX12_copied_178 rfl (lv_at hl 2 rfl) ?_
              refine cV_l (C := RX12) (n := 0) (rest := []) hx hb hml hown hg hT (c_X12_no l dC dI g ty H.size Y pa kp ks I tl ac 2 tw  ) (cv_of hg wM_X12_107 wN_X12_no wL_X12_X12_no wK_X12_no wI_X12 (by decide +kernel) ⟨Nat.le_of_ble_eq_true rfl, Nat.le_of_ble_eq_true rfl⟩) hK hP hD hS hA (va_recv hK hP (ci := 14) (q0 := 0) rfl rfl) rfl hl.1 rfl (Nat.le_of_ble_eq_true rfl) dX12_copied_179 ⟨Nat.le_of_ble_eq_true rfl, Nat.le_of_ble_eq_true rfl⟩ (fun r_301 u_302 H locs q_300 hP hD hS => ?_)
              obtain ⟨rfl, rfl⟩ := q_300
              have hP : va_P (dC, dI) vwCl (rW g ty Y pa kp ks I tl ac 2 1) H := hP
              have hD : va_D A (rW g ty Y pa kp ks I tl ac 2 1) := hD
              refine cr_l (wo := fun u : rY × (Nat → Int32) × (Nat → Int32) × (Nat → Int32) × Int32 × Int32 => rW g ty u.1 u.2.1 u.2.2.1 ks I u.2.2.2.1 ac u.2.2.2.2.1 u.2.2.2.2.2) ((Y, pa, kp, tl, 2, 1)) hx hb hr hlk hS hP hD ?_ dX12_copied_182
              exact ⟨0, Y, pa, kp, tl, 2, 1, rfl, rfl, (by subst hu; subst hrz; exact ra_f (f := 2) rel hcnt htl (by decide))⟩
            · show _
              refine lv_iload hx hb dX12_copied_133 (lv_at hl 6 rfl) ?_
              refine lv_if_lt (tgt := 172) hx hb dX12_copied_135 (by decide) (fun c_303 => ?_) (fun c_303 => ?_)
              · show _
                refine lv_aload_n hx hb dX12_copied_172 rfl (lv_at hl 2 rfl) ?_
                refine lv_iconst (v := 2) hx hb dX12_copied_173 (by decide) ?_
                refine cV_i (C := RX12) (n := 1) (rest := []) hx hb hml hown hg hT (c_X12_fails l dC dI g ty H.size Y pa kp ks I tl ac wr tw 2 ) (cv_of hg wM_X12_79 wN_X12_fails wL_X12_X12_fails wK_X12_fails wI_X12 (by decide +kernel) ⟨Nat.le_of_ble_eq_true rfl, Nat.le_of_ble_eq_true rfl⟩) hK hP hD hS hA (va_recv hK hP (ci := 14) (q0 := 0) rfl rfl) rfl hl.1 rfl (Nat.le_of_ble_eq_true rfl) dX12_copied_174 ⟨Nat.le_of_ble_eq_true rfl, Nat.le_of_ble_eq_true rfl⟩ (fun r_305 u_306 H locs q_304 hP hD hS => ?_)
                obtain ⟨rfl, rfl⟩ := q_304
                have hP : va_P (dC, dI) vwCl (rW g ty Y pa kp ks I tl ac 2 tw) H := hP
                have hD : va_D A (rW g ty Y pa kp ks I tl ac 2 tw) := hD
                refine lv_pop hx hb dX12_copied_177 rfl ?_
                refine lv_aload_n hx hb dX12_copied_178 rfl (lv_at hl 2 rfl) ?_
                refine cV_l (C := RX12) (n := 0) (rest := []) hx hb hml hown hg hT (c_X12_no l dC dI g ty H.size Y pa kp ks I tl ac 2 tw  ) (cv_of hg wM_X12_107 wN_X12_no wL_X12_X12_no wK_X12_no wI_X12 (by decide +kernel) ⟨Nat.le_of_ble_eq_true rfl, Nat.le_of_ble_eq_true rfl⟩) hK hP hD hS hA (va_recv hK hP (ci := 14) (q0 := 0) rfl rfl) rfl hl.1 rfl (Nat.le_of_ble_eq_true rfl) dX12_copied_179 ⟨Nat.le_of_ble_eq_true rfl, Nat.le_of_ble_eq_true rfl⟩ (fun r_308 u_309 H locs q_307 hP hD hS => ?_)
                obtain ⟨rfl, rfl⟩ := q_307
                have hP : va_P (dC, dI) vwCl (rW g ty Y pa kp ks I tl ac 2 1) H := hP
                have hD : va_D A (rW g ty Y pa kp ks I tl ac 2 1) := hD
                refine cr_l (wo := fun u : rY × (Nat → Int32) × (Nat → Int32) × (Nat → Int32) × Int32 × Int32 => rW g ty u.1 u.2.1 u.2.2.1 ks I u.2.2.2.1 ac u.2.2.2.2.1 u.2.2.2.2.2) ((Y, pa, kp, tl, 2, 1)) hx hb hr hlk hS hP hD ?_ dX12_copied_182
                exact ⟨0, Y, pa, kp, tl, 2, 1, rfl, rfl, (by subst hu; subst hrz; exact ra_f (f := 2) rel hcnt htl (by decide))⟩
              · show _
                refine lv_iload hx hb dX12_copied_138 (lv_at hl 7 rfl) ?_
                refine lv_if_lt (tgt := 172) hx hb dX12_copied_140 (by decide) (fun c_310 => ?_) (fun c_310 => ?_)
                · show _
                  refine lv_aload_n hx hb dX12_copied_172 rfl (lv_at hl 2 rfl) ?_
                  refine lv_iconst (v := 2) hx hb dX12_copied_173 (by decide) ?_
                  refine cV_i (C := RX12) (n := 1) (rest := []) hx hb hml hown hg hT (c_X12_fails l dC dI g ty H.size Y pa kp ks I tl ac wr tw 2 ) (cv_of hg wM_X12_79 wN_X12_fails wL_X12_X12_fails wK_X12_fails wI_X12 (by decide +kernel) ⟨Nat.le_of_ble_eq_true rfl, Nat.le_of_ble_eq_true rfl⟩) hK hP hD hS hA (va_recv hK hP (ci := 14) (q0 := 0) rfl rfl) rfl hl.1 rfl (Nat.le_of_ble_eq_true rfl) dX12_copied_174 ⟨Nat.le_of_ble_eq_true rfl, Nat.le_of_ble_eq_true rfl⟩ (fun r_312 u_313 H locs q_311 hP hD hS => ?_)
                  obtain ⟨rfl, rfl⟩ := q_311
                  have hP : va_P (dC, dI) vwCl (rW g ty Y pa kp ks I tl ac 2 tw) H := hP
                  have hD : va_D A (rW g ty Y pa kp ks I tl ac 2 tw) := hD
                  refine lv_pop hx hb dX12_copied_177 rfl ?_
                  refine lv_aload_n hx hb dX12_copied_178 rfl (lv_at hl 2 rfl) ?_
                  refine cV_l (C := RX12) (n := 0) (rest := []) hx hb hml hown hg hT (c_X12_no l dC dI g ty H.size Y pa kp ks I tl ac 2 tw  ) (cv_of hg wM_X12_107 wN_X12_no wL_X12_X12_no wK_X12_no wI_X12 (by decide +kernel) ⟨Nat.le_of_ble_eq_true rfl, Nat.le_of_ble_eq_true rfl⟩) hK hP hD hS hA (va_recv hK hP (ci := 14) (q0 := 0) rfl rfl) rfl hl.1 rfl (Nat.le_of_ble_eq_true rfl) dX12_copied_179 ⟨Nat.le_of_ble_eq_true rfl, Nat.le_of_ble_eq_true rfl⟩ (fun r_315 u_316 H locs q_314 hP hD hS => ?_)
                  obtain ⟨rfl, rfl⟩ := q_314
                  have hP : va_P (dC, dI) vwCl (rW g ty Y pa kp ks I tl ac 2 1) H := hP
                  have hD : va_D A (rW g ty Y pa kp ks I tl ac 2 1) := hD
                  refine cr_l (wo := fun u : rY × (Nat → Int32) × (Nat → Int32) × (Nat → Int32) × Int32 × Int32 => rW g ty u.1 u.2.1 u.2.2.1 ks I u.2.2.2.1 ac u.2.2.2.2.1 u.2.2.2.2.2) ((Y, pa, kp, tl, 2, 1)) hx hb hr hlk hS hP hD ?_ dX12_copied_182
                  exact ⟨0, Y, pa, kp, tl, 2, 1, rfl, rfl, (by subst hu; subst hrz; exact ra_f (f := 2) rel hcnt htl (by decide))⟩
                · show _
                  refine lv_iload_n hx hb dX12_copied_143 rfl (lv_at hl 5 rfl) ?_
                  refine lv_iload hx hb dX12_copied_144 (lv_at hl 7 rfl) ?_
                  refine lv_iadd hx hb dX12_copied_146 ?_
                  refine lv_aload_n hx hb dX12_copied_147 rfl (lv_at hl 2 rfl) ?_
                  refine va_get (D := (dC, dI)) (ci := 14) (v := .ref (Y.2.2.2.2.2.2.1 2)) (C := RX12) (T := TX12) (N := 21) hx hb hg inG12 hown hK hP 0 rfl rfl 2 (by decide) (hg _ wF_X12_16) (fun _ h9 => h9) rfl dX12_copied_148 ?_
                  refine lv_iload hx hb dX12_copied_151 (lv_at hl 1 rfl) ?_
                  refine va_iald hx hb hK hP 3 0 rfl rfl (by exact hin1) dX12_copied_153 ?_
                  refine lv_icmp_gt (tgt := 172) hx hb dX12_copied_154 (by decide) (fun c_317 => ?_) (fun c_317 => ?_)
                  · show _
                    refine lv_aload_n hx hb dX12_copied_172 rfl (lv_at hl 2 rfl) ?_
                    refine lv_iconst (v := 2) hx hb dX12_copied_173 (by decide) ?_
                    refine cV_i (C := RX12) (n := 1) (rest := []) hx hb hml hown hg hT (c_X12_fails l dC dI g ty H.size Y pa kp ks I tl ac wr tw 2 ) (cv_of hg wM_X12_79 wN_X12_fails wL_X12_X12_fails wK_X12_fails wI_X12 (by decide +kernel) ⟨Nat.le_of_ble_eq_true rfl, Nat.le_of_ble_eq_true rfl⟩) hK hP hD hS hA (va_recv hK hP (ci := 14) (q0 := 0) rfl rfl) rfl hl.1 rfl (Nat.le_of_ble_eq_true rfl) dX12_copied_174 ⟨Nat.le_of_ble_eq_true rfl, Nat.le_of_ble_eq_true rfl⟩ (fun r_319 u_320 H locs q_318 hP hD hS => ?_)
                    obtain ⟨rfl, rfl⟩ := q_318
                    have hP : va_P (dC, dI) vwCl (rW g ty Y pa kp ks I tl ac 2 tw) H := hP
                    have hD : va_D A (rW g ty Y pa kp ks I tl ac 2 tw) := hD
                    refine lv_pop hx hb dX12_copied_177 rfl ?_
                    refine lv_aload_n hx hb dX12_copied_178 rfl (lv_at hl 2 rfl) ?_
                    refine cV_l (C := RX12) (n := 0) (rest := []) hx hb hml hown hg hT (c_X12_no l dC dI g ty H.size Y pa kp ks I tl ac 2 tw  ) (cv_of hg wM_X12_107 wN_X12_no wL_X12_X12_no wK_X12_no wI_X12 (by decide +kernel) ⟨Nat.le_of_ble_eq_true rfl, Nat.le_of_ble_eq_true rfl⟩) hK hP hD hS hA (va_recv hK hP (ci := 14) (q0 := 0) rfl rfl) rfl hl.1 rfl (Nat.le_of_ble_eq_true rfl) dX12_copied_179 ⟨Nat.le_of_ble_eq_true rfl, Nat.le_of_ble_eq_true rfl⟩ (fun r_322 u_323 H locs q_321 hP hD hS => ?_)
                    obtain ⟨rfl, rfl⟩ := q_321
                    have hP : va_P (dC, dI) vwCl (rW g ty Y pa kp ks I tl ac 2 1) H := hP
                    have hD : va_D A (rW g ty Y pa kp ks I tl ac 2 1) := hD
                    refine cr_l (wo := fun u : rY × (Nat → Int32) × (Nat → Int32) × (Nat → Int32) × Int32 × Int32 => rW g ty u.1 u.2.1 u.2.2.1 ks I u.2.2.2.1 ac u.2.2.2.2.1 u.2.2.2.2.2) ((Y, pa, kp, tl, 2, 1)) hx hb hr hlk hS hP hD ?_ dX12_copied_182
                    exact ⟨0, Y, pa, kp, tl, 2, 1, rfl, rfl, (by subst hu; subst hrz; exact ra_f (f := 2) rel hcnt htl (by decide))⟩
                  · show _
                    refine lv_iload hx hb dX12_copied_157 (lv_at hl 6 rfl) ?_
                    refine lv_iload hx hb dX12_copied_159 (lv_at hl 7 rfl) ?_
                    refine lv_iadd hx hb dX12_copied_161 ?_
                    refine lv_aload_n hx hb dX12_copied_162 rfl (lv_at hl 2 rfl) ?_
                    refine va_get (D := (dC, dI)) (ci := 14) (v := .ref (Y.2.2.2.2.2.2.1 2)) (C := RX12) (T := TX12) (N := 21) hx hb hg inG12 hown hK hP 0 rfl rfl 2 (by decide) (hg _ wF_X12_16) (fun _ h9 => h9) rfl dX12_copied_163 ?_
                    refine lv_iload hx hb dX12_copied_166 (lv_at hl 0 rfl) ?_
                    refine va_iald hx hb hK hP 3 0 rfl rfl (by exact hin2) dX12_copied_168 ?_
                    refine lv_icmp_le (tgt := 183) hx hb dX12_copied_169 (by decide) (fun c_324 => ?_) (fun c_324 => ?_)
                    · show _
                      have hsp := (sp_by (i := j0) (n := n0) (m := (Y.2.2.1 (pa b0.toNatClampNeg).toNatClampNeg)) (by assumption) (by assumption) ⟨by_lt pre9, by_lt pre10⟩ hv2.2.1).mp (by assumption)
                      rw [show (Y.2.2.1 (pa b0.toNatClampNeg).toNatClampNeg).toNatClampNeg = _ from hv2.2.2.1] at hsp
                      exact absurd hsp g11
                    · show _
                      refine lv_aload_n hx hb dX12_copied_172 rfl (lv_at hl 2 rfl) ?_
                      refine lv_iconst (v := 2) hx hb dX12_copied_173 (by decide) ?_
                      refine cV_i (C := RX12) (n := 1) (rest := []) hx hb hml hown hg hT (c_X12_fails l dC dI g ty H.size Y pa kp ks I tl ac wr tw 2 ) (cv_of hg wM_X12_79 wN_X12_fails wL_X12_X12_fails wK_X12_fails wI_X12 (by decide +kernel) ⟨Nat.le_of_ble_eq_true rfl, Nat.le_of_ble_eq_true rfl⟩) hK hP hD hS hA (va_recv hK hP (ci := 14) (q0 := 0) rfl rfl) rfl hl.1 rfl (Nat.le_of_ble_eq_true rfl) dX12_copied_174 ⟨Nat.le_of_ble_eq_true rfl, Nat.le_of_ble_eq_true rfl⟩ (fun r_326 u_327 H locs q_325 hP hD hS => ?_)
                      obtain ⟨rfl, rfl⟩ := q_325
                      have hP : va_P (dC, dI) vwCl (rW g ty Y pa kp ks I tl ac 2 tw) H := hP
                      have hD : va_D A (rW g ty Y pa kp ks I tl ac 2 tw) := hD
                      refine lv_pop hx hb dX12_copied_177 rfl ?_
                      refine lv_aload_n hx hb dX12_copied_178 rfl (lv_at hl 2 rfl) ?_
                      refine cV_l (C := RX12) (n := 0) (rest := []) hx hb hml hown hg hT (c_X12_no l dC dI g ty H.size Y pa kp ks I tl ac 2 tw  ) (cv_of hg wM_X12_107 wN_X12_no wL_X12_X12_no wK_X12_no wI_X12 (by decide +kernel) ⟨Nat.le_of_ble_eq_true rfl, Nat.le_of_ble_eq_true rfl⟩) hK hP hD hS hA (va_recv hK hP (ci := 14) (q0 := 0) rfl rfl) rfl hl.1 rfl (Nat.le_of_ble_eq_true rfl) dX12_copied_179 ⟨Nat.le_of_ble_eq_true rfl, Nat.le_of_ble_eq_true rfl⟩ (fun r_329 u_330 H locs q_328 hP hD hS => ?_)
                      obtain ⟨rfl, rfl⟩ := q_328
                      have hP : va_P (dC, dI) vwCl (rW g ty Y pa kp ks I tl ac 2 1) H := hP
                      have hD : va_D A (rW g ty Y pa kp ks I tl ac 2 1) := hD
                      refine cr_l (wo := fun u : rY × (Nat → Int32) × (Nat → Int32) × (Nat → Int32) × Int32 × Int32 => rW g ty u.1 u.2.1 u.2.2.1 ks I u.2.2.2.1 ac u.2.2.2.2.1 u.2.2.2.2.2) ((Y, pa, kp, tl, 2, 1)) hx hb hr hlk hS hP hD ?_ dX12_copied_182
                      exact ⟨0, Y, pa, kp, tl, 2, 1, rfl, rfl, (by subst hu; subst hrz; exact ra_f (f := 2) rel hcnt htl (by decide))⟩
  · show _
    obtain ⟨n1t1, n2t1, n3t1⟩ := rk_some rel g2 g4
    have hnet1 := (i32_pos n1t1).2.1
    have tht1 := wf.1 _ _ g4
    obtain ⟨n1t2, n2t2, n3t2⟩ := rk_some rel g3 g5
    have hnet2 := (i32_pos n1t2).2.1
    have tht2 := wf.1 _ _ g5
    have hsr1 := rv_sr rel n1t1 n2t1 n3t1
    have hsr2 := rv_sr rel n1t2 n2t2 n3t2
    have hck := cp_kind wf tht1 tht2 hsr1 hsr2
    have hin1 := (rk_in rel n1t1 n2t1).1
    have hin2 := (rk_in rel n1t2 n2t2).1
    have hcs := hck.2.1 ⟨g6, g7⟩
    have hv1 := rv_shelf rel n1t1 n2t1 n3t1 g6 g9
    obtain ⟨z1, ez1, _, _, hl1⟩ := wf.2.2.2.1 t1 tht1.1 g6
    cases g9.symm.trans ez1
    have hv2 := rv_shelf rel n1t2 n2t2 n3t2 g7 g10
    obtain ⟨z2, ez2, _, _, hl2⟩ := wf.2.2.2.1 t2 tht2.1 g7
    cases g10.symm.trans ez2
    have hsame : pa a0.toNatClampNeg = pa b0.toNatClampNeg := (pl_same rel g2 g3).mpr (by rw [g4, g5, g8])
    have hl : lv_has ls 13 [(0, .ref (g 8)), (1, .int a0), (2, .int b0), (3, .int i0), (4, .int j0), (5, .int n0)] := hl
    refine lv_aload_n hx hb dX12_copied_0 rfl (lv_at hl 0 rfl) ?_
    refine lv_iload_n hx hb dX12_copied_1 rfl (lv_at hl 1 rfl) ?_
    refine cV_i (C := RX12) (n := 1) (rest := []) hx hb hml hown hg hT (c_X12_place l dC dI g ty s.heap.size Y pa kp ks I tl ac wr tw a0 ) (cv_of hg wM_X12_83 wN_X12_place wL_X12_X12_place wK_X12_place wI_X12 (by decide +kernel) ⟨Nat.le_of_ble_eq_true rfl, Nat.le_of_ble_eq_true rfl⟩) hK hP hD hS hA (va_recv hK hP (ci := 14) (q0 := 0) rfl rfl) rfl hl.1 rfl (Nat.le_of_ble_eq_true rfl) dX12_copied_2 ⟨Nat.le_of_ble_eq_true rfl, Nat.le_of_ble_eq_true rfl⟩ (fun r_332 u_333 H locs q_331 hP hD hS => ?_)
    rcases q_331 with ⟨rfl, rfl, f_334⟩ | ⟨rfl, rfl, f_335⟩
    · show _
      exact absurd (by assumption) f_334
    · show _
      have hP : va_P (dC, dI) vwCl (rW g ty Y pa kp ks I tl ac wr tw) H := hP
      have hD : va_D A (rW g ty Y pa kp ks I tl ac wr tw) := hD
      refine lv_if_eq (tgt := 32) hx hb dX12_copied_5 (by decide) (fun c9 => absurd c9 (by decide)) (fun _ => ?_)
      refine lv_aload_n hx hb dX12_copied_8 rfl (lv_at hl 0 rfl) ?_
      refine lv_iload_n hx hb dX12_copied_9 rfl (lv_at hl 2 rfl) ?_
      refine cV_i (C := RX12) (n := 1) (rest := []) hx hb hml hown hg hT (c_X12_place l dC dI g ty H.size Y pa kp ks I tl ac wr tw b0 ) (cv_of hg wM_X12_83 wN_X12_place wL_X12_X12_place wK_X12_place wI_X12 (by decide +kernel) ⟨Nat.le_of_ble_eq_true rfl, Nat.le_of_ble_eq_true rfl⟩) hK hP hD hS hA (va_recv hK hP (ci := 14) (q0 := 0) rfl rfl) rfl hl.1 rfl (Nat.le_of_ble_eq_true rfl) dX12_copied_10 ⟨Nat.le_of_ble_eq_true rfl, Nat.le_of_ble_eq_true rfl⟩ (fun r_337 u_338 H locs q_336 hP hD hS => ?_)
      rcases q_336 with ⟨rfl, rfl, f_339⟩ | ⟨rfl, rfl, f_340⟩
      · show _
        exact absurd (by assumption) f_339
      · show _
        have hP : va_P (dC, dI) vwCl (rW g ty Y pa kp ks I tl ac wr tw) H := hP
        have hD : va_D A (rW g ty Y pa kp ks I tl ac wr tw) := hD
        refine lv_if_eq (tgt := 32) hx hb dX12_copied_13 (by decide) (fun c9 => absurd c9 (by decide)) (fun _ => ?_)
        refine lv_aload_n hx hb dX12_copied_16 rfl (lv_at hl 0 rfl) ?_
        refine lv_iload_n hx hb dX12_copied_17 rfl (lv_at hl 1 rfl) ?_
        refine cV_i (C := RX12) (n := 1) (rest := []) hx hb hml hown hg hT (c_X12_need l dC dI g ty H.size Y pa kp ks I tl ac wr tw a0 (by assumption)) (cv_of hg wM_X12_134 wN_X12_need wL_X12_X12_need wK_X12_need wI_X12 (by decide +kernel) ⟨Nat.le_of_ble_eq_true rfl, Nat.le_of_ble_eq_true rfl⟩) hK hP hD hS hA (va_recv hK hP (ci := 14) (q0 := 0) rfl rfl) rfl hl.1 rfl (Nat.le_of_ble_eq_true rfl) dX12_copied_18 ⟨Nat.le_of_ble_eq_true rfl, Nat.le_of_ble_eq_true rfl⟩ (fun r_342 u_343 H locs q_341 hP hD hS => ?_)
        rcases q_341 with ⟨rfl, rfl, f_344⟩ | ⟨rfl, rfl, f_345⟩
        · show _
          exact absurd f_344 (by assumption)
        · show _
          have hP : va_P (dC, dI) vwCl (rW g ty Y pa kp ks I tl ac wr tw) H := hP
          have hD : va_D A (rW g ty Y pa kp ks I tl ac wr tw) := hD
          refine lv_if_eq (tgt := 32) hx hb dX12_copied_21 (by decide) (fun c9 => absurd c9 (by decide)) (fun _ => ?_)
          refine lv_aload_n hx hb dX12_copied_24 rfl (lv_at hl 0 rfl) ?_
          refine lv_iload_n hx hb dX12_copied_25 rfl (lv_at hl 2 rfl) ?_
          refine cV_i (C := RX12) (n := 1) (rest := []) hx hb hml hown hg hT (c_X12_need l dC dI g ty H.size Y pa kp ks I tl ac wr tw b0 (by assumption)) (cv_of hg wM_X12_134 wN_X12_need wL_X12_X12_need wK_X12_need wI_X12 (by decide +kernel) ⟨Nat.le_of_ble_eq_true rfl, Nat.le_of_ble_eq_true rfl⟩) hK hP hD hS hA (va_recv hK hP (ci := 14) (q0 := 0) rfl rfl) rfl hl.1 rfl (Nat.le_of_ble_eq_true rfl) dX12_copied_26 ⟨Nat.le_of_ble_eq_true rfl, Nat.le_of_ble_eq_true rfl⟩ (fun r_347 u_348 H locs q_346 hP hD hS => ?_)
          rcases q_346 with ⟨rfl, rfl, f_349⟩ | ⟨rfl, rfl, f_350⟩
          · show _
            exact absurd f_349 (by assumption)
          · show _
            have hP : va_P (dC, dI) vwCl (rW g ty Y pa kp ks I tl ac wr tw) H := hP
            have hD : va_D A (rW g ty Y pa kp ks I tl ac wr tw) := hD
            refine lv_if_ne (tgt := 37) hx hb dX12_copied_29 (by decide) (fun _ => ?_) (fun c9 => absurd c9 (by decide)) 
            refine lv_aload_n hx hb dX12_copied_37 rfl (lv_at hl 0 rfl) ?_
            refine va_get (D := (dC, dI)) (ci := 14) (v := .ref (g 9)) (C := RX12) (T := TX12) (N := 21) hx hb hg inG12 hown hK hP 0 rfl rfl 8 (by decide) (hg _ wF_X12_34) (fun _ h9 => h9) rfl dX12_copied_38 ?_
            refine lv_iload_n hx hb dX12_copied_41 rfl (lv_at hl 1 rfl) ?_
            refine va_iald hx hb hK hP 7 0 rfl rfl (by assumption) dX12_copied_42 ?_
            refine lv_istore (lv' := [(6, .int (pa a0.toNatClampNeg)), (0, .ref (g 8)), (1, .int a0), (2, .int b0), (3, .int i0), (4, .int j0), (5, .int n0)]) hx hb dX12_copied_43 hl (by decide) rfl (fun ls hl => ?_)
            refine lv_aload_n hx hb dX12_copied_45 rfl (lv_at hl 1 rfl) ?_
            refine va_get (D := (dC, dI)) (ci := 14) (v := .ref (g 9)) (C := RX12) (T := TX12) (N := 21) hx hb hg inG12 hown hK hP 0 rfl rfl 8 (by decide) (hg _ wF_X12_34) (fun _ h9 => h9) rfl dX12_copied_46 ?_
            refine lv_iload_n hx hb dX12_copied_49 rfl (lv_at hl 3 rfl) ?_
            refine va_iald hx hb hK hP 7 0 rfl rfl (by assumption) dX12_copied_50 ?_
            refine lv_istore (lv' := [(7, .int (pa b0.toNatClampNeg)), (6, .int (pa a0.toNatClampNeg)), (0, .ref (g 8)), (1, .int a0), (2, .int b0), (3, .int i0), (4, .int j0), (5, .int n0)]) hx hb dX12_copied_51 hl (by decide) rfl (fun ls hl => ?_)
            refine lv_aload_n hx hb dX12_copied_53 rfl (lv_at hl 2 rfl) ?_
            refine va_get (D := (dC, dI)) (ci := 14) (v := .ref (Y.2.2.2.2.2.2.1 0)) (C := RX12) (T := TX12) (N := 21) hx hb hg inG12 hown hK hP 0 rfl rfl 0 (by decide) (hg _ wF_X12_7) (fun _ h9 => h9) rfl dX12_copied_54 ?_
            refine lv_iload hx hb dX12_copied_57 (lv_at hl 1 rfl) ?_
            refine va_iald hx hb hK hP 1 0 rfl rfl (by exact hin1) dX12_copied_59 ?_
            refine lv_bipush (v := 12) hx hb dX12_copied_60 (by decide) ?_
            refine lv_icmp_ge (tgt := 118) hx hb dX12_copied_62 (by decide) (fun c9 => absurd c9 hcs.1) (fun _ => ?_)
            refine lv_aload_n hx hb dX12_copied_65 rfl (lv_at hl 2 rfl) ?_
            refine va_get (D := (dC, dI)) (ci := 14) (v := .ref (Y.2.2.2.2.2.2.1 0)) (C := RX12) (T := TX12) (N := 21) hx hb hg inG12 hown hK hP 0 rfl rfl 0 (by decide) (hg _ wF_X12_7) (fun _ h9 => h9) rfl dX12_copied_66 ?_
            refine lv_iload hx hb dX12_copied_69 (lv_at hl 0 rfl) ?_
            refine va_iald hx hb hK hP 1 0 rfl rfl (by exact hin2) dX12_copied_71 ?_
            refine lv_bipush (v := 12) hx hb dX12_copied_72 (by decide) ?_
            refine lv_icmp_ge (tgt := 118) hx hb dX12_copied_74 (by decide) (fun c9 => absurd c9 hcs.2.1) (fun _ => ?_)
            refine lv_aload_n hx hb dX12_copied_77 rfl (lv_at hl 2 rfl) ?_
            refine va_get (D := (dC, dI)) (ci := 14) (v := .ref (Y.2.2.2.2.2.2.1 0)) (C := RX12) (T := TX12) (N := 21) hx hb hg inG12 hown hK hP 0 rfl rfl 0 (by decide) (hg _ wF_X12_7) (fun _ h9 => h9) rfl dX12_copied_78 ?_
            refine lv_iload hx hb dX12_copied_81 (lv_at hl 1 rfl) ?_
            refine va_iald hx hb hK hP 1 0 rfl rfl (by exact hin1) dX12_copied_83 ?_
            refine lv_bipush (v := 8) hx hb dX12_copied_84 (by decide) ?_
            refine lv_icmp_lt (tgt := 101) hx hb dX12_copied_86 (by decide) (fun c9 => absurd c9 hcs.2.2.1) (fun _ => ?_)
            refine lv_aload_n hx hb dX12_copied_89 rfl (lv_at hl 2 rfl) ?_
            refine va_get (D := (dC, dI)) (ci := 14) (v := .ref (Y.2.2.2.2.2.2.1 0)) (C := RX12) (T := TX12) (N := 21) hx hb hg inG12 hown hK hP 0 rfl rfl 0 (by decide) (hg _ wF_X12_7) (fun _ h9 => h9) rfl dX12_copied_90 ?_
            refine lv_iload hx hb dX12_copied_93 (lv_at hl 0 rfl) ?_
            refine va_iald hx hb hK hP 1 0 rfl rfl (by exact hin2) dX12_copied_95 ?_
            refine lv_bipush (v := 8) hx hb dX12_copied_96 (by decide) ?_
            refine lv_icmp_ge (tgt := 129) hx hb dX12_copied_98 (by decide) (fun _ => ?_) (fun c9 => absurd hcs.2.2.2.1 c9)
            refine lv_iload_n hx hb dX12_copied_129 rfl (lv_at hl 5 rfl) ?_
            refine lv_if_lt (tgt := 172) hx hb dX12_copied_130 (by decide) (fun c_351 => ?_) (fun c_351 => ?_)
            · show _
              have hs1 := (sp_by (i := i0) (n := n0) (m := (Y.2.2.1 (pa a0.toNatClampNeg).toNatClampNeg)) g11.1 g11.2.1 ⟨by_lt pre8, by_lt pre10⟩ hv1.2.1).mpr (by rw [show (Y.2.2.1 (pa a0.toNatClampNeg).toNatClampNeg).toNatClampNeg = _ from hv1.2.2.1]; exact g11)
              have hs2 := (sp_by (i := j0) (n := n0) (m := (Y.2.2.1 (pa b0.toNatClampNeg).toNatClampNeg)) g12.1 g12.2.1 ⟨by_lt pre9, by_lt pre10⟩ hv2.2.1).mpr (by rw [show (Y.2.2.1 (pa b0.toNatClampNeg).toNatClampNeg).toNatClampNeg = _ from hv2.2.2.1]; exact g12)
              first | exact absurd (show i0 < 0 by assumption) g11.1 | exact absurd (show j0 < 0 by assumption) g12.1 | exact absurd (show n0 < 0 by assumption) g11.2.1 | exact absurd hs1 (ge_of (by assumption)) | exact absurd hs2 (by assumption)
            · show _
              refine lv_iload hx hb dX12_copied_133 (lv_at hl 6 rfl) ?_
              refine lv_if_lt (tgt := 172) hx hb dX12_copied_135 (by decide) (fun c_352 => ?_) (fun c_352 => ?_)
              · show _
                have hs1 := (sp_by (i := i0) (n := n0) (m := (Y.2.2.1 (pa a0.toNatClampNeg).toNatClampNeg)) g11.1 g11.2.1 ⟨by_lt pre8, by_lt pre10⟩ hv1.2.1).mpr (by rw [show (Y.2.2.1 (pa a0.toNatClampNeg).toNatClampNeg).toNatClampNeg = _ from hv1.2.2.1]; exact g11)
                have hs2 := (sp_by (i := j0) (n := n0) (m := (Y.2.2.1 (pa b0.toNatClampNeg).toNatClampNeg)) g12.1 g12.2.1 ⟨by_lt pre9, by_lt pre10⟩ hv2.2.1).mpr (by rw [show (Y.2.2.1 (pa b0.toNatClampNeg).toNatClampNeg).toNatClampNeg = _ from hv2.2.2.1]; exact g12)
                first | exact absurd (show i0 < 0 by assumption) g11.1 | exact absurd (show j0 < 0 by assumption) g12.1 | exact absurd (show n0 < 0 by assumption) g11.2.1 | exact absurd hs1 (ge_of (by assumption)) | exact absurd hs2 (by assumption)
              · show _
                refine lv_iload hx hb dX12_copied_138 (lv_at hl 7 rfl) ?_
                refine lv_if_lt (tgt := 172) hx hb dX12_copied_140 (by decide) (fun c_353 => ?_) (fun c_353 => ?_)
                · show _
                  have hs1 := (sp_by (i := i0) (n := n0) (m := (Y.2.2.1 (pa a0.toNatClampNeg).toNatClampNeg)) g11.1 g11.2.1 ⟨by_lt pre8, by_lt pre10⟩ hv1.2.1).mpr (by rw [show (Y.2.2.1 (pa a0.toNatClampNeg).toNatClampNeg).toNatClampNeg = _ from hv1.2.2.1]; exact g11)
                  have hs2 := (sp_by (i := j0) (n := n0) (m := (Y.2.2.1 (pa b0.toNatClampNeg).toNatClampNeg)) g12.1 g12.2.1 ⟨by_lt pre9, by_lt pre10⟩ hv2.2.1).mpr (by rw [show (Y.2.2.1 (pa b0.toNatClampNeg).toNatClampNeg).toNatClampNeg = _ from hv2.2.2.1]; exact g12)
                  first | exact absurd (show i0 < 0 by assumption) g11.1 | exact absurd (show j0 < 0 by assumption) g12.1 | exact absurd (show n0 < 0 by assumption) g11.2.1 | exact absurd hs1 (ge_of (by assumption)) | exact absurd hs2 (by assumption)
                · show _
                  refine lv_iload_n hx hb dX12_copied_143 rfl (lv_at hl 5 rfl) ?_
                  refine lv_iload hx hb dX12_copied_144 (lv_at hl 7 rfl) ?_
                  refine lv_iadd hx hb dX12_copied_146 ?_
                  refine lv_aload_n hx hb dX12_copied_147 rfl (lv_at hl 2 rfl) ?_
                  refine va_get (D := (dC, dI)) (ci := 14) (v := .ref (Y.2.2.2.2.2.2.1 2)) (C := RX12) (T := TX12) (N := 21) hx hb hg inG12 hown hK hP 0 rfl rfl 2 (by decide) (hg _ wF_X12_16) (fun _ h9 => h9) rfl dX12_copied_148 ?_
                  refine lv_iload hx hb dX12_copied_151 (lv_at hl 1 rfl) ?_
                  refine va_iald hx hb hK hP 3 0 rfl rfl (by exact hin1) dX12_copied_153 ?_
                  refine lv_icmp_gt (tgt := 172) hx hb dX12_copied_154 (by decide) (fun c_354 => ?_) (fun c_354 => ?_)
                  · show _
                    have hs1 := (sp_by (i := i0) (n := n0) (m := (Y.2.2.1 (pa a0.toNatClampNeg).toNatClampNeg)) g11.1 g11.2.1 ⟨by_lt pre8, by_lt pre10⟩ hv1.2.1).mpr (by rw [show (Y.2.2.1 (pa a0.toNatClampNeg).toNatClampNeg).toNatClampNeg = _ from hv1.2.2.1]; exact g11)
                    have hs2 := (sp_by (i := j0) (n := n0) (m := (Y.2.2.1 (pa b0.toNatClampNeg).toNatClampNeg)) g12.1 g12.2.1 ⟨by_lt pre9, by_lt pre10⟩ hv2.2.1).mpr (by rw [show (Y.2.2.1 (pa b0.toNatClampNeg).toNatClampNeg).toNatClampNeg = _ from hv2.2.2.1]; exact g12)
                    first | exact absurd (show i0 < 0 by assumption) g11.1 | exact absurd (show j0 < 0 by assumption) g12.1 | exact absurd (show n0 < 0 by assumption) g11.2.1 | exact absurd hs1 (ge_of (by assumption)) | exact absurd hs2 (by assumption)
                  · show _
                    refine lv_iload hx hb dX12_copied_157 (lv_at hl 6 rfl) ?_
                    refine lv_iload hx hb dX12_copied_159 (lv_at hl 7 rfl) ?_
                    refine lv_iadd hx hb dX12_copied_161 ?_
                    refine lv_aload_n hx hb dX12_copied_162 rfl (lv_at hl 2 rfl) ?_
                    refine va_get (D := (dC, dI)) (ci := 14) (v := .ref (Y.2.2.2.2.2.2.1 2)) (C := RX12) (T := TX12) (N := 21) hx hb hg inG12 hown hK hP 0 rfl rfl 2 (by decide) (hg _ wF_X12_16) (fun _ h9 => h9) rfl dX12_copied_163 ?_
                    refine lv_iload hx hb dX12_copied_166 (lv_at hl 0 rfl) ?_
                    refine va_iald hx hb hK hP 3 0 rfl rfl (by exact hin2) dX12_copied_168 ?_
                    refine lv_icmp_le (tgt := 183) hx hb dX12_copied_169 (by decide) (fun c_355 => ?_) (fun c_355 => ?_)
                    · show _
                      refine lv_iload hx hb dX12_copied_183 (lv_at hl 1 rfl) ?_
                      refine lv_iload hx hb dX12_copied_185 (lv_at hl 0 rfl) ?_
                      refine lv_icmp_ne (tgt := 200) hx hb dX12_copied_187 (by decide) (fun c9 => absurd hsame c9) (fun _ => ?_)
                      refine lv_iload_n hx hb dX12_copied_190 rfl (lv_at hl 5 rfl) ?_
                      refine lv_iload hx hb dX12_copied_191 (lv_at hl 6 rfl) ?_
                      refine lv_icmp_ge (tgt := 200) hx hb dX12_copied_193 (by decide) (fun c_356 => ?_) (fun c_356 => ?_)
                      · show _
                        refine lv_iconst (v := 0) hx hb dX12_copied_200 (by decide) ?_
                        refine lv_istore (lv' := [(8, .int 0), (7, .int (pa b0.toNatClampNeg)), (6, .int (pa a0.toNatClampNeg)), (0, .ref (g 8)), (1, .int a0), (2, .int b0), (3, .int i0), (4, .int j0), (5, .int n0)]) hx hb dX12_copied_201 hl (by decide) rfl (fun ls hl => ?_)
                        refine lv_iconst (v := 0) hx hb dX12_copied_203 (by decide) ?_
                        refine lv_istore (lv' := [(9, .int 0), (8, .int 0), (7, .int (pa b0.toNatClampNeg)), (6, .int (pa a0.toNatClampNeg)), (0, .ref (g 8)), (1, .int a0), (2, .int b0), (3, .int i0), (4, .int j0), (5, .int n0)]) hx hb dX12_copied_204 hl (by decide) rfl (fun ls hl => ?_)
                        have gk1 := g6
                        have gk2 := g7
                        have gy1 := g9
                        have gy2 := g10
                        have gp1 := g11
                        have gp2 := g12
                        have LOOP206 : ∀ (N206 : Nat) (kq : Int32) (cq : Nat → Int64) (H : Heap) (locs : List Loc) (ls : Array Slot), n0.toNatClampNeg - kq.toNatClampNeg = N206 → (¬ kq < 0) → (kq ≤ n0) → (rR Y.2.2.2.2.2.2.2.2.2.1 (Y.1, Y.2.1, Y.2.2.1, Y.2.2.2.1, Y.2.2.2.2.1, cq, Y.2.2.2.2.2.2.1, Y.2.2.2.2.2.2.2.1, Y.2.2.2.2.2.2.2.2.1, Y.2.2.2.2.2.2.2.2.2.1, Y.2.2.2.2.2.2.2.2.2.2) pa ρ pl (pRc P y2 (cpB (P.2.2.2.2.2.2.2 y1) (P.2.2.2.2.2.2.2 y2) i0.toNatClampNeg j0.toNatClampNeg 0 kq.toNatClampNeg))) → va_P (dC, dI) vwCl (rW g ty (Y.1, Y.2.1, Y.2.2.1, Y.2.2.2.1, Y.2.2.2.2.1, cq, Y.2.2.2.2.2.2.1, Y.2.2.2.2.2.2.2.1, Y.2.2.2.2.2.2.2.2.1, Y.2.2.2.2.2.2.2.2.2.1, Y.2.2.2.2.2.2.2.2.2.2) pa kp ks I tl ac wr tw) H → va_D A (rW g ty (Y.1, Y.2.1, Y.2.2.1, Y.2.2.2.1, Y.2.2.2.2.1, cq, Y.2.2.2.2.2.2.1, Y.2.2.2.2.2.2.2.1, Y.2.2.2.2.2.2.2.2.1, Y.2.2.2.2.2.2.2.2.2.1, Y.2.2.2.2.2.2.2.2.2.2) pa kp ks I tl ac wr tw) → va_S A s.heap H locs → lv_has ls 13 [(0, .ref (g 8)), (3, .int i0), (4, .int j0), (5, .int n0), (6, .int (pa a0.toNatClampNeg)), (7, .int (pa b0.toNatClampNeg)), (8, .int 0), (9, .int kq)] → W p l e ({ frames := 2, cells := 0, slots := 0, locals := 42 }) s m ([.ref (g 8), .int a0, .int b0, .int i0, .int j0, .int n0]).toArray below meth c H locs (0 + 0 + 0 + 0 + 0) (0 + 0 + 0 + 0 + 0) (MQ below (va_Ql (fun (rz : Int64) (u : rY × (Nat → Int32) × (Nat → Int32) × (Nat → Int32) × Int32 × Int32) => ∃ (r' : Int64) (Y' : rY) (pa' kp' tl' : Nat → Int32) (wr' tw' : Int32), r' = rz ∧ (Y', pa', kp', tl', wr', tw') = u ∧ rAns u9.1 rz9 pl u9.2 md tl Y r' Y' pa' tl' wr' tw') (cB (dC, dI) (fun u : rY × (Nat → Int32) × (Nat → Int32) × (Nat → Int32) × Int32 × Int32 => rW g ty u.1 u.2.1 u.2.2.1 ks I u.2.2.2.1 ac u.2.2.2.2.1 u.2.2.2.2.2) A) A) ([.ref (g 8), .int a0, .int b0, .int i0, .int j0, .int n0]).toArray s 0 0 A) (F0 m 206 ls []) := by
                          intro N206
                          induction N206 using Nat.strongRecOn with
                          | _ N206 IH206 =>
                            intro kq cq H locs ls hN206 q0 q1 q2 hP hD hS hl
                            refine lv_iload hx hb dX12_copied_206 (lv_at hl 7 rfl) ?_
                            refine lv_iload hx hb dX12_copied_208 (lv_at hl 3 rfl) ?_
                            refine lv_icmp_ge (tgt := 355) hx hb dX12_copied_210 (by decide) (fun c_357 => ?_) (fun c_357 => ?_)
                            · show _
                              have hke := gf_eq q1 (by assumption)
                              refine lv_lconst (v := 0) hx hb dX12_copied_355 (by decide) ?_
                              refine cr_l (wo := fun u : rY × (Nat → Int32) × (Nat → Int32) × (Nat → Int32) × Int32 × Int32 => rW g ty u.1 u.2.1 u.2.2.1 ks I u.2.2.2.1 ac u.2.2.2.2.1 u.2.2.2.2.2) (((Y.1, Y.2.1, Y.2.2.1, Y.2.2.2.1, Y.2.2.2.2.1, cq, Y.2.2.2.2.2.2.1, Y.2.2.2.2.2.2.2.1, Y.2.2.2.2.2.2.2.2.1, Y.2.2.2.2.2.2.2.2.2.1, Y.2.2.2.2.2.2.2.2.2.2), pa, kp, tl, wr, tw)) hx hb hr hlk hS hP hD ?_ dX12_copied_356
                              exact ⟨0, (Y.1, Y.2.1, Y.2.2.1, Y.2.2.2.1, Y.2.2.2.2.1, cq, Y.2.2.2.2.2.2.1, Y.2.2.2.2.2.2.2.1, Y.2.2.2.2.2.2.2.2.1, Y.2.2.2.2.2.2.2.2.2.1, Y.2.2.2.2.2.2.2.2.2.2), pa, kp, tl, wr, tw, rfl, rfl, (by subst hu; subst hrz; subst pre6; exact ra_w (by rw [← cpB_full]; rw [hke] at q2; first | exact q2 | (rw [Nat.sub_self] at q2; exact q2)) ⟨rfl, rfl, rfl, rfl⟩ hcnt htl rfl)⟩
                            · show _
                              have hkn := k1_lt q0 (by assumption)
                              have hd9 : ¬ kq < 0 ∧ ¬ n0 ≤ kq ∧ (kq).toNatClampNeg = kq.toNatClampNeg := ⟨q0, (by assumption), rfl⟩
                              have ha1 := sp_add hd9.1 hd9.2.1 gp1 hl1
                              have ha2 := sp_add hd9.1 hd9.2.1 gp2 hl2
                              have hvs := rv_shelf (P := pRc P y2 (cpB (P.2.2.2.2.2.2.2 y1) (P.2.2.2.2.2.2.2 y2) i0.toNatClampNeg j0.toNatClampNeg 0 kq.toNatClampNeg)) q2 n1t1 n2t1 n3t1 gk1 gy1
                              have hvt := rv_shelf (P := pRc P y2 (cpB (P.2.2.2.2.2.2.2 y1) (P.2.2.2.2.2.2.2 y2) i0.toNatClampNeg j0.toNatClampNeg 0 kq.toNatClampNeg)) q2 n1t2 n2t2 n3t2 gk2 gy2
                              have hx9 := hvs.2.2.2 _ ha1.2.2
                              have hcr9 : va_up P.2.2.2.2.2.2.2 y2 (cpB (P.2.2.2.2.2.2.2 y1) (P.2.2.2.2.2.2.2 y2) i0.toNatClampNeg j0.toNatClampNeg 0 kq.toNatClampNeg) y1 (i0 + kq).toNatClampNeg = P.2.2.2.2.2.2.2 y1 (i0.toNatClampNeg + (kq).toNatClampNeg) := by rw [ha1.2.1]; exact cp_rd (fun e9 => by have := i32_le (show j0 ≤ i0 by assumption); omega)
                              have ho9 : rLl Y.2.2.2.2.2.2.2.2.2.1 ρ (cq (Y.2.1 (pa a0.toNatClampNeg).toNatClampNeg + (i0 + kq)).toNatClampNeg) (P.2.2.2.2.2.2.2 y1 (i0.toNatClampNeg + (kq).toNatClampNeg)) := by have h9 := hx9.2; rw [show (pRc P y2 (cpB (P.2.2.2.2.2.2.2 y1) (P.2.2.2.2.2.2.2 y2) i0.toNatClampNeg j0.toNatClampNeg 0 kq.toNatClampNeg)).2.2.2.2.2.2.2 y1 _ = _ from hcr9] at h9; exact h9
                              have hwk : cWF pl (pRc P y2 (cpB (P.2.2.2.2.2.2.2 y1) (P.2.2.2.2.2.2.2 y2) i0.toNatClampNeg j0.toNatClampNeg 0 kq.toNatClampNeg)) := wf_rcS wf tht2.1 gk2 gy2 (cp_good wf tht1.1 tht2.1 gk1 gk2 gy1 gy2 (g8))
                              refine lv_iload hx hb dX12_copied_213 (lv_at hl 6 rfl) ?_
                              refine lv_if_eq (tgt := 228) hx hb dX12_copied_215 (by decide) (fun _ => ?_) (fun c9 => absurd (by decide) c9) 
                              refine lv_iload hx hb dX12_copied_228 (lv_at hl 7 rfl) ?_
                              refine lv_istore (lv' := [(10, .int kq), (0, .ref (g 8)), (3, .int i0), (4, .int j0), (5, .int n0), (6, .int (pa a0.toNatClampNeg)), (7, .int (pa b0.toNatClampNeg)), (8, .int 0), (9, .int kq)]) hx hb dX12_copied_230 hl (by decide) rfl (fun ls hl => ?_)
                              refine lv_aload_n hx hb dX12_copied_232 rfl (lv_at hl 1 rfl) ?_
                              refine lv_iload hx hb dX12_copied_233 (lv_at hl 5 rfl) ?_
                              refine lv_iload_n hx hb dX12_copied_235 rfl (lv_at hl 2 rfl) ?_
                              refine lv_iload hx hb dX12_copied_236 (lv_at hl 0 rfl) ?_
                              refine lv_iadd hx hb dX12_copied_238 ?_
                              refine cV_l (C := RX12) (n := 2) (rest := []) hx hb hml hown hg hT (c_X12_cell l dC dI g ty H.size (Y.1, Y.2.1, Y.2.2.1, Y.2.2.2.1, Y.2.2.2.2.1, cq, Y.2.2.2.2.2.2.1, Y.2.2.2.2.2.2.2.1, Y.2.2.2.2.2.2.2.2.1, Y.2.2.2.2.2.2.2.2.2.1, Y.2.2.2.2.2.2.2.2.2.2) pa kp ks I tl ac wr tw (pa a0.toNatClampNeg) (i0 + kq) (by exact hvs.1) (by exact hx9.1)) (cv_of hg wM_X12_140 wN_X12_cell wL_X12_X12_cell wK_X12_cell wI_X12 (by decide +kernel) ⟨Nat.le_of_ble_eq_true rfl, Nat.le_of_ble_eq_true rfl⟩) hK hP hD hS hA (va_recv hK hP (ci := 14) (q0 := 0) rfl rfl) rfl hl.1 rfl (Nat.le_of_ble_eq_true rfl) dX12_copied_239 ⟨Nat.le_of_ble_eq_true rfl, Nat.le_of_ble_eq_true rfl⟩ (fun r_359 u_360 H locs q_358 hP hD hS => ?_)
                              obtain rfl := q_358
                              have hP : va_P (dC, dI) vwCl (rW g ty (Y.1, Y.2.1, Y.2.2.1, Y.2.2.2.1, Y.2.2.2.2.1, cq, Y.2.2.2.2.2.2.1, Y.2.2.2.2.2.2.2.1, Y.2.2.2.2.2.2.2.2.1, Y.2.2.2.2.2.2.2.2.2.1, Y.2.2.2.2.2.2.2.2.2.2) pa kp ks I tl ac wr tw) H := hP
                              have hD : va_D A (rW g ty (Y.1, Y.2.1, Y.2.2.1, Y.2.2.2.1, Y.2.2.2.2.1, cq, Y.2.2.2.2.2.2.1, Y.2.2.2.2.2.2.2.1, Y.2.2.2.2.2.2.2.2.1, Y.2.2.2.2.2.2.2.2.2.1, Y.2.2.2.2.2.2.2.2.2.2) pa kp ks I tl ac wr tw) := hD
                              refine lv_topl (fun v9 ev90 => ?_)
                              have ev9 : v9 = cq (Y.2.1 (pa a0.toNatClampNeg).toNatClampNeg + (i0 + kq)).toNatClampNeg := ev90
                              rw [← ev9] at ho9
                              refine lv_lstore (lv' := [(11, .long v9), (10, .int kq), (0, .ref (g 8)), (3, .int i0), (4, .int j0), (5, .int n0), (6, .int (pa a0.toNatClampNeg)), (7, .int (pa b0.toNatClampNeg)), (8, .int 0), (9, .int kq)]) hx hb dX12_copied_242 hl (by decide) rfl (fun ls hl => ?_)
                              refine lv_aload_n hx hb dX12_copied_244 rfl (lv_at hl 2 rfl) ?_
                              refine va_get (D := (dC, dI)) (ci := 14) (v := .ref (Y.2.2.2.2.2.2.1 0)) (C := RX12) (T := TX12) (N := 21) hx hb hg inG12 hown hK hP 0 rfl rfl 0 (by decide) (hg _ wF_X12_7) (fun _ h9 => h9) rfl dX12_copied_245 ?_
                              refine lv_iload hx hb dX12_copied_248 (lv_at hl 7 rfl) ?_
                              refine va_iald hx hb hK hP 1 0 rfl rfl (by exact hin2) dX12_copied_250 ?_
                              refine lv_bipush (v := 8) hx hb dX12_copied_251 (by decide) ?_
                              refine lv_icmp_lt (tgt := 336) hx hb dX12_copied_253 (by decide) (fun c9 => absurd c9 hcs.2.2.2.2) (fun _ => ?_)
                              refine lv_lload hx hb dX12_copied_256 (lv_at hl 0 rfl) ?_
                              refine lv_lconst (v := 0) hx hb dX12_copied_258 (by decide) ?_
                              refine W.lcmp hx hb dX12_copied_259 ?_
                              refine lv_if_eq (tgt := 336) hx hb dX12_copied_260 (by decide) (fun c_361 => ?_) (fun c_361 => ?_)
                              · show _
                                refine lv_aload_n hx hb dX12_copied_336 rfl (lv_at hl 2 rfl) ?_
                                refine lv_iload hx hb dX12_copied_337 (lv_at hl 7 rfl) ?_
                                refine lv_iload hx hb dX12_copied_339 (lv_at hl 4 rfl) ?_
                                refine lv_iload hx hb dX12_copied_341 (lv_at hl 1 rfl) ?_
                                refine lv_iadd hx hb dX12_copied_343 ?_
                                refine lv_lload hx hb dX12_copied_344 (lv_at hl 0 rfl) ?_
                                refine cV_v (C := RX12) (n := 3) (rest := []) hx hb hml hown hg hT (c_X12_put l dC dI g ty H.size (Y.1, Y.2.1, Y.2.2.1, Y.2.2.2.1, Y.2.2.2.2.1, cq, Y.2.2.2.2.2.2.1, Y.2.2.2.2.2.2.2.1, Y.2.2.2.2.2.2.2.2.1, Y.2.2.2.2.2.2.2.2.2.1, Y.2.2.2.2.2.2.2.2.2.2) pa kp ks I tl ac wr tw (pa b0.toNatClampNeg) (j0 + kq) v9 (by exact hvt.1) (by exact (hvt.2.2.2 _ ha2.2.2).1)) (cv_of hg wM_X12_151 wN_X12_put wL_X12_X12_put wK_X12_put wI_X12 (by decide +kernel) ⟨Nat.le_of_ble_eq_true rfl, Nat.le_of_ble_eq_true rfl⟩) hK hP hD hS hA (va_recv hK hP (ci := 14) (q0 := 0) rfl rfl) rfl hl.1 rfl (Nat.le_of_ble_eq_true rfl) dX12_copied_346 ⟨Nat.le_of_ble_eq_true rfl, Nat.le_of_ble_eq_true rfl⟩ (fun u_364 H locs q_362 hP hD hS => ?_)
                                obtain rfl := q_362
                                have hP : va_P (dC, dI) vwCl (rW g ty (Y.1, Y.2.1, Y.2.2.1, Y.2.2.2.1, Y.2.2.2.2.1, (vp_updL cq (Y.2.1 (pa b0.toNatClampNeg).toNatClampNeg + (j0 + kq)).toNatClampNeg v9), Y.2.2.2.2.2.2.1, Y.2.2.2.2.2.2.2.1, Y.2.2.2.2.2.2.2.2.1, Y.2.2.2.2.2.2.2.2.2.1, Y.2.2.2.2.2.2.2.2.2.2) pa kp ks I tl ac wr tw) H := hP
                                have hD : va_D A (rW g ty (Y.1, Y.2.1, Y.2.2.1, Y.2.2.2.1, Y.2.2.2.2.1, (vp_updL cq (Y.2.1 (pa b0.toNatClampNeg).toNatClampNeg + (j0 + kq)).toNatClampNeg v9), Y.2.2.2.2.2.2.1, Y.2.2.2.2.2.2.2.1, Y.2.2.2.2.2.2.2.2.1, Y.2.2.2.2.2.2.2.2.2.1, Y.2.2.2.2.2.2.2.2.2.2) pa kp ks I tl ac wr tw) := hD
                                refine lv_iinc (v := (kq + 1)) (lv' := [(9, .int (kq + 1)), (11, .long v9), (10, .int kq), (0, .ref (g 8)), (3, .int i0), (4, .int j0), (5, .int n0), (6, .int (pa a0.toNatClampNeg)), (7, .int (pa b0.toNatClampNeg)), (8, .int 0)]) hx hb dX12_copied_349 hl (k := 9) rfl rfl (by decide) rfl (fun ls hl => ?_)
                                refine lv_goto (tgt := 206) hx hb dX12_copied_352 (by decide) ?_
                                have hup := up1_clamp q0 (by assumption)
                                have hw9 := rw_shelf (P := pRc P y2 (cpB (P.2.2.2.2.2.2.2 y1) (P.2.2.2.2.2.2.2 y2) i0.toNatClampNeg j0.toNatClampNeg 0 kq.toNatClampNeg)) hwk q2 n1t2 n2t2 n3t2 gk2 gy2 ha2.2.2 (x := v9) ho9 rfl
                                have e9 : pRc (pRc P y2 (cpB (P.2.2.2.2.2.2.2 y1) (P.2.2.2.2.2.2.2 y2) i0.toNatClampNeg j0.toNatClampNeg 0 kq.toNatClampNeg)) y2 (va_up ((pRc P y2 (cpB (P.2.2.2.2.2.2.2 y1) (P.2.2.2.2.2.2.2 y2) i0.toNatClampNeg j0.toNatClampNeg 0 kq.toNatClampNeg)).2.2.2.2.2.2.2 y2) (j0 + kq).toNatClampNeg (P.2.2.2.2.2.2.2 y1 (i0.toNatClampNeg + kq.toNatClampNeg))) = pRc P y2 (cpB (P.2.2.2.2.2.2.2 y1) (P.2.2.2.2.2.2.2 y2) i0.toNatClampNeg j0.toNatClampNeg 0 (kq + 1).toNatClampNeg) := by
                                  rw [pRc_pRc, ha2.2.1, show (pRc P y2 (cpB (P.2.2.2.2.2.2.2 y1) (P.2.2.2.2.2.2.2 y2) i0.toNatClampNeg j0.toNatClampNeg 0 kq.toNatClampNeg)).2.2.2.2.2.2.2 y2 = cpB (P.2.2.2.2.2.2.2 y1) (P.2.2.2.2.2.2.2 y2) i0.toNatClampNeg j0.toNatClampNeg 0 kq.toNatClampNeg from va_up_self _ _ _, hup]
                                  rw [cpB_up _ _ (Nat.zero_le _)]
                                exact IH206 _ (by rw [← hN206]; exact th_dec q0 (by assumption)) (kq + 1) (vp_updL cq (Y.2.1 (pa b0.toNatClampNeg).toNatClampNeg + (j0 + kq)).toNatClampNeg v9) _ _ _ rfl (by exact k1_nn q0 (by assumption)) (by exact k1_le (by assumption)) (by rw [← e9]; exact hw9) hP hD hS (lv_sub hl [3, 4, 5, 6, 7, 8, 9, 0] rfl)
                              · show _
                                obtain ⟨z9, ez9, hz1, hz2, hz3⟩ := ll_nz ho9 (by assumption)
                                refine lv_aload_n hx hb dX12_copied_263 rfl (lv_at hl 2 rfl) ?_
                                refine lv_lload hx hb dX12_copied_264 (lv_at hl 0 rfl) ?_
                                refine lv_l2i (v := (v9.toInt32)) hx hb dX12_copied_266 rfl ?_
                                refine lv_aload_n hx hb dX12_copied_267 rfl (lv_at hl 2 rfl) ?_
                                refine va_get (D := (dC, dI)) (ci := 14) (v := .ref (Y.2.2.2.2.2.2.1 0)) (C := RX12) (T := TX12) (N := 21) hx hb hg inG12 hown hK hP 0 rfl rfl 0 (by decide) (hg _ wF_X12_7) (fun _ h9 => h9) rfl dX12_copied_268 ?_
                                refine lv_iload hx hb dX12_copied_271 (lv_at hl 7 rfl) ?_
                                refine va_iald hx hb hK hP 1 0 rfl rfl (by exact hin2) dX12_copied_273 ?_
                                refine lv_bipush (v := 8) hx hb dX12_copied_274 (by decide) ?_
                                refine lv_icmp_ne (tgt := 283) hx hb dX12_copied_276 (by decide) (fun c_365 => ?_) (fun c_365 => ?_)
                                · show _
                                  refine lv_aload_n hx hb dX12_copied_283 rfl (lv_at hl 2 rfl) ?_
                                  refine va_get (D := (dC, dI)) (ci := 14) (v := .ref (Y.2.2.2.2.2.2.1 0)) (C := RX12) (T := TX12) (N := 21) hx hb hg inG12 hown hK hP 0 rfl rfl 0 (by decide) (hg _ wF_X12_7) (fun _ h9 => h9) rfl dX12_copied_284 ?_
                                  refine lv_iload hx hb dX12_copied_287 (lv_at hl 7 rfl) ?_
                                  refine va_iald hx hb hK hP 1 0 rfl rfl (by exact hin2) dX12_copied_289 ?_
                                  refine lv_bipush (v := 9) hx hb dX12_copied_290 (by decide) ?_
                                  refine lv_icmp_ne (tgt := 300) hx hb dX12_copied_292 (by decide) (fun c_366 => ?_) (fun c_366 => ?_)
                                  · show _
                                    refine lv_aload_n hx hb dX12_copied_300 rfl (lv_at hl 2 rfl) ?_
                                    refine va_get (D := (dC, dI)) (ci := 14) (v := .ref (Y.2.2.2.2.2.2.1 0)) (C := RX12) (T := TX12) (N := 21) hx hb hg inG12 hown hK hP 0 rfl rfl 0 (by decide) (hg _ wF_X12_7) (fun _ h9 => h9) rfl dX12_copied_301 ?_
                                    refine lv_iload hx hb dX12_copied_304 (lv_at hl 7 rfl) ?_
                                    refine va_iald hx hb hK hP 1 0 rfl rfl (by exact hin2) dX12_copied_306 ?_
                                    refine lv_bipush (v := 10) hx hb dX12_copied_307 (by decide) ?_
                                    refine lv_icmp_ne (tgt := 317) hx hb dX12_copied_309 (by decide) (fun c_367 => ?_) (fun c_367 => ?_)
                                    · show _
                                      refine lv_bipush (v := 14) hx hb dX12_copied_317 (by decide) ?_
                                      have hrim := (rim_8 wf tht2.1 gk2 hsr2).2.2.2 c_365 c_366 c_367
                                      have hkt : kOf (P.2.1 z9) (P.2.2.1 z9) (P.2.2.2.1 t2) = true := g8 ▸ wf.2.2.2.2.2.2.2.2.1 t1 y1 _ z9 tht1.1 gk1 gy1 ez9
                                      have hi9 : ¬ (if (v9.toInt32) = 0 then 0 else rIs (Y.1 (v9.toInt32).toNatClampNeg) 14) = 0 := fun e9 => by have h8 := (isv_iff rel wf hz1 hz2 hz3 (s0 := 14) (i32_in (by decide) (by decide))).mp e9; rw [← hrim] at h8; exact absurd (h8.symm.trans hkt) (by decide)
                                      refine cV_i (C := RX12) (n := 2) (rest := []) hx hb hml hown hg hT (c_X12_is l dC dI g ty H.size (Y.1, Y.2.1, Y.2.2.1, Y.2.2.2.1, Y.2.2.2.2.1, cq, Y.2.2.2.2.2.2.1, Y.2.2.2.2.2.2.2.1, Y.2.2.2.2.2.2.2.2.1, Y.2.2.2.2.2.2.2.2.2.1, Y.2.2.2.2.2.2.2.2.2.2) pa kp ks I tl ac wr tw (v9.toInt32) 14 (by exact Or.inr (rk_in rel hz1 hz2).1)) (cv_of hg wM_X12_86 wN_X12_is wL_X12_X12_is wK_X12_is wI_X12 (by decide +kernel) ⟨Nat.le_of_ble_eq_true rfl, Nat.le_of_ble_eq_true rfl⟩) hK hP hD hS hA (va_recv hK hP (ci := 14) (q0 := 0) rfl rfl) rfl hl.1 rfl (Nat.le_of_ble_eq_true rfl) dX12_copied_319 ⟨Nat.le_of_ble_eq_true rfl, Nat.le_of_ble_eq_true rfl⟩ (fun r_369 u_370 H locs q_368 hP hD hS => ?_)
                                      obtain rfl := q_368
                                      have hP : va_P (dC, dI) vwCl (rW g ty (Y.1, Y.2.1, Y.2.2.1, Y.2.2.2.1, Y.2.2.2.2.1, cq, Y.2.2.2.2.2.2.1, Y.2.2.2.2.2.2.2.1, Y.2.2.2.2.2.2.2.2.1, Y.2.2.2.2.2.2.2.2.2.1, Y.2.2.2.2.2.2.2.2.2.2) pa kp ks I tl ac wr tw) H := hP
                                      have hD : va_D A (rW g ty (Y.1, Y.2.1, Y.2.2.1, Y.2.2.2.1, Y.2.2.2.2.1, cq, Y.2.2.2.2.2.2.1, Y.2.2.2.2.2.2.2.1, Y.2.2.2.2.2.2.2.2.1, Y.2.2.2.2.2.2.2.2.2.1, Y.2.2.2.2.2.2.2.2.2.2) pa kp ks I tl ac wr tw) := hD
                                      refine lv_if_ne (tgt := 336) hx hb dX12_copied_322 (by decide) (fun _ => ?_) (fun c9 => absurd c9 hi9)
                                      refine lv_aload_n hx hb dX12_copied_336 rfl (lv_at hl 2 rfl) ?_
                                      refine lv_iload hx hb dX12_copied_337 (lv_at hl 7 rfl) ?_
                                      refine lv_iload hx hb dX12_copied_339 (lv_at hl 4 rfl) ?_
                                      refine lv_iload hx hb dX12_copied_341 (lv_at hl 1 rfl) ?_
                                      refine lv_iadd hx hb dX12_copied_343 ?_
                                      refine lv_lload hx hb dX12_copied_344 (lv_at hl 0 rfl) ?_
                                      refine cV_v (C := RX12) (n := 3) (rest := []) hx hb hml hown hg hT (c_X12_put l dC dI g ty H.size (Y.1, Y.2.1, Y.2.2.1, Y.2.2.2.1, Y.2.2.2.2.1, cq, Y.2.2.2.2.2.2.1, Y.2.2.2.2.2.2.2.1, Y.2.2.2.2.2.2.2.2.1, Y.2.2.2.2.2.2.2.2.2.1, Y.2.2.2.2.2.2.2.2.2.2) pa kp ks I tl ac wr tw (pa b0.toNatClampNeg) (j0 + kq) v9 (by exact hvt.1) (by exact (hvt.2.2.2 _ ha2.2.2).1)) (cv_of hg wM_X12_151 wN_X12_put wL_X12_X12_put wK_X12_put wI_X12 (by decide +kernel) ⟨Nat.le_of_ble_eq_true rfl, Nat.le_of_ble_eq_true rfl⟩) hK hP hD hS hA (va_recv hK hP (ci := 14) (q0 := 0) rfl rfl) rfl hl.1 rfl (Nat.le_of_ble_eq_true rfl) dX12_copied_346 ⟨Nat.le_of_ble_eq_true rfl, Nat.le_of_ble_eq_true rfl⟩ (fun u_373 H locs q_371 hP hD hS => ?_)
                                      obtain rfl := q_371
                                      have hP : va_P (dC, dI) vwCl (rW g ty (Y.1, Y.2.1, Y.2.2.1, Y.2.2.2.1, Y.2.2.2.2.1, (vp_updL cq (Y.2.1 (pa b0.toNatClampNeg).toNatClampNeg + (j0 + kq)).toNatClampNeg v9), Y.2.2.2.2.2.2.1, Y.2.2.2.2.2.2.2.1, Y.2.2.2.2.2.2.2.2.1, Y.2.2.2.2.2.2.2.2.2.1, Y.2.2.2.2.2.2.2.2.2.2) pa kp ks I tl ac wr tw) H := hP
                                      have hD : va_D A (rW g ty (Y.1, Y.2.1, Y.2.2.1, Y.2.2.2.1, Y.2.2.2.2.1, (vp_updL cq (Y.2.1 (pa b0.toNatClampNeg).toNatClampNeg + (j0 + kq)).toNatClampNeg v9), Y.2.2.2.2.2.2.1, Y.2.2.2.2.2.2.2.1, Y.2.2.2.2.2.2.2.2.1, Y.2.2.2.2.2.2.2.2.2.1, Y.2.2.2.2.2.2.2.2.2.2) pa kp ks I tl ac wr tw) := hD
                                      refine lv_iinc (v := (kq + 1)) (lv' := [(9, .int (kq + 1)), (11, .long v9), (10, .int kq), (0, .ref (g 8)), (3, .int i0), (4, .int j0), (5, .int n0), (6, .int (pa a0.toNatClampNeg)), (7, .int (pa b0.toNatClampNeg)), (8, .int 0)]) hx hb dX12_copied_349 hl (k := 9) rfl rfl (by decide) rfl (fun ls hl => ?_)
                                      refine lv_goto (tgt := 206) hx hb dX12_copied_352 (by decide) ?_
                                      have hup := up1_clamp q0 (by assumption)
                                      have hw9 := rw_shelf (P := pRc P y2 (cpB (P.2.2.2.2.2.2.2 y1) (P.2.2.2.2.2.2.2 y2) i0.toNatClampNeg j0.toNatClampNeg 0 kq.toNatClampNeg)) hwk q2 n1t2 n2t2 n3t2 gk2 gy2 ha2.2.2 (x := v9) ho9 rfl
                                      have e9 : pRc (pRc P y2 (cpB (P.2.2.2.2.2.2.2 y1) (P.2.2.2.2.2.2.2 y2) i0.toNatClampNeg j0.toNatClampNeg 0 kq.toNatClampNeg)) y2 (va_up ((pRc P y2 (cpB (P.2.2.2.2.2.2.2 y1) (P.2.2.2.2.2.2.2 y2) i0.toNatClampNeg j0.toNatClampNeg 0 kq.toNatClampNeg)).2.2.2.2.2.2.2 y2) (j0 + kq).toNatClampNeg (P.2.2.2.2.2.2.2 y1 (i0.toNatClampNeg + kq.toNatClampNeg))) = pRc P y2 (cpB (P.2.2.2.2.2.2.2 y1) (P.2.2.2.2.2.2.2 y2) i0.toNatClampNeg j0.toNatClampNeg 0 (kq + 1).toNatClampNeg) := by
                                        rw [pRc_pRc, ha2.2.1, show (pRc P y2 (cpB (P.2.2.2.2.2.2.2 y1) (P.2.2.2.2.2.2.2 y2) i0.toNatClampNeg j0.toNatClampNeg 0 kq.toNatClampNeg)).2.2.2.2.2.2.2 y2 = cpB (P.2.2.2.2.2.2.2 y1) (P.2.2.2.2.2.2.2 y2) i0.toNatClampNeg j0.toNatClampNeg 0 kq.toNatClampNeg from va_up_self _ _ _, hup]
                                        rw [cpB_up _ _ (Nat.zero_le _)]
                                      exact IH206 _ (by rw [← hN206]; exact th_dec q0 (by assumption)) (kq + 1) (vp_updL cq (Y.2.1 (pa b0.toNatClampNeg).toNatClampNeg + (j0 + kq)).toNatClampNeg v9) _ _ _ rfl (by exact k1_nn q0 (by assumption)) (by exact k1_le (by assumption)) (by rw [← e9]; exact hw9) hP hD hS (lv_sub hl [3, 4, 5, 6, 7, 8, 9, 0] rfl)
                                    · show _
                                      refine lv_bipush (v := 13) hx hb dX12_copied_312 (by decide) ?_
                                      refine lv_goto (tgt := 319) hx hb dX12_copied_314 (by decide) ?_
                                      have hrim := (rim_8 wf tht2.1 gk2 hsr2).2.2.1 c_367
                                      have hkt : kOf (P.2.1 z9) (P.2.2.1 z9) (P.2.2.2.1 t2) = true := g8 ▸ wf.2.2.2.2.2.2.2.2.1 t1 y1 _ z9 tht1.1 gk1 gy1 ez9
                                      have hi9 : ¬ (if (v9.toInt32) = 0 then 0 else rIs (Y.1 (v9.toInt32).toNatClampNeg) 13) = 0 := fun e9 => by have h8 := (isv_iff rel wf hz1 hz2 hz3 (s0 := 13) (i32_in (by decide) (by decide))).mp e9; rw [← hrim] at h8; exact absurd (h8.symm.trans hkt) (by decide)
                                      refine cV_i (C := RX12) (n := 2) (rest := []) hx hb hml hown hg hT (c_X12_is l dC dI g ty H.size (Y.1, Y.2.1, Y.2.2.1, Y.2.2.2.1, Y.2.2.2.2.1, cq, Y.2.2.2.2.2.2.1, Y.2.2.2.2.2.2.2.1, Y.2.2.2.2.2.2.2.2.1, Y.2.2.2.2.2.2.2.2.2.1, Y.2.2.2.2.2.2.2.2.2.2) pa kp ks I tl ac wr tw (v9.toInt32) 13 (by exact Or.inr (rk_in rel hz1 hz2).1)) (cv_of hg wM_X12_86 wN_X12_is wL_X12_X12_is wK_X12_is wI_X12 (by decide +kernel) ⟨Nat.le_of_ble_eq_true rfl, Nat.le_of_ble_eq_true rfl⟩) hK hP hD hS hA (va_recv hK hP (ci := 14) (q0 := 0) rfl rfl) rfl hl.1 rfl (Nat.le_of_ble_eq_true rfl) dX12_copied_319 ⟨Nat.le_of_ble_eq_true rfl, Nat.le_of_ble_eq_true rfl⟩ (fun r_375 u_376 H locs q_374 hP hD hS => ?_)
                                      obtain rfl := q_374
                                      have hP : va_P (dC, dI) vwCl (rW g ty (Y.1, Y.2.1, Y.2.2.1, Y.2.2.2.1, Y.2.2.2.2.1, cq, Y.2.2.2.2.2.2.1, Y.2.2.2.2.2.2.2.1, Y.2.2.2.2.2.2.2.2.1, Y.2.2.2.2.2.2.2.2.2.1, Y.2.2.2.2.2.2.2.2.2.2) pa kp ks I tl ac wr tw) H := hP
                                      have hD : va_D A (rW g ty (Y.1, Y.2.1, Y.2.2.1, Y.2.2.2.1, Y.2.2.2.2.1, cq, Y.2.2.2.2.2.2.1, Y.2.2.2.2.2.2.2.1, Y.2.2.2.2.2.2.2.2.1, Y.2.2.2.2.2.2.2.2.2.1, Y.2.2.2.2.2.2.2.2.2.2) pa kp ks I tl ac wr tw) := hD
                                      refine lv_if_ne (tgt := 336) hx hb dX12_copied_322 (by decide) (fun _ => ?_) (fun c9 => absurd c9 hi9)
                                      refine lv_aload_n hx hb dX12_copied_336 rfl (lv_at hl 2 rfl) ?_
                                      refine lv_iload hx hb dX12_copied_337 (lv_at hl 7 rfl) ?_
                                      refine lv_iload hx hb dX12_copied_339 (lv_at hl 4 rfl) ?_
                                      refine lv_iload hx hb dX12_copied_341 (lv_at hl 1 rfl) ?_
                                      refine lv_iadd hx hb dX12_copied_343 ?_
                                      refine lv_lload hx hb dX12_copied_344 (lv_at hl 0 rfl) ?_
                                      refine cV_v (C := RX12) (n := 3) (rest := []) hx hb hml hown hg hT (c_X12_put l dC dI g ty H.size (Y.1, Y.2.1, Y.2.2.1, Y.2.2.2.1, Y.2.2.2.2.1, cq, Y.2.2.2.2.2.2.1, Y.2.2.2.2.2.2.2.1, Y.2.2.2.2.2.2.2.2.1, Y.2.2.2.2.2.2.2.2.2.1, Y.2.2.2.2.2.2.2.2.2.2) pa kp ks I tl ac wr tw (pa b0.toNatClampNeg) (j0 + kq) v9 (by exact hvt.1) (by exact (hvt.2.2.2 _ ha2.2.2).1)) (cv_of hg wM_X12_151 wN_X12_put wL_X12_X12_put wK_X12_put wI_X12 (by decide +kernel) ⟨Nat.le_of_ble_eq_true rfl, Nat.le_of_ble_eq_true rfl⟩) hK hP hD hS hA (va_recv hK hP (ci := 14) (q0 := 0) rfl rfl) rfl hl.1 rfl (Nat.le_of_ble_eq_true rfl) dX12_copied_346 ⟨Nat.le_of_ble_eq_true rfl, Nat.le_of_ble_eq_true rfl⟩ (fun u_379 H locs q_377 hP hD hS => ?_)
                                      obtain rfl := q_377
                                      have hP : va_P (dC, dI) vwCl (rW g ty (Y.1, Y.2.1, Y.2.2.1, Y.2.2.2.1, Y.2.2.2.2.1, (vp_updL cq (Y.2.1 (pa b0.toNatClampNeg).toNatClampNeg + (j0 + kq)).toNatClampNeg v9), Y.2.2.2.2.2.2.1, Y.2.2.2.2.2.2.2.1, Y.2.2.2.2.2.2.2.2.1, Y.2.2.2.2.2.2.2.2.2.1, Y.2.2.2.2.2.2.2.2.2.2) pa kp ks I tl ac wr tw) H := hP
                                      have hD : va_D A (rW g ty (Y.1, Y.2.1, Y.2.2.1, Y.2.2.2.1, Y.2.2.2.2.1, (vp_updL cq (Y.2.1 (pa b0.toNatClampNeg).toNatClampNeg + (j0 + kq)).toNatClampNeg v9), Y.2.2.2.2.2.2.1, Y.2.2.2.2.2.2.2.1, Y.2.2.2.2.2.2.2.2.1, Y.2.2.2.2.2.2.2.2.2.1, Y.2.2.2.2.2.2.2.2.2.2) pa kp ks I tl ac wr tw) := hD
                                      refine lv_iinc (v := (kq + 1)) (lv' := [(9, .int (kq + 1)), (11, .long v9), (10, .int kq), (0, .ref (g 8)), (3, .int i0), (4, .int j0), (5, .int n0), (6, .int (pa a0.toNatClampNeg)), (7, .int (pa b0.toNatClampNeg)), (8, .int 0)]) hx hb dX12_copied_349 hl (k := 9) rfl rfl (by decide) rfl (fun ls hl => ?_)
                                      refine lv_goto (tgt := 206) hx hb dX12_copied_352 (by decide) ?_
                                      have hup := up1_clamp q0 (by assumption)
                                      have hw9 := rw_shelf (P := pRc P y2 (cpB (P.2.2.2.2.2.2.2 y1) (P.2.2.2.2.2.2.2 y2) i0.toNatClampNeg j0.toNatClampNeg 0 kq.toNatClampNeg)) hwk q2 n1t2 n2t2 n3t2 gk2 gy2 ha2.2.2 (x := v9) ho9 rfl
                                      have e9 : pRc (pRc P y2 (cpB (P.2.2.2.2.2.2.2 y1) (P.2.2.2.2.2.2.2 y2) i0.toNatClampNeg j0.toNatClampNeg 0 kq.toNatClampNeg)) y2 (va_up ((pRc P y2 (cpB (P.2.2.2.2.2.2.2 y1) (P.2.2.2.2.2.2.2 y2) i0.toNatClampNeg j0.toNatClampNeg 0 kq.toNatClampNeg)).2.2.2.2.2.2.2 y2) (j0 + kq).toNatClampNeg (P.2.2.2.2.2.2.2 y1 (i0.toNatClampNeg + kq.toNatClampNeg))) = pRc P y2 (cpB (P.2.2.2.2.2.2.2 y1) (P.2.2.2.2.2.2.2 y2) i0.toNatClampNeg j0.toNatClampNeg 0 (kq + 1).toNatClampNeg) := by
                                        rw [pRc_pRc, ha2.2.1, show (pRc P y2 (cpB (P.2.2.2.2.2.2.2 y1) (P.2.2.2.2.2.2.2 y2) i0.toNatClampNeg j0.toNatClampNeg 0 kq.toNatClampNeg)).2.2.2.2.2.2.2 y2 = cpB (P.2.2.2.2.2.2.2 y1) (P.2.2.2.2.2.2.2 y2) i0.toNatClampNeg j0.toNatClampNeg 0 kq.toNatClampNeg from va_up_self _ _ _, hup]
                                        rw [cpB_up _ _ (Nat.zero_le _)]
                                      exact IH206 _ (by rw [← hN206]; exact th_dec q0 (by assumption)) (kq + 1) (vp_updL cq (Y.2.1 (pa b0.toNatClampNeg).toNatClampNeg + (j0 + kq)).toNatClampNeg v9) _ _ _ rfl (by exact k1_nn q0 (by assumption)) (by exact k1_le (by assumption)) (by rw [← e9]; exact hw9) hP hD hS (lv_sub hl [3, 4, 5, 6, 7, 8, 9, 0] rfl)
                                  · show _
                                    refine lv_bipush (v := 12) hx hb dX12_copied_295 (by decide) ?_
                                    refine lv_goto (tgt := 319) hx hb dX12_copied_297 (by decide) ?_
                                    have hrim := (rim_8 wf tht2.1 gk2 hsr2).2.1 c_366
                                    have hkt : kOf (P.2.1 z9) (P.2.2.1 z9) (P.2.2.2.1 t2) = true := g8 ▸ wf.2.2.2.2.2.2.2.2.1 t1 y1 _ z9 tht1.1 gk1 gy1 ez9
                                    have hi9 : ¬ (if (v9.toInt32) = 0 then 0 else rIs (Y.1 (v9.toInt32).toNatClampNeg) 12) = 0 := fun e9 => by have h8 := (isv_iff rel wf hz1 hz2 hz3 (s0 := 12) (i32_in (by decide) (by decide))).mp e9; rw [← hrim] at h8; exact absurd (h8.symm.trans hkt) (by decide)
                                    refine cV_i (C := RX12) (n := 2) (rest := []) hx hb hml hown hg hT (c_X12_is l dC dI g ty H.size (Y.1, Y.2.1, Y.2.2.1, Y.2.2.2.1, Y.2.2.2.2.1, cq, Y.2.2.2.2.2.2.1, Y.2.2.2.2.2.2.2.1, Y.2.2.2.2.2.2.2.2.1, Y.2.2.2.2.2.2.2.2.2.1, Y.2.2.2.2.2.2.2.2.2.2) pa kp ks I tl ac wr tw (v9.toInt32) 12 (by exact Or.inr (rk_in rel hz1 hz2).1)) (cv_of hg wM_X12_86 wN_X12_is wL_X12_X12_is wK_X12_is wI_X12 (by decide +kernel) ⟨Nat.le_of_ble_eq_true rfl, Nat.le_of_ble_eq_true rfl⟩) hK hP hD hS hA (va_recv hK hP (ci := 14) (q0 := 0) rfl rfl) rfl hl.1 rfl (Nat.le_of_ble_eq_true rfl) dX12_copied_319 ⟨Nat.le_of_ble_eq_true rfl, Nat.le_of_ble_eq_true rfl⟩ (fun r_381 u_382 H locs q_380 hP hD hS => ?_)
                                    obtain rfl := q_380
                                    have hP : va_P (dC, dI) vwCl (rW g ty (Y.1, Y.2.1, Y.2.2.1, Y.2.2.2.1, Y.2.2.2.2.1, cq, Y.2.2.2.2.2.2.1, Y.2.2.2.2.2.2.2.1, Y.2.2.2.2.2.2.2.2.1, Y.2.2.2.2.2.2.2.2.2.1, Y.2.2.2.2.2.2.2.2.2.2) pa kp ks I tl ac wr tw) H := hP
                                    have hD : va_D A (rW g ty (Y.1, Y.2.1, Y.2.2.1, Y.2.2.2.1, Y.2.2.2.2.1, cq, Y.2.2.2.2.2.2.1, Y.2.2.2.2.2.2.2.1, Y.2.2.2.2.2.2.2.2.1, Y.2.2.2.2.2.2.2.2.2.1, Y.2.2.2.2.2.2.2.2.2.2) pa kp ks I tl ac wr tw) := hD
                                    refine lv_if_ne (tgt := 336) hx hb dX12_copied_322 (by decide) (fun _ => ?_) (fun c9 => absurd c9 hi9)
                                    refine lv_aload_n hx hb dX12_copied_336 rfl (lv_at hl 2 rfl) ?_
                                    refine lv_iload hx hb dX12_copied_337 (lv_at hl 7 rfl) ?_
                                    refine lv_iload hx hb dX12_copied_339 (lv_at hl 4 rfl) ?_
                                    refine lv_iload hx hb dX12_copied_341 (lv_at hl 1 rfl) ?_
                                    refine lv_iadd hx hb dX12_copied_343 ?_
                                    refine lv_lload hx hb dX12_copied_344 (lv_at hl 0 rfl) ?_
                                    refine cV_v (C := RX12) (n := 3) (rest := []) hx hb hml hown hg hT (c_X12_put l dC dI g ty H.size (Y.1, Y.2.1, Y.2.2.1, Y.2.2.2.1, Y.2.2.2.2.1, cq, Y.2.2.2.2.2.2.1, Y.2.2.2.2.2.2.2.1, Y.2.2.2.2.2.2.2.2.1, Y.2.2.2.2.2.2.2.2.2.1, Y.2.2.2.2.2.2.2.2.2.2) pa kp ks I tl ac wr tw (pa b0.toNatClampNeg) (j0 + kq) v9 (by exact hvt.1) (by exact (hvt.2.2.2 _ ha2.2.2).1)) (cv_of hg wM_X12_151 wN_X12_put wL_X12_X12_put wK_X12_put wI_X12 (by decide +kernel) ⟨Nat.le_of_ble_eq_true rfl, Nat.le_of_ble_eq_true rfl⟩) hK hP hD hS hA (va_recv hK hP (ci := 14) (q0 := 0) rfl rfl) rfl hl.1 rfl (Nat.le_of_ble_eq_true rfl) dX12_copied_346 ⟨Nat.le_of_ble_eq_true rfl, Nat.le_of_ble_eq_true rfl⟩ (fun u_385 H locs q_383 hP hD hS => ?_)
                                    obtain rfl := q_383
                                    have hP : va_P (dC, dI) vwCl (rW g ty (Y.1, Y.2.1, Y.2.2.1, Y.2.2.2.1, Y.2.2.2.2.1, (vp_updL cq (Y.2.1 (pa b0.toNatClampNeg).toNatClampNeg + (j0 + kq)).toNatClampNeg v9), Y.2.2.2.2.2.2.1, Y.2.2.2.2.2.2.2.1, Y.2.2.2.2.2.2.2.2.1, Y.2.2.2.2.2.2.2.2.2.1, Y.2.2.2.2.2.2.2.2.2.2) pa kp ks I tl ac wr tw) H := hP
                                    have hD : va_D A (rW g ty (Y.1, Y.2.1, Y.2.2.1, Y.2.2.2.1, Y.2.2.2.2.1, (vp_updL cq (Y.2.1 (pa b0.toNatClampNeg).toNatClampNeg + (j0 + kq)).toNatClampNeg v9), Y.2.2.2.2.2.2.1, Y.2.2.2.2.2.2.2.1, Y.2.2.2.2.2.2.2.2.1, Y.2.2.2.2.2.2.2.2.2.1, Y.2.2.2.2.2.2.2.2.2.2) pa kp ks I tl ac wr tw) := hD
                                    refine lv_iinc (v := (kq + 1)) (lv' := [(9, .int (kq + 1)), (11, .long v9), (10, .int kq), (0, .ref (g 8)), (3, .int i0), (4, .int j0), (5, .int n0), (6, .int (pa a0.toNatClampNeg)), (7, .int (pa b0.toNatClampNeg)), (8, .int 0)]) hx hb dX12_copied_349 hl (k := 9) rfl rfl (by decide) rfl (fun ls hl => ?_)
                                    refine lv_goto (tgt := 206) hx hb dX12_copied_352 (by decide) ?_
                                    have hup := up1_clamp q0 (by assumption)
                                    have hw9 := rw_shelf (P := pRc P y2 (cpB (P.2.2.2.2.2.2.2 y1) (P.2.2.2.2.2.2.2 y2) i0.toNatClampNeg j0.toNatClampNeg 0 kq.toNatClampNeg)) hwk q2 n1t2 n2t2 n3t2 gk2 gy2 ha2.2.2 (x := v9) ho9 rfl
                                    have e9 : pRc (pRc P y2 (cpB (P.2.2.2.2.2.2.2 y1) (P.2.2.2.2.2.2.2 y2) i0.toNatClampNeg j0.toNatClampNeg 0 kq.toNatClampNeg)) y2 (va_up ((pRc P y2 (cpB (P.2.2.2.2.2.2.2 y1) (P.2.2.2.2.2.2.2 y2) i0.toNatClampNeg j0.toNatClampNeg 0 kq.toNatClampNeg)).2.2.2.2.2.2.2 y2) (j0 + kq).toNatClampNeg (P.2.2.2.2.2.2.2 y1 (i0.toNatClampNeg + kq.toNatClampNeg))) = pRc P y2 (cpB (P.2.2.2.2.2.2.2 y1) (P.2.2.2.2.2.2.2 y2) i0.toNatClampNeg j0.toNatClampNeg 0 (kq + 1).toNatClampNeg) := by
                                      rw [pRc_pRc, ha2.2.1, show (pRc P y2 (cpB (P.2.2.2.2.2.2.2 y1) (P.2.2.2.2.2.2.2 y2) i0.toNatClampNeg j0.toNatClampNeg 0 kq.toNatClampNeg)).2.2.2.2.2.2.2 y2 = cpB (P.2.2.2.2.2.2.2 y1) (P.2.2.2.2.2.2.2 y2) i0.toNatClampNeg j0.toNatClampNeg 0 kq.toNatClampNeg from va_up_self _ _ _, hup]
                                      rw [cpB_up _ _ (Nat.zero_le _)]
                                    exact IH206 _ (by rw [← hN206]; exact th_dec q0 (by assumption)) (kq + 1) (vp_updL cq (Y.2.1 (pa b0.toNatClampNeg).toNatClampNeg + (j0 + kq)).toNatClampNeg v9) _ _ _ rfl (by exact k1_nn q0 (by assumption)) (by exact k1_le (by assumption)) (by rw [← e9]; exact hw9) hP hD hS (lv_sub hl [3, 4, 5, 6, 7, 8, 9, 0] rfl)
                                · show _
                                  refine lv_iconst (v := 0) hx hb dX12_copied_279 (by decide) ?_
                                  refine lv_goto (tgt := 319) hx hb dX12_copied_280 (by decide) ?_
                                  have hrim := (rim_8 wf tht2.1 gk2 hsr2).1 c_365
                                  have hkt : kOf (P.2.1 z9) (P.2.2.1 z9) (P.2.2.2.1 t2) = true := g8 ▸ wf.2.2.2.2.2.2.2.2.1 t1 y1 _ z9 tht1.1 gk1 gy1 ez9
                                  have hi9 : ¬ (if (v9.toInt32) = 0 then 0 else rIs (Y.1 (v9.toInt32).toNatClampNeg) 0) = 0 := fun e9 => by have h8 := (isv_iff rel wf hz1 hz2 hz3 (s0 := 0) (i32_in (by decide) (by decide))).mp e9; rw [← hrim] at h8; exact absurd (h8.symm.trans hkt) (by decide)
                                  refine cV_i (C := RX12) (n := 2) (rest := []) hx hb hml hown hg hT (c_X12_is l dC dI g ty H.size (Y.1, Y.2.1, Y.2.2.1, Y.2.2.2.1, Y.2.2.2.2.1, cq, Y.2.2.2.2.2.2.1, Y.2.2.2.2.2.2.2.1, Y.2.2.2.2.2.2.2.2.1, Y.2.2.2.2.2.2.2.2.2.1, Y.2.2.2.2.2.2.2.2.2.2) pa kp ks I tl ac wr tw (v9.toInt32) 0 (by exact Or.inr (rk_in rel hz1 hz2).1)) (cv_of hg wM_X12_86 wN_X12_is wL_X12_X12_is wK_X12_is wI_X12 (by decide +kernel) ⟨Nat.le_of_ble_eq_true rfl, Nat.le_of_ble_eq_true rfl⟩) hK hP hD hS hA (va_recv hK hP (ci := 14) (q0 := 0) rfl rfl) rfl hl.1 rfl (Nat.le_of_ble_eq_true rfl) dX12_copied_319 ⟨Nat.le_of_ble_eq_true rfl, Nat.le_of_ble_eq_true rfl⟩ (fun r_387 u_388 H locs q_386 hP hD hS => ?_)
                                  obtain rfl := q_386
                                  have hP : va_P (dC, dI) vwCl (rW g ty (Y.1, Y.2.1, Y.2.2.1, Y.2.2.2.1, Y.2.2.2.2.1, cq, Y.2.2.2.2.2.2.1, Y.2.2.2.2.2.2.2.1, Y.2.2.2.2.2.2.2.2.1, Y.2.2.2.2.2.2.2.2.2.1, Y.2.2.2.2.2.2.2.2.2.2) pa kp ks I tl ac wr tw) H := hP
                                  have hD : va_D A (rW g ty (Y.1, Y.2.1, Y.2.2.1, Y.2.2.2.1, Y.2.2.2.2.1, cq, Y.2.2.2.2.2.2.1, Y.2.2.2.2.2.2.2.1, Y.2.2.2.2.2.2.2.2.1, Y.2.2.2.2.2.2.2.2.2.1, Y.2.2.2.2.2.2.2.2.2.2) pa kp ks I tl ac wr tw) := hD
                                  refine lv_if_ne (tgt := 336) hx hb dX12_copied_322 (by decide) (fun _ => ?_) (fun c9 => absurd c9 hi9)
                                  refine lv_aload_n hx hb dX12_copied_336 rfl (lv_at hl 2 rfl) ?_
                                  refine lv_iload hx hb dX12_copied_337 (lv_at hl 7 rfl) ?_
                                  refine lv_iload hx hb dX12_copied_339 (lv_at hl 4 rfl) ?_
                                  refine lv_iload hx hb dX12_copied_341 (lv_at hl 1 rfl) ?_
                                  refine lv_iadd hx hb dX12_copied_343 ?_
                                  refine lv_lload hx hb dX12_copied_344 (lv_at hl 0 rfl) ?_
                                  refine cV_v (C := RX12) (n := 3) (rest := []) hx hb hml hown hg hT (c_X12_put l dC dI g ty H.size (Y.1, Y.2.1, Y.2.2.1, Y.2.2.2.1, Y.2.2.2.2.1, cq, Y.2.2.2.2.2.2.1, Y.2.2.2.2.2.2.2.1, Y.2.2.2.2.2.2.2.2.1, Y.2.2.2.2.2.2.2.2.2.1, Y.2.2.2.2.2.2.2.2.2.2) pa kp ks I tl ac wr tw (pa b0.toNatClampNeg) (j0 + kq) v9 (by exact hvt.1) (by exact (hvt.2.2.2 _ ha2.2.2).1)) (cv_of hg wM_X12_151 wN_X12_put wL_X12_X12_put wK_X12_put wI_X12 (by decide +kernel) ⟨Nat.le_of_ble_eq_true rfl, Nat.le_of_ble_eq_true rfl⟩) hK hP hD hS hA (va_recv hK hP (ci := 14) (q0 := 0) rfl rfl) rfl hl.1 rfl (Nat.le_of_ble_eq_true rfl) dX12_copied_346 ⟨Nat.le_of_ble_eq_true rfl, Nat.le_of_ble_eq_true rfl⟩ (fun u_391 H locs q_389 hP hD hS => ?_)
                                  obtain rfl := q_389
                                  have hP : va_P (dC, dI) vwCl (rW g ty (Y.1, Y.2.1, Y.2.2.1, Y.2.2.2.1, Y.2.2.2.2.1, (vp_updL cq (Y.2.1 (pa b0.toNatClampNeg).toNatClampNeg + (j0 + kq)).toNatClampNeg v9), Y.2.2.2.2.2.2.1, Y.2.2.2.2.2.2.2.1, Y.2.2.2.2.2.2.2.2.1, Y.2.2.2.2.2.2.2.2.2.1, Y.2.2.2.2.2.2.2.2.2.2) pa kp ks I tl ac wr tw) H := hP
                                  have hD : va_D A (rW g ty (Y.1, Y.2.1, Y.2.2.1, Y.2.2.2.1, Y.2.2.2.2.1, (vp_updL cq (Y.2.1 (pa b0.toNatClampNeg).toNatClampNeg + (j0 + kq)).toNatClampNeg v9), Y.2.2.2.2.2.2.1, Y.2.2.2.2.2.2.2.1, Y.2.2.2.2.2.2.2.2.1, Y.2.2.2.2.2.2.2.2.2.1, Y.2.2.2.2.2.2.2.2.2.2) pa kp ks I tl ac wr tw) := hD
                                  refine lv_iinc (v := (kq + 1)) (lv' := [(9, .int (kq + 1)), (11, .long v9), (10, .int kq), (0, .ref (g 8)), (3, .int i0), (4, .int j0), (5, .int n0), (6, .int (pa a0.toNatClampNeg)), (7, .int (pa b0.toNatClampNeg)), (8, .int 0)]) hx hb dX12_copied_349 hl (k := 9) rfl rfl (by decide) rfl (fun ls hl => ?_)
                                  refine lv_goto (tgt := 206) hx hb dX12_copied_352 (by decide) ?_
                                  have hup := up1_clamp q0 (by assumption)
                                  have hw9 := rw_shelf (P := pRc P y2 (cpB (P.2.2.2.2.2.2.2 y1) (P.2.2.2.2.2.2.2 y2) i0.toNatClampNeg j0.toNatClampNeg 0 kq.toNatClampNeg)) hwk q2 n1t2 n2t2 n3t2 gk2 gy2 ha2.2.2 (x := v9) ho9 rfl
                                  have e9 : pRc (pRc P y2 (cpB (P.2.2.2.2.2.2.2 y1) (P.2.2.2.2.2.2.2 y2) i0.toNatClampNeg j0.toNatClampNeg 0 kq.toNatClampNeg)) y2 (va_up ((pRc P y2 (cpB (P.2.2.2.2.2.2.2 y1) (P.2.2.2.2.2.2.2 y2) i0.toNatClampNeg j0.toNatClampNeg 0 kq.toNatClampNeg)).2.2.2.2.2.2.2 y2) (j0 + kq).toNatClampNeg (P.2.2.2.2.2.2.2 y1 (i0.toNatClampNeg + kq.toNatClampNeg))) = pRc P y2 (cpB (P.2.2.2.2.2.2.2 y1) (P.2.2.2.2.2.2.2 y2) i0.toNatClampNeg j0.toNatClampNeg 0 (kq + 1).toNatClampNeg) := by
                                    rw [pRc_pRc, ha2.2.1, show (pRc P y2 (cpB (P.2.2.2.2.2.2.2 y1) (P.2.2.2.2.2.2.2 y2) i0.toNatClampNeg j0.toNatClampNeg 0 kq.toNatClampNeg)).2.2.2.2.2.2.2 y2 = cpB (P.2.2.2.2.2.2.2 y1) (P.2.2.2.2.2.2.2 y2) i0.toNatClampNeg j0.toNatClampNeg 0 kq.toNatClampNeg from va_up_self _ _ _, hup]
                                    rw [cpB_up _ _ (Nat.zero_le _)]
                                  exact IH206 _ (by rw [← hN206]; exact th_dec q0 (by assumption)) (kq + 1) (vp_updL cq (Y.2.1 (pa b0.toNatClampNeg).toNatClampNeg + (j0 + kq)).toNatClampNeg v9) _ _ _ rfl (by exact k1_nn q0 (by assumption)) (by exact k1_le (by assumption)) (by rw [← e9]; exact hw9) hP hD hS (lv_sub hl [3, 4, 5, 6, 7, 8, 9, 0] rfl)
                        exact LOOP206 _ 0 Y.2.2.2.2.2.1 _ _ _ rfl (by decide) (by exact nn_of (by assumption)) (by rw [show (0 : Int32).toNatClampNeg = 0 from rfl, cpB_nil, pRc_self]; exact rel) hP hD hS (lv_sub hl [4, 7, 8, 9, 3, 2, 1, 0] rfl)
                      · show _
                        refine lv_iconst (v := 1) hx hb dX12_copied_196 (by decide) ?_
                        refine lv_goto (tgt := 201) hx hb dX12_copied_197 (by decide) ?_
                        refine lv_istore (lv' := [(8, .int 1), (7, .int (pa b0.toNatClampNeg)), (6, .int (pa a0.toNatClampNeg)), (0, .ref (g 8)), (1, .int a0), (2, .int b0), (3, .int i0), (4, .int j0), (5, .int n0)]) hx hb dX12_copied_201 hl (by decide) rfl (fun ls hl => ?_)
                        refine lv_iconst (v := 0) hx hb dX12_copied_203 (by decide) ?_
                        refine lv_istore (lv' := [(9, .int 0), (8, .int 1), (7, .int (pa b0.toNatClampNeg)), (6, .int (pa a0.toNatClampNeg)), (0, .ref (g 8)), (1, .int a0), (2, .int b0), (3, .int i0), (4, .int j0), (5, .int n0)]) hx hb dX12_copied_204 hl (by decide) rfl (fun ls hl => ?_)
                        have gk1 := g6
                        have gk2 := g7
                        have gy1 := g9
                        have gy2 := g10
                        have gp1 := g11
                        have gp2 := g12
                        have LOOP206 : ∀ (N206 : Nat) (kq : Int32) (cq : Nat → Int64) (H : Heap) (locs : List Loc) (ls : Array Slot), n0.toNatClampNeg - kq.toNatClampNeg = N206 → (¬ kq < 0) → (kq ≤ n0) → (rR Y.2.2.2.2.2.2.2.2.2.1 (Y.1, Y.2.1, Y.2.2.1, Y.2.2.2.1, Y.2.2.2.2.1, cq, Y.2.2.2.2.2.2.1, Y.2.2.2.2.2.2.2.1, Y.2.2.2.2.2.2.2.2.1, Y.2.2.2.2.2.2.2.2.2.1, Y.2.2.2.2.2.2.2.2.2.2) pa ρ pl (pRc P y2 (cpB (P.2.2.2.2.2.2.2 y1) (P.2.2.2.2.2.2.2 y2) i0.toNatClampNeg j0.toNatClampNeg (n0.toNatClampNeg - kq.toNatClampNeg) n0.toNatClampNeg))) → va_P (dC, dI) vwCl (rW g ty (Y.1, Y.2.1, Y.2.2.1, Y.2.2.2.1, Y.2.2.2.2.1, cq, Y.2.2.2.2.2.2.1, Y.2.2.2.2.2.2.2.1, Y.2.2.2.2.2.2.2.2.1, Y.2.2.2.2.2.2.2.2.2.1, Y.2.2.2.2.2.2.2.2.2.2) pa kp ks I tl ac wr tw) H → va_D A (rW g ty (Y.1, Y.2.1, Y.2.2.1, Y.2.2.2.1, Y.2.2.2.2.1, cq, Y.2.2.2.2.2.2.1, Y.2.2.2.2.2.2.2.1, Y.2.2.2.2.2.2.2.2.1, Y.2.2.2.2.2.2.2.2.2.1, Y.2.2.2.2.2.2.2.2.2.2) pa kp ks I tl ac wr tw) → va_S A s.heap H locs → lv_has ls 13 [(0, .ref (g 8)), (3, .int i0), (4, .int j0), (5, .int n0), (6, .int (pa a0.toNatClampNeg)), (7, .int (pa b0.toNatClampNeg)), (8, .int 1), (9, .int kq)] → W p l e ({ frames := 2, cells := 0, slots := 0, locals := 42 }) s m ([.ref (g 8), .int a0, .int b0, .int i0, .int j0, .int n0]).toArray below meth c H locs (0 + 0 + 0 + 0 + 0) (0 + 0 + 0 + 0 + 0) (MQ below (va_Ql (fun (rz : Int64) (u : rY × (Nat → Int32) × (Nat → Int32) × (Nat → Int32) × Int32 × Int32) => ∃ (r' : Int64) (Y' : rY) (pa' kp' tl' : Nat → Int32) (wr' tw' : Int32), r' = rz ∧ (Y', pa', kp', tl', wr', tw') = u ∧ rAns u9.1 rz9 pl u9.2 md tl Y r' Y' pa' tl' wr' tw') (cB (dC, dI) (fun u : rY × (Nat → Int32) × (Nat → Int32) × (Nat → Int32) × Int32 × Int32 => rW g ty u.1 u.2.1 u.2.2.1 ks I u.2.2.2.1 ac u.2.2.2.2.1 u.2.2.2.2.2) A) A) ([.ref (g 8), .int a0, .int b0, .int i0, .int j0, .int n0]).toArray s 0 0 A) (F0 m 206 ls []) := by
                          intro N206
                          induction N206 using Nat.strongRecOn with
                          | _ N206 IH206 =>
                            intro kq cq H locs ls hN206 q0 q1 q2 hP hD hS hl
                            refine lv_iload hx hb dX12_copied_206 (lv_at hl 7 rfl) ?_
                            refine lv_iload hx hb dX12_copied_208 (lv_at hl 3 rfl) ?_
                            refine lv_icmp_ge (tgt := 355) hx hb dX12_copied_210 (by decide) (fun c_392 => ?_) (fun c_392 => ?_)
                            · show _
                              have hke := gf_eq q1 (by assumption)
                              refine lv_lconst (v := 0) hx hb dX12_copied_355 (by decide) ?_
                              refine cr_l (wo := fun u : rY × (Nat → Int32) × (Nat → Int32) × (Nat → Int32) × Int32 × Int32 => rW g ty u.1 u.2.1 u.2.2.1 ks I u.2.2.2.1 ac u.2.2.2.2.1 u.2.2.2.2.2) (((Y.1, Y.2.1, Y.2.2.1, Y.2.2.2.1, Y.2.2.2.2.1, cq, Y.2.2.2.2.2.2.1, Y.2.2.2.2.2.2.2.1, Y.2.2.2.2.2.2.2.2.1, Y.2.2.2.2.2.2.2.2.2.1, Y.2.2.2.2.2.2.2.2.2.2), pa, kp, tl, wr, tw)) hx hb hr hlk hS hP hD ?_ dX12_copied_356
                              exact ⟨0, (Y.1, Y.2.1, Y.2.2.1, Y.2.2.2.1, Y.2.2.2.2.1, cq, Y.2.2.2.2.2.2.1, Y.2.2.2.2.2.2.2.1, Y.2.2.2.2.2.2.2.2.1, Y.2.2.2.2.2.2.2.2.2.1, Y.2.2.2.2.2.2.2.2.2.2), pa, kp, tl, wr, tw, rfl, rfl, (by subst hu; subst hrz; subst pre6; exact ra_w (by rw [← cpB_full]; rw [hke] at q2; first | exact q2 | (rw [Nat.sub_self] at q2; exact q2)) ⟨rfl, rfl, rfl, rfl⟩ hcnt htl rfl)⟩
                            · show _
                              have hkn := k1_lt q0 (by assumption)
                              have hd9 : ¬ ((n0 - 1) - kq) < 0 ∧ ¬ n0 ≤ ((n0 - 1) - kq) ∧ (((n0 - 1) - kq)).toNatClampNeg = n0.toNatClampNeg - (kq.toNatClampNeg + 1) := bd_ok q0 (by assumption)
                              have ha1 := sp_add hd9.1 hd9.2.1 gp1 hl1
                              have ha2 := sp_add hd9.1 hd9.2.1 gp2 hl2
                              have hvs := rv_shelf (P := pRc P y2 (cpB (P.2.2.2.2.2.2.2 y1) (P.2.2.2.2.2.2.2 y2) i0.toNatClampNeg j0.toNatClampNeg (n0.toNatClampNeg - kq.toNatClampNeg) n0.toNatClampNeg)) q2 n1t1 n2t1 n3t1 gk1 gy1
                              have hvt := rv_shelf (P := pRc P y2 (cpB (P.2.2.2.2.2.2.2 y1) (P.2.2.2.2.2.2.2 y2) i0.toNatClampNeg j0.toNatClampNeg (n0.toNatClampNeg - kq.toNatClampNeg) n0.toNatClampNeg)) q2 n1t2 n2t2 n3t2 gk2 gy2
                              have hx9 := hvs.2.2.2 _ ha1.2.2
                              have hcr9 : va_up P.2.2.2.2.2.2.2 y2 (cpB (P.2.2.2.2.2.2.2 y1) (P.2.2.2.2.2.2.2 y2) i0.toNatClampNeg j0.toNatClampNeg (n0.toNatClampNeg - kq.toNatClampNeg) n0.toNatClampNeg) y1 (i0 + ((n0 - 1) - kq)).toNatClampNeg = P.2.2.2.2.2.2.2 y1 (i0.toNatClampNeg + (((n0 - 1) - kq)).toNatClampNeg) := by rw [ha1.2.1]; exact cp_rd (fun e9 => by have := ge_lt (show ¬ j0 ≤ i0 by assumption) gp1.1 gp2.1; have := hd9.2.2; omega)
                              have ho9 : rLl Y.2.2.2.2.2.2.2.2.2.1 ρ (cq (Y.2.1 (pa a0.toNatClampNeg).toNatClampNeg + (i0 + ((n0 - 1) - kq))).toNatClampNeg) (P.2.2.2.2.2.2.2 y1 (i0.toNatClampNeg + (((n0 - 1) - kq)).toNatClampNeg)) := by have h9 := hx9.2; rw [show (pRc P y2 (cpB (P.2.2.2.2.2.2.2 y1) (P.2.2.2.2.2.2.2 y2) i0.toNatClampNeg j0.toNatClampNeg (n0.toNatClampNeg - kq.toNatClampNeg) n0.toNatClampNeg)).2.2.2.2.2.2.2 y1 _ = _ from hcr9] at h9; exact h9
                              have hwk : cWF pl (pRc P y2 (cpB (P.2.2.2.2.2.2.2 y1) (P.2.2.2.2.2.2.2 y2) i0.toNatClampNeg j0.toNatClampNeg (n0.toNatClampNeg - kq.toNatClampNeg) n0.toNatClampNeg)) := wf_rcS wf tht2.1 gk2 gy2 (cp_good wf tht1.1 tht2.1 gk1 gk2 gy1 gy2 (g8))
                              refine lv_iload hx hb dX12_copied_213 (lv_at hl 6 rfl) ?_
                              refine lv_if_eq (tgt := 228) hx hb dX12_copied_215 (by decide) (fun c9 => absurd c9 (by decide)) (fun _ => ?_)
                              refine lv_iload hx hb dX12_copied_218 (lv_at hl 3 rfl) ?_
                              refine lv_iconst (v := 1) hx hb dX12_copied_220 (by decide) ?_
                              refine lv_isub hx hb dX12_copied_221 ?_
                              refine lv_iload hx hb dX12_copied_222 (lv_at hl 7 rfl) ?_
                              refine lv_isub hx hb dX12_copied_224 ?_
                              refine lv_goto (tgt := 230) hx hb dX12_copied_225 (by decide) ?_
                              refine lv_istore (lv' := [(10, .int ((n0 - 1) - kq)), (0, .ref (g 8)), (3, .int i0), (4, .int j0), (5, .int n0), (6, .int (pa a0.toNatClampNeg)), (7, .int (pa b0.toNatClampNeg)), (8, .int 1), (9, .int kq)]) hx hb dX12_copied_230 hl (by decide) rfl (fun ls hl => ?_)
                              refine lv_aload_n hx hb dX12_copied_232 rfl (lv_at hl 1 rfl) ?_
                              refine lv_iload hx hb dX12_copied_233 (lv_at hl 5 rfl) ?_
                              refine lv_iload_n hx hb dX12_copied_235 rfl (lv_at hl 2 rfl) ?_
                              refine lv_iload hx hb dX12_copied_236 (lv_at hl 0 rfl) ?_
                              refine lv_iadd hx hb dX12_copied_238 ?_
                              refine cV_l (C := RX12) (n := 2) (rest := []) hx hb hml hown hg hT (c_X12_cell l dC dI g ty H.size (Y.1, Y.2.1, Y.2.2.1, Y.2.2.2.1, Y.2.2.2.2.1, cq, Y.2.2.2.2.2.2.1, Y.2.2.2.2.2.2.2.1, Y.2.2.2.2.2.2.2.2.1, Y.2.2.2.2.2.2.2.2.2.1, Y.2.2.2.2.2.2.2.2.2.2) pa kp ks I tl ac wr tw (pa a0.toNatClampNeg) (i0 + ((n0 - 1) - kq)) (by exact hvs.1) (by exact hx9.1)) (cv_of hg wM_X12_140 wN_X12_cell wL_X12_X12_cell wK_X12_cell wI_X12 (by decide +kernel) ⟨Nat.le_of_ble_eq_true rfl, Nat.le_of_ble_eq_true rfl⟩) hK hP hD hS hA (va_recv hK hP (ci := 14) (q0 := 0) rfl rfl) rfl hl.1 rfl (Nat.le_of_ble_eq_true rfl) dX12_copied_239 ⟨Nat.le_of_ble_eq_true rfl, Nat.le_of_ble_eq_true rfl⟩ (fun r_394 u_395 H locs q_393 hP hD hS => ?_)
                              obtain rfl := q_393
                              have hP : va_P (dC, dI) vwCl (rW g ty (Y.1, Y.2.1, Y.2.2.1, Y.2.2.2.1, Y.2.2.2.2.1, cq, Y.2.2.2.2.2.2.1, Y.2.2.2.2.2.2.2.1, Y.2.2.2.2.2.2.2.2.1, Y.2.2.2.2.2.2.2.2.2.1, Y.2.2.2.2.2.2.2.2.2.2) pa kp ks I tl ac wr tw) H := hP
                              have hD : va_D A (rW g ty (Y.1, Y.2.1, Y.2.2.1, Y.2.2.2.1, Y.2.2.2.2.1, cq, Y.2.2.2.2.2.2.1, Y.2.2.2.2.2.2.2.1, Y.2.2.2.2.2.2.2.2.1, Y.2.2.2.2.2.2.2.2.2.1, Y.2.2.2.2.2.2.2.2.2.2) pa kp ks I tl ac wr tw) := hD
                              refine lv_topl (fun v9 ev90 => ?_)
                              have ev9 : v9 = cq (Y.2.1 (pa a0.toNatClampNeg).toNatClampNeg + (i0 + ((n0 - 1) - kq))).toNatClampNeg := ev90
                              rw [← ev9] at ho9
                              refine lv_lstore (lv' := [(11, .long v9), (10, .int ((n0 - 1) - kq)), (0, .ref (g 8)), (3, .int i0), (4, .int j0), (5, .int n0), (6, .int (pa a0.toNatClampNeg)), (7, .int (pa b0.toNatClampNeg)), (8, .int 1), (9, .int kq)]) hx hb dX12_copied_242 hl (by decide) rfl (fun ls hl => ?_)
                              refine lv_aload_n hx hb dX12_copied_244 rfl (lv_at hl 2 rfl) ?_
                              refine va_get (D := (dC, dI)) (ci := 14) (v := .ref (Y.2.2.2.2.2.2.1 0)) (C := RX12) (T := TX12) (N := 21) hx hb hg inG12 hown hK hP 0 rfl rfl 0 (by decide) (hg _ wF_X12_7) (fun _ h9 => h9) rfl dX12_copied_245 ?_
                              refine lv_iload hx hb dX12_copied_248 (lv_at hl 7 rfl) ?_
                              refine va_iald hx hb hK hP 1 0 rfl rfl (by exact hin2) dX12_copied_250 ?_
                              refine lv_bipush (v := 8) hx hb dX12_copied_251 (by decide) ?_
                              refine lv_icmp_lt (tgt := 336) hx hb dX12_copied_253 (by decide) (fun c9 => absurd c9 hcs.2.2.2.2) (fun _ => ?_)
                              refine lv_lload hx hb dX12_copied_256 (lv_at hl 0 rfl) ?_
                              refine lv_lconst (v := 0) hx hb dX12_copied_258 (by decide) ?_
                              refine W.lcmp hx hb dX12_copied_259 ?_
                              refine lv_if_eq (tgt := 336) hx hb dX12_copied_260 (by decide) (fun c_396 => ?_) (fun c_396 => ?_)
                              · show _
                                refine lv_aload_n hx hb dX12_copied_336 rfl (lv_at hl 2 rfl) ?_
                                refine lv_iload hx hb dX12_copied_337 (lv_at hl 7 rfl) ?_
                                refine lv_iload hx hb dX12_copied_339 (lv_at hl 4 rfl) ?_
                                refine lv_iload hx hb dX12_copied_341 (lv_at hl 1 rfl) ?_
                                refine lv_iadd hx hb dX12_copied_343 ?_
                                refine lv_lload hx hb dX12_copied_344 (lv_at hl 0 rfl) ?_
                                refine cV_v (C := RX12) (n := 3) (rest := []) hx hb hml hown hg hT (c_X12_put l dC dI g ty H.size (Y.1, Y.2.1, Y.2.2.1, Y.2.2.2.1, Y.2.2.2.2.1, cq, Y.2.2.2.2.2.2.1, Y.2.2.2.2.2.2.2.1, Y.2.2.2.2.2.2.2.2.1, Y.2.2.2.2.2.2.2.2.2.1, Y.2.2.2.2.2.2.2.2.2.2) pa kp ks I tl ac wr tw (pa b0.toNatClampNeg) (j0 + ((n0 - 1) - kq)) v9 (by exact hvt.1) (by exact (hvt.2.2.2 _ ha2.2.2).1)) (cv_of hg wM_X12_151 wN_X12_put wL_X12_X12_put wK_X12_put wI_X12 (by decide +kernel) ⟨Nat.le_of_ble_eq_true rfl, Nat.le_of_ble_eq_true rfl⟩) hK hP hD hS hA (va_recv hK hP (ci := 14) (q0 := 0) rfl rfl) rfl hl.1 rfl (Nat.le_of_ble_eq_true rfl) dX12_copied_346 ⟨Nat.le_of_ble_eq_true rfl, Nat.le_of_ble_eq_true rfl⟩ (fun u_399 H locs q_397 hP hD hS => ?_)
                                obtain rfl := q_397
                                have hP : va_P (dC, dI) vwCl (rW g ty (Y.1, Y.2.1, Y.2.2.1, Y.2.2.2.1, Y.2.2.2.2.1, (vp_updL cq (Y.2.1 (pa b0.toNatClampNeg).toNatClampNeg + (j0 + ((n0 - 1) - kq))).toNatClampNeg v9), Y.2.2.2.2.2.2.1, Y.2.2.2.2.2.2.2.1, Y.2.2.2.2.2.2.2.2.1, Y.2.2.2.2.2.2.2.2.2.1, Y.2.2.2.2.2.2.2.2.2.2) pa kp ks I tl ac wr tw) H := hP
                                have hD : va_D A (rW g ty (Y.1, Y.2.1, Y.2.2.1, Y.2.2.2.1, Y.2.2.2.2.1, (vp_updL cq (Y.2.1 (pa b0.toNatClampNeg).toNatClampNeg + (j0 + ((n0 - 1) - kq))).toNatClampNeg v9), Y.2.2.2.2.2.2.1, Y.2.2.2.2.2.2.2.1, Y.2.2.2.2.2.2.2.2.1, Y.2.2.2.2.2.2.2.2.2.1, Y.2.2.2.2.2.2.2.2.2.2) pa kp ks I tl ac wr tw) := hD
                                refine lv_iinc (v := (kq + 1)) (lv' := [(9, .int (kq + 1)), (11, .long v9), (10, .int ((n0 - 1) - kq)), (0, .ref (g 8)), (3, .int i0), (4, .int j0), (5, .int n0), (6, .int (pa a0.toNatClampNeg)), (7, .int (pa b0.toNatClampNeg)), (8, .int 1)]) hx hb dX12_copied_349 hl (k := 9) rfl rfl (by decide) rfl (fun ls hl => ?_)
                                refine lv_goto (tgt := 206) hx hb dX12_copied_352 (by decide) ?_
                                have hup := up1_clamp q0 (by assumption)
                                have hw9 := rw_shelf (P := pRc P y2 (cpB (P.2.2.2.2.2.2.2 y1) (P.2.2.2.2.2.2.2 y2) i0.toNatClampNeg j0.toNatClampNeg (n0.toNatClampNeg - kq.toNatClampNeg) n0.toNatClampNeg)) hwk q2 n1t2 n2t2 n3t2 gk2 gy2 ha2.2.2 (x := v9) ho9 rfl
                                have e9 : pRc (pRc P y2 (cpB (P.2.2.2.2.2.2.2 y1) (P.2.2.2.2.2.2.2 y2) i0.toNatClampNeg j0.toNatClampNeg (n0.toNatClampNeg - kq.toNatClampNeg) n0.toNatClampNeg)) y2 (va_up ((pRc P y2 (cpB (P.2.2.2.2.2.2.2 y1) (P.2.2.2.2.2.2.2 y2) i0.toNatClampNeg j0.toNatClampNeg (n0.toNatClampNeg - kq.toNatClampNeg) n0.toNatClampNeg)).2.2.2.2.2.2.2 y2) (j0 + ((n0 - 1) - kq)).toNatClampNeg (P.2.2.2.2.2.2.2 y1 (i0.toNatClampNeg + ((n0 - 1) - kq).toNatClampNeg))) = pRc P y2 (cpB (P.2.2.2.2.2.2.2 y1) (P.2.2.2.2.2.2.2 y2) i0.toNatClampNeg j0.toNatClampNeg (n0.toNatClampNeg - (kq + 1).toNatClampNeg) n0.toNatClampNeg) := by
                                  rw [pRc_pRc, ha2.2.1, show (pRc P y2 (cpB (P.2.2.2.2.2.2.2 y1) (P.2.2.2.2.2.2.2 y2) i0.toNatClampNeg j0.toNatClampNeg (n0.toNatClampNeg - kq.toNatClampNeg) n0.toNatClampNeg)).2.2.2.2.2.2.2 y2 = cpB (P.2.2.2.2.2.2.2 y1) (P.2.2.2.2.2.2.2 y2) i0.toNatClampNeg j0.toNatClampNeg (n0.toNatClampNeg - kq.toNatClampNeg) n0.toNatClampNeg from va_up_self _ _ _, hup]
                                  rw [hd9.2.2, show n0.toNatClampNeg - kq.toNatClampNeg = n0.toNatClampNeg - (kq.toNatClampNeg + 1) + 1 by omega, cpB_dn _ _ (by omega)]
                                exact IH206 _ (by rw [← hN206]; exact th_dec q0 (by assumption)) (kq + 1) (vp_updL cq (Y.2.1 (pa b0.toNatClampNeg).toNatClampNeg + (j0 + ((n0 - 1) - kq))).toNatClampNeg v9) _ _ _ rfl (by exact k1_nn q0 (by assumption)) (by exact k1_le (by assumption)) (by rw [← e9]; exact hw9) hP hD hS (lv_sub hl [3, 4, 5, 6, 7, 8, 9, 0] rfl)
                              · show _
                                obtain ⟨z9, ez9, hz1, hz2, hz3⟩ := ll_nz ho9 (by assumption)
                                refine lv_aload_n hx hb dX12_copied_263 rfl (lv_at hl 2 rfl) ?_
                                refine lv_lload hx hb dX12_copied_264 (lv_at hl 0 rfl) ?_
                                refine lv_l2i (v := (v9.toInt32)) hx hb dX12_copied_266 rfl ?_
                                refine lv_aload_n hx hb dX12_copied_267 rfl (lv_at hl 2 rfl) ?_
                                refine va_get (D := (dC, dI)) (ci := 14) (v := .ref (Y.2.2.2.2.2.2.1 0)) (C := RX12) (T := TX12) (N := 21) hx hb hg inG12 hown hK hP 0 rfl rfl 0 (by decide) (hg _ wF_X12_7) (fun _ h9 => h9) rfl dX12_copied_268 ?_
                                refine lv_iload hx hb dX12_copied_271 (lv_at hl 7 rfl) ?_
                                refine va_iald hx hb hK hP 1 0 rfl rfl (by exact hin2) dX12_copied_273 ?_
                                refine lv_bipush (v := 8) hx hb dX12_copied_274 (by decide) ?_
                                refine lv_icmp_ne (tgt := 283) hx hb dX12_copied_276 (by decide) (fun c_400 => ?_) (fun c_400 => ?_)
                                · show _
                                  refine lv_aload_n hx hb dX12_copied_283 rfl (lv_at hl 2 rfl) ?_
                                  refine va_get (D := (dC, dI)) (ci := 14) (v := .ref (Y.2.2.2.2.2.2.1 0)) (C := RX12) (T := TX12) (N := 21) hx hb hg inG12 hown hK hP 0 rfl rfl 0 (by decide) (hg _ wF_X12_7) (fun _ h9 => h9) rfl dX12_copied_284 ?_
                                  refine lv_iload hx hb dX12_copied_287 (lv_at hl 7 rfl) ?_
                                  refine va_iald hx hb hK hP 1 0 rfl rfl (by exact hin2) dX12_copied_289 ?_
                                  refine lv_bipush (v := 9) hx hb dX12_copied_290 (by decide) ?_
                                  refine lv_icmp_ne (tgt := 300) hx hb dX12_copied_292 (by decide) (fun c_401 => ?_) (fun c_401 => ?_)
                                  · show _
                                    refine lv_aload_n hx hb dX12_copied_300 rfl (lv_at hl 2 rfl) ?_
                                    refine va_get (D := (dC, dI)) (ci := 14) (v := .ref (Y.2.2.2.2.2.2.1 0)) (C := RX12) (T := TX12) (N := 21) hx hb hg inG12 hown hK hP 0 rfl rfl 0 (by decide) (hg _ wF_X12_7) (fun _ h9 => h9) rfl dX12_copied_301 ?_
                                    refine lv_iload hx hb dX12_copied_304 (lv_at hl 7 rfl) ?_
                                    refine va_iald hx hb hK hP 1 0 rfl rfl (by exact hin2) dX12_copied_306 ?_
                                    refine lv_bipush (v := 10) hx hb dX12_copied_307 (by decide) ?_
                                    refine lv_icmp_ne (tgt := 317) hx hb dX12_copied_309 (by decide) (fun c_402 => ?_) (fun c_402 => ?_)
                                    · show _
                                      refine lv_bipush (v := 14) hx hb dX12_copied_317 (by decide) ?_
                                      have hrim := (rim_8 wf tht2.1 gk2 hsr2).2.2.2 c_400 c_401 c_402
                                      have hkt : kOf (P.2.1 z9) (P.2.2.1 z9) (P.2.2.2.1 t2) = true := g8 ▸ wf.2.2.2.2.2.2.2.2.1 t1 y1 _ z9 tht1.1 gk1 gy1 ez9
                                      have hi9 : ¬ (if (v9.toInt32) = 0 then 0 else rIs (Y.1 (v9.toInt32).toNatClampNeg) 14) = 0 := fun e9 => by have h8 := (isv_iff rel wf hz1 hz2 hz3 (s0 := 14) (i32_in (by decide) (by decide))).mp e9; rw [← hrim] at h8; exact absurd (h8.symm.trans hkt) (by decide)
                                      refine cV_i (C := RX12) (n := 2) (rest := []) hx hb hml hown hg hT (c_X12_is l dC dI g ty H.size (Y.1, Y.2.1, Y.2.2.1, Y.2.2.2.1, Y.2.2.2.2.1, cq, Y.2.2.2.2.2.2.1, Y.2.2.2.2.2.2.2.1, Y.2.2.2.2.2.2.2.2.1, Y.2.2.2.2.2.2.2.2.2.1, Y.2.2.2.2.2.2.2.2.2.2) pa kp ks I tl ac wr tw (v9.toInt32) 14 (by exact Or.inr (rk_in rel hz1 hz2).1)) (cv_of hg wM_X12_86 wN_X12_is wL_X12_X12_is wK_X12_is wI_X12 (by decide +kernel) ⟨Nat.le_of_ble_eq_true rfl, Nat.le_of_ble_eq_true rfl⟩) hK hP hD hS hA (va_recv hK hP (ci := 14) (q0 := 0) rfl rfl) rfl hl.1 rfl (Nat.le_of_ble_eq_true rfl) dX12_copied_319 ⟨Nat.le_of_ble_eq_true rfl, Nat.le_of_ble_eq_true rfl⟩ (fun r_404 u_405 H locs q_403 hP hD hS => ?_)
                                      obtain rfl := q_403
                                      have hP : va_P (dC, dI) vwCl (rW g ty (Y.1, Y.2.1, Y.2.2.1, Y.2.2.2.1, Y.2.2.2.2.1, cq, Y.2.2.2.2.2.2.1, Y.2.2.2.2.2.2.2.1, Y.2.2.2.2.2.2.2.2.1, Y.2.2.2.2.2.2.2.2.2.1, Y.2.2.2.2.2.2.2.2.2.2) pa kp ks I tl ac wr tw) H := hP
                                      have hD : va_D A (rW g ty (Y.1, Y.2.1, Y.2.2.1, Y.2.2.2.1, Y.2.2.2.2.1, cq, Y.2.2.2.2.2.2.1, Y.2.2.2.2.2.2.2.1, Y.2.2.2.2.2.2.2.2.1, Y.2.2.2.2.2.2.2.2.2.1, Y.2.2.2.2.2.2.2.2.2.2) pa kp ks I tl ac wr tw) := hD
                                      refine lv_if_ne (tgt := 336) hx hb dX12_copied_322 (by decide) (fun _ => ?_) (fun c9 => absurd c9 hi9)
                                      refine lv_aload_n hx hb dX12_copied_336 rfl (lv_at hl 2 rfl) ?_
                                      refine lv_iload hx hb dX12_copied_337 (lv_at hl 7 rfl) ?_
                                      refine lv_iload hx hb dX12_copied_339 (lv_at hl 4 rfl) ?_
                                      refine lv_iload hx hb dX12_copied_341 (lv_at hl 1 rfl) ?_
                                      refine lv_iadd hx hb dX12_copied_343 ?_
                                      refine lv_lload hx hb dX12_copied_344 (lv_at hl 0 rfl) ?_
                                      refine cV_v (C := RX12) (n := 3) (rest := []) hx hb hml hown hg hT (c_X12_put l dC dI g ty H.size (Y.1, Y.2.1, Y.2.2.1, Y.2.2.2.1, Y.2.2.2.2.1, cq, Y.2.2.2.2.2.2.1, Y.2.2.2.2.2.2.2.1, Y.2.2.2.2.2.2.2.2.1, Y.2.2.2.2.2.2.2.2.2.1, Y.2.2.2.2.2.2.2.2.2.2) pa kp ks I tl ac wr tw (pa b0.toNatClampNeg) (j0 + ((n0 - 1) - kq)) v9 (by exact hvt.1) (by exact (hvt.2.2.2 _ ha2.2.2).1)) (cv_of hg wM_X12_151 wN_X12_put wL_X12_X12_put wK_X12_put wI_X12 (by decide +kernel) ⟨Nat.le_of_ble_eq_true rfl, Nat.le_of_ble_eq_true rfl⟩) hK hP hD hS hA (va_recv hK hP (ci := 14) (q0 := 0) rfl rfl) rfl hl.1 rfl (Nat.le_of_ble_eq_true rfl) dX12_copied_346 ⟨Nat.le_of_ble_eq_true rfl, Nat.le_of_ble_eq_true rfl⟩ (fun u_408 H locs q_406 hP hD hS => ?_)
                                      obtain rfl := q_406
                                      have hP : va_P (dC, dI) vwCl (rW g ty (Y.1, Y.2.1, Y.2.2.1, Y.2.2.2.1, Y.2.2.2.2.1, (vp_updL cq (Y.2.1 (pa b0.toNatClampNeg).toNatClampNeg + (j0 + ((n0 - 1) - kq))).toNatClampNeg v9), Y.2.2.2.2.2.2.1, Y.2.2.2.2.2.2.2.1, Y.2.2.2.2.2.2.2.2.1, Y.2.2.2.2.2.2.2.2.2.1, Y.2.2.2.2.2.2.2.2.2.2) pa kp ks I tl ac wr tw) H := hP
                                      have hD : va_D A (rW g ty (Y.1, Y.2.1, Y.2.2.1, Y.2.2.2.1, Y.2.2.2.2.1, (vp_updL cq (Y.2.1 (pa b0.toNatClampNeg).toNatClampNeg + (j0 + ((n0 - 1) - kq))).toNatClampNeg v9), Y.2.2.2.2.2.2.1, Y.2.2.2.2.2.2.2.1, Y.2.2.2.2.2.2.2.2.1, Y.2.2.2.2.2.2.2.2.2.1, Y.2.2.2.2.2.2.2.2.2.2) pa kp ks I tl ac wr tw) := hD
                                      refine lv_iinc (v := (kq + 1)) (lv' := [(9, .int (kq + 1)), (11, .long v9), (10, .int ((n0 - 1) - kq)), (0, .ref (g 8)), (3, .int i0), (4, .int j0), (5, .int n0), (6, .int (pa a0.toNatClampNeg)), (7, .int (pa b0.toNatClampNeg)), (8, .int 1)]) hx hb dX12_copied_349 hl (k := 9) rfl rfl (by decide) rfl (fun ls hl => ?_)
                                      refine lv_goto (tgt := 206) hx hb dX12_copied_352 (by decide) ?_
                                      have hup := up1_clamp q0 (by assumption)
                                      have hw9 := rw_shelf (P := pRc P y2 (cpB (P.2.2.2.2.2.2.2 y1) (P.2.2.2.2.2.2.2 y2) i0.toNatClampNeg j0.toNatClampNeg (n0.toNatClampNeg - kq.toNatClampNeg) n0.toNatClampNeg)) hwk q2 n1t2 n2t2 n3t2 gk2 gy2 ha2.2.2 (x := v9) ho9 rfl
                                      have e9 : pRc (pRc P y2 (cpB (P.2.2.2.2.2.2.2 y1) (P.2.2.2.2.2.2.2 y2) i0.toNatClampNeg j0.toNatClampNeg (n0.toNatClampNeg - kq.toNatClampNeg) n0.toNatClampNeg)) y2 (va_up ((pRc P y2 (cpB (P.2.2.2.2.2.2.2 y1) (P.2.2.2.2.2.2.2 y2) i0.toNatClampNeg j0.toNatClampNeg (n0.toNatClampNeg - kq.toNatClampNeg) n0.toNatClampNeg)).2.2.2.2.2.2.2 y2) (j0 + ((n0 - 1) - kq)).toNatClampNeg (P.2.2.2.2.2.2.2 y1 (i0.toNatClampNeg + ((n0 - 1) - kq).toNatClampNeg))) = pRc P y2 (cpB (P.2.2.2.2.2.2.2 y1) (P.2.2.2.2.2.2.2 y2) i0.toNatClampNeg j0.toNatClampNeg (n0.toNatClampNeg - (kq + 1).toNatClampNeg) n0.toNatClampNeg) := by
                                        rw [pRc_pRc, ha2.2.1, show (pRc P y2 (cpB (P.2.2.2.2.2.2.2 y1) (P.2.2.2.2.2.2.2 y2) i0.toNatClampNeg j0.toNatClampNeg (n0.toNatClampNeg - kq.toNatClampNeg) n0.toNatClampNeg)).2.2.2.2.2.2.2 y2 = cpB (P.2.2.2.2.2.2.2 y1) (P.2.2.2.2.2.2.2 y2) i0.toNatClampNeg j0.toNatClampNeg (n0.toNatClampNeg - kq.toNatClampNeg) n0.toNatClampNeg from va_up_self _ _ _, hup]
                                        rw [hd9.2.2, show n0.toNatClampNeg - kq.toNatClampNeg = n0.toNatClampNeg - (kq.toNatClampNeg + 1) + 1 by omega, cpB_dn _ _ (by omega)]
                                      exact IH206 _ (by rw [← hN206]; exact th_dec q0 (by assumption)) (kq + 1) (vp_updL cq (Y.2.1 (pa b0.toNatClampNeg).toNatClampNeg + (j0 + ((n0 - 1) - kq))).toNatClampNeg v9) _ _ _ rfl (by exact k1_nn q0 (by assumption)) (by exact k1_le (by assumption)) (by rw [← e9]; exact hw9) hP hD hS (lv_sub hl [3, 4, 5, 6, 7, 8, 9, 0] rfl)
                                    · show _
                                      refine lv_bipush (v := 13) hx hb dX12_copied_312 (by decide) ?_
                                      refine lv_goto (tgt := 319) hx hb dX12_copied_314 (by decide) ?_
                                      have hrim := (rim_8 wf tht2.1 gk2 hsr2).2.2.1 c_402
                                      have hkt : kOf (P.2.1 z9) (P.2.2.1 z9) (P.2.2.2.1 t2) = true := g8 ▸ wf.2.2.2.2.2.2.2.2.1 t1 y1 _ z9 tht1.1 gk1 gy1 ez9
                                      have hi9 : ¬ (if (v9.toInt32) = 0 then 0 else rIs (Y.1 (v9.toInt32).toNatClampNeg) 13) = 0 := fun e9 => by have h8 := (isv_iff rel wf hz1 hz2 hz3 (s0 := 13) (i32_in (by decide) (by decide))).mp e9; rw [← hrim] at h8; exact absurd (h8.symm.trans hkt) (by decide)
                                      refine cV_i (C := RX12) (n := 2) (rest := []) hx hb hml hown hg hT (c_X12_is l dC dI g ty H.size (Y.1, Y.2.1, Y.2.2.1, Y.2.2.2.1, Y.2.2.2.2.1, cq, Y.2.2.2.2.2.2.1, Y.2.2.2.2.2.2.2.1, Y.2.2.2.2.2.2.2.2.1, Y.2.2.2.2.2.2.2.2.2.1, Y.2.2.2.2.2.2.2.2.2.2) pa kp ks I tl ac wr tw (v9.toInt32) 13 (by exact Or.inr (rk_in rel hz1 hz2).1)) (cv_of hg wM_X12_86 wN_X12_is wL_X12_X12_is wK_X12_is wI_X12 (by decide +kernel) ⟨Nat.le_of_ble_eq_true rfl, Nat.le_of_ble_eq_true rfl⟩) hK hP hD hS hA (va_recv hK hP (ci := 14) (q0 := 0) rfl rfl) rfl hl.1 rfl (Nat.le_of_ble_eq_true rfl) dX12_copied_319 ⟨Nat.le_of_ble_eq_true rfl, Nat.le_of_ble_eq_true rfl⟩ (fun r_410 u_411 H locs q_409 hP hD hS => ?_)
                                      obtain rfl := q_409
                                      have hP : va_P (dC, dI) vwCl (rW g ty (Y.1, Y.2.1, Y.2.2.1, Y.2.2.2.1, Y.2.2.2.2.1, cq, Y.2.2.2.2.2.2.1, Y.2.2.2.2.2.2.2.1, Y.2.2.2.2.2.2.2.2.1, Y.2.2.2.2.2.2.2.2.2.1, Y.2.2.2.2.2.2.2.2.2.2) pa kp ks I tl ac wr tw) H := hP
                                      have hD : va_D A (rW g ty (Y.1, Y.2.1, Y.2.2.1, Y.2.2.2.1, Y.2.2.2.2.1, cq, Y.2.2.2.2.2.2.1, Y.2.2.2.2.2.2.2.1, Y.2.2.2.2.2.2.2.2.1, Y.2.2.2.2.2.2.2.2.2.1, Y.2.2.2.2.2.2.2.2.2.2) pa kp ks I tl ac wr tw) := hD
                                      refine lv_if_ne (tgt := 336) hx hb dX12_copied_322 (by decide) (fun _ => ?_) (fun c9 => absurd c9 hi9)
                                      refine lv_aload_n hx hb dX12_copied_336 rfl (lv_at hl 2 rfl) ?_
                                      refine lv_iload hx hb dX12_copied_337 (lv_at hl 7 rfl) ?_
                                      refine lv_iload hx hb dX12_copied_339 (lv_at hl 4 rfl) ?_
                                      refine lv_iload hx hb dX12_copied_341 (lv_at hl 1 rfl) ?_
                                      refine lv_iadd hx hb dX12_copied_343 ?_
                                      refine lv_lload hx hb dX12_copied_344 (lv_at hl 0 rfl) ?_
                                      refine cV_v (C := RX12) (n := 3) (rest := []) hx hb hml hown hg hT (c_X12_put l dC dI g ty H.size (Y.1, Y.2.1, Y.2.2.1, Y.2.2.2.1, Y.2.2.2.2.1, cq, Y.2.2.2.2.2.2.1, Y.2.2.2.2.2.2.2.1, Y.2.2.2.2.2.2.2.2.1, Y.2.2.2.2.2.2.2.2.2.1, Y.2.2.2.2.2.2.2.2.2.2) pa kp ks I tl ac wr tw (pa b0.toNatClampNeg) (j0 + ((n0 - 1) - kq)) v9 (by exact hvt.1) (by exact (hvt.2.2.2 _ ha2.2.2).1)) (cv_of hg wM_X12_151 wN_X12_put wL_X12_X12_put wK_X12_put wI_X12 (by decide +kernel) ⟨Nat.le_of_ble_eq_true rfl, Nat.le_of_ble_eq_true rfl⟩) hK hP hD hS hA (va_recv hK hP (ci := 14) (q0 := 0) rfl rfl) rfl hl.1 rfl (Nat.le_of_ble_eq_true rfl) dX12_copied_346 ⟨Nat.le_of_ble_eq_true rfl, Nat.le_of_ble_eq_true rfl⟩ (fun u_414 H locs q_412 hP hD hS => ?_)
                                      obtain rfl := q_412
                                      have hP : va_P (dC, dI) vwCl (rW g ty (Y.1, Y.2.1, Y.2.2.1, Y.2.2.2.1, Y.2.2.2.2.1, (vp_updL cq (Y.2.1 (pa b0.toNatClampNeg).toNatClampNeg + (j0 + ((n0 - 1) - kq))).toNatClampNeg v9), Y.2.2.2.2.2.2.1, Y.2.2.2.2.2.2.2.1, Y.2.2.2.2.2.2.2.2.1, Y.2.2.2.2.2.2.2.2.2.1, Y.2.2.2.2.2.2.2.2.2.2) pa kp ks I tl ac wr tw) H := hP
                                      have hD : va_D A (rW g ty (Y.1, Y.2.1, Y.2.2.1, Y.2.2.2.1, Y.2.2.2.2.1, (vp_updL cq (Y.2.1 (pa b0.toNatClampNeg).toNatClampNeg + (j0 + ((n0 - 1) - kq))).toNatClampNeg v9), Y.2.2.2.2.2.2.1, Y.2.2.2.2.2.2.2.1, Y.2.2.2.2.2.2.2.2.1, Y.2.2.2.2.2.2.2.2.2.1, Y.2.2.2.2.2.2.2.2.2.2) pa kp ks I tl ac wr tw) := hD
                                      refine lv_iinc (v := (kq + 1)) (lv' := [(9, .int (kq + 1)), (11, .long v9), (10, .int ((n0 - 1) - kq)), (0, .ref (g 8)), (3, .int i0), (4, .int j0), (5, .int n0), (6, .int (pa a0.toNatClampNeg)), (7, .int (pa b0.toNatClampNeg)), (8, .int 1)]) hx hb dX12_copied_349 hl (k := 9) rfl rfl (by decide) rfl (fun ls hl => ?_)
                                      refine lv_goto (tgt := 206) hx hb dX12_copied_352 (by decide) ?_
                                      have hup := up1_clamp q0 (by assumption)
                                      have hw9 := rw_shelf (P := pRc P y2 (cpB (P.2.2.2.2.2.2.2 y1) (P.2.2.2.2.2.2.2 y2) i0.toNatClampNeg j0.toNatClampNeg (n0.toNatClampNeg - kq.toNatClampNeg) n0.toNatClampNeg)) hwk q2 n1t2 n2t2 n3t2 gk2 gy2 ha2.2.2 (x := v9) ho9 rfl
                                      have e9 : pRc (pRc P y2 (cpB (P.2.2.2.2.2.2.2 y1) (P.2.2.2.2.2.2.2 y2) i0.toNatClampNeg j0.toNatClampNeg (n0.toNatClampNeg - kq.toNatClampNeg) n0.toNatClampNeg)) y2 (va_up ((pRc P y2 (cpB (P.2.2.2.2.2.2.2 y1) (P.2.2.2.2.2.2.2 y2) i0.toNatClampNeg j0.toNatClampNeg (n0.toNatClampNeg - kq.toNatClampNeg) n0.toNatClampNeg)).2.2.2.2.2.2.2 y2) (j0 + ((n0 - 1) - kq)).toNatClampNeg (P.2.2.2.2.2.2.2 y1 (i0.toNatClampNeg + ((n0 - 1) - kq).toNatClampNeg))) = pRc P y2 (cpB (P.2.2.2.2.2.2.2 y1) (P.2.2.2.2.2.2.2 y2) i0.toNatClampNeg j0.toNatClampNeg (n0.toNatClampNeg - (kq + 1).toNatClampNeg) n0.toNatClampNeg) := by
                                        rw [pRc_pRc, ha2.2.1, show (pRc P y2 (cpB (P.2.2.2.2.2.2.2 y1) (P.2.2.2.2.2.2.2 y2) i0.toNatClampNeg j0.toNatClampNeg (n0.toNatClampNeg - kq.toNatClampNeg) n0.toNatClampNeg)).2.2.2.2.2.2.2 y2 = cpB (P.2.2.2.2.2.2.2 y1) (P.2.2.2.2.2.2.2 y2) i0.toNatClampNeg j0.toNatClampNeg (n0.toNatClampNeg - kq.toNatClampNeg) n0.toNatClampNeg from va_up_self _ _ _, hup]
                                        rw [hd9.2.2, show n0.toNatClampNeg - kq.toNatClampNeg = n0.toNatClampNeg - (kq.toNatClampNeg + 1) + 1 by omega, cpB_dn _ _ (by omega)]
                                      exact IH206 _ (by rw [← hN206]; exact th_dec q0 (by assumption)) (kq + 1) (vp_updL cq (Y.2.1 (pa b0.toNatClampNeg).toNatClampNeg + (j0 + ((n0 - 1) - kq))).toNatClampNeg v9) _ _ _ rfl (by exact k1_nn q0 (by assumption)) (by exact k1_le (by assumption)) (by rw [← e9]; exact hw9) hP hD hS (lv_sub hl [3, 4, 5, 6, 7, 8, 9, 0] rfl)
                                  · show _
                                    refine lv_bipush (v := 12) hx hb dX12_copied_295 (by decide) ?_
                                    refine lv_goto (tgt := 319) hx hb dX12_copied_297 (by decide) ?_
                                    have hrim := (rim_8 wf tht2.1 gk2 hsr2).2.1 c_401
                                    have hkt : kOf (P.2.1 z9) (P.2.2.1 z9) (P.2.2.2.1 t2) = true := g8 ▸ wf.2.2.2.2.2.2.2.2.1 t1 y1 _ z9 tht1.1 gk1 gy1 ez9
                                    have hi9 : ¬ (if (v9.toInt32) = 0 then 0 else rIs (Y.1 (v9.toInt32).toNatClampNeg) 12) = 0 := fun e9 => by have h8 := (isv_iff rel wf hz1 hz2 hz3 (s0 := 12) (i32_in (by decide) (by decide))).mp e9; rw [← hrim] at h8; exact absurd (h8.symm.trans hkt) (by decide)
                                    refine cV_i (C := RX12) (n := 2) (rest := []) hx hb hml hown hg hT (c_X12_is l dC dI g ty H.size (Y.1, Y.2.1, Y.2.2.1, Y.2.2.2.1, Y.2.2.2.2.1, cq, Y.2.2.2.2.2.2.1, Y.2.2.2.2.2.2.2.1, Y.2.2.2.2.2.2.2.2.1, Y.2.2.2.2.2.2.2.2.2.1, Y.2.2.2.2.2.2.2.2.2.2) pa kp ks I tl ac wr tw (v9.toInt32) 12 (by exact Or.inr (rk_in rel hz1 hz2).1)) (cv_of hg wM_X12_86 wN_X12_is wL_X12_X12_is wK_X12_is wI_X12 (by decide +kernel) ⟨Nat.le_of_ble_eq_true rfl, Nat.le_of_ble_eq_true rfl⟩) hK hP hD hS hA (va_recv hK hP (ci := 14) (q0 := 0) rfl rfl) rfl hl.1 rfl (Nat.le_of_ble_eq_true rfl) dX12_copied_319 ⟨Nat.le_of_ble_eq_true rfl, Nat.le_of_ble_eq_true rfl⟩ (fun r_416 u_417 H locs q_415 hP hD hS => ?_)
                                    obtain rfl := q_415
                                    have hP : va_P (dC, dI) vwCl (rW g ty (Y.1, Y.2.1, Y.2.2.1, Y.2.2.2.1, Y.2.2.2.2.1, cq, Y.2.2.2.2.2.2.1, Y.2.2.2.2.2.2.2.1, Y.2.2.2.2.2.2.2.2.1, Y.2.2.2.2.2.2.2.2.2.1, Y.2.2.2.2.2.2.2.2.2.2) pa kp ks I tl ac wr tw) H := hP
                                    have hD : va_D A (rW g ty (Y.1, Y.2.1, Y.2.2.1, Y.2.2.2.1, Y.2.2.2.2.1, cq, Y.2.2.2.2.2.2.1, Y.2.2.2.2.2.2.2.1, Y.2.2.2.2.2.2.2.2.1, Y.2.2.2.2.2.2.2.2.2.1, Y.2.2.2.2.2.2.2.2.2.2) pa kp ks I tl ac wr tw) := hD
                                    refine lv_if_ne (tgt := 336) hx hb dX12_copied_322 (by decide) (fun _ => ?_) (fun c9 => absurd c9 hi9)
                                    refine lv_aload_n hx hb dX12_copied_336 rfl (lv_at hl 2 rfl) ?_
                                    refine lv_iload hx hb dX12_copied_337 (lv_at hl 7 rfl) ?_
                                    refine lv_iload hx hb dX12_copied_339 (lv_at hl 4 rfl) ?_
                                    refine lv_iload hx hb dX12_copied_341 (lv_at hl 1 rfl) ?_
                                    refine lv_iadd hx hb dX12_copied_343 ?_
                                    refine lv_lload hx hb dX12_copied_344 (lv_at hl 0 rfl) ?_
                                    refine cV_v (C := RX12) (n := 3) (rest := []) hx hb hml hown hg hT (c_X12_put l dC dI g ty H.size (Y.1, Y.2.1, Y.2.2.1, Y.2.2.2.1, Y.2.2.2.2.1, cq, Y.2.2.2.2.2.2.1, Y.2.2.2.2.2.2.2.1, Y.2.2.2.2.2.2.2.2.1, Y.2.2.2.2.2.2.2.2.2.1, Y.2.2.2.2.2.2.2.2.2.2) pa kp ks I tl ac wr tw (pa b0.toNatClampNeg) (j0 + ((n0 - 1) - kq)) v9 (by exact hvt.1) (by exact (hvt.2.2.2 _ ha2.2.2).1)) (cv_of hg wM_X12_151 wN_X12_put wL_X12_X12_put wK_X12_put wI_X12 (by decide +kernel) ⟨Nat.le_of_ble_eq_true rfl, Nat.le_of_ble_eq_true rfl⟩) hK hP hD hS hA (va_recv hK hP (ci := 14) (q0 := 0) rfl rfl) rfl hl.1 rfl (Nat.le_of_ble_eq_true rfl) dX12_copied_346 ⟨Nat.le_of_ble_eq_true rfl, Nat.le_of_ble_eq_true rfl⟩ (fun u_420 H locs q_418 hP hD hS => ?_)
                                    obtain rfl := q_418
                                    have hP : va_P (dC, dI) vwCl (rW g ty (Y.1, Y.2.1, Y.2.2.1, Y.2.2.2.1, Y.2.2.2.2.1, (vp_updL cq (Y.2.1 (pa b0.toNatClampNeg).toNatClampNeg + (j0 + ((n0 - 1) - kq))).toNatClampNeg v9), Y.2.2.2.2.2.2.1, Y.2.2.2.2.2.2.2.1, Y.2.2.2.2.2.2.2.2.1, Y.2.2.2.2.2.2.2.2.2.1, Y.2.2.2.2.2.2.2.2.2.2) pa kp ks I tl ac wr tw) H := hP
                                    have hD : va_D A (rW g ty (Y.1, Y.2.1, Y.2.2.1, Y.2.2.2.1, Y.2.2.2.2.1, (vp_updL cq (Y.2.1 (pa b0.toNatClampNeg).toNatClampNeg + (j0 + ((n0 - 1) - kq))).toNatClampNeg v9), Y.2.2.2.2.2.2.1, Y.2.2.2.2.2.2.2.1, Y.2.2.2.2.2.2.2.2.1, Y.2.2.2.2.2.2.2.2.2.1, Y.2.2.2.2.2.2.2.2.2.2) pa kp ks I tl ac wr tw) := hD
                                    refine lv_iinc (v := (kq + 1)) (lv' := [(9, .int (kq + 1)), (11, .long v9), (10, .int ((n0 - 1) - kq)), (0, .ref (g 8)), (3, .int i0), (4, .int j0), (5, .int n0), (6, .int (pa a0.toNatClampNeg)), (7, .int (pa b0.toNatClampNeg)), (8, .int 1)]) hx hb dX12_copied_349 hl (k := 9) rfl rfl (by decide) rfl (fun ls hl => ?_)
                                    refine lv_goto (tgt := 206) hx hb dX12_copied_352 (by decide) ?_
                                    have hup := up1_clamp q0 (by assumption)
                                    have hw9 := rw_shelf (P := pRc P y2 (cpB (P.2.2.2.2.2.2.2 y1) (P.2.2.2.2.2.2.2 y2) i0.toNatClampNeg j0.toNatClampNeg (n0.toNatClampNeg - kq.toNatClampNeg) n0.toNatClampNeg)) hwk q2 n1t2 n2t2 n3t2 gk2 gy2 ha2.2.2 (x := v9) ho9 rfl
                                    have e9 : pRc (pRc P y2 (cpB (P.2.2.2.2.2.2.2 y1) (P.2.2.2.2.2.2.2 y2) i0.toNatClampNeg j0.toNatClampNeg (n0.toNatClampNeg - kq.toNatClampNeg) n0.toNatClampNeg)) y2 (va_up ((pRc P y2 (cpB (P.2.2.2.2.2.2.2 y1) (P.2.2.2.2.2.2.2 y2) i0.toNatClampNeg j0.toNatClampNeg (n0.toNatClampNeg - kq.toNatClampNeg) n0.toNatClampNeg)).2.2.2.2.2.2.2 y2) (j0 + ((n0 - 1) - kq)).toNatClampNeg (P.2.2.2.2.2.2.2 y1 (i0.toNatClampNeg + ((n0 - 1) - kq).toNatClampNeg))) = pRc P y2 (cpB (P.2.2.2.2.2.2.2 y1) (P.2.2.2.2.2.2.2 y2) i0.toNatClampNeg j0.toNatClampNeg (n0.toNatClampNeg - (kq + 1).toNatClampNeg) n0.toNatClampNeg) := by
                                      rw [pRc_pRc, ha2.2.1, show (pRc P y2 (cpB (P.2.2.2.2.2.2.2 y1) (P.2.2.2.2.2.2.2 y2) i0.toNatClampNeg j0.toNatClampNeg (n0.toNatClampNeg - kq.toNatClampNeg) n0.toNatClampNeg)).2.2.2.2.2.2.2 y2 = cpB (P.2.2.2.2.2.2.2 y1) (P.2.2.2.2.2.2.2 y2) i0.toNatClampNeg j0.toNatClampNeg (n0.toNatClampNeg - kq.toNatClampNeg) n0.toNatClampNeg from va_up_self _ _ _, hup]
                                      rw [hd9.2.2, show n0.toNatClampNeg - kq.toNatClampNeg = n0.toNatClampNeg - (kq.toNatClampNeg + 1) + 1 by omega, cpB_dn _ _ (by omega)]
                                    exact IH206 _ (by rw [← hN206]; exact th_dec q0 (by assumption)) (kq + 1) (vp_updL cq (Y.2.1 (pa b0.toNatClampNeg).toNatClampNeg + (j0 + ((n0 - 1) - kq))).toNatClampNeg v9) _ _ _ rfl (by exact k1_nn q0 (by assumption)) (by exact k1_le (by assumption)) (by rw [← e9]; exact hw9) hP hD hS (lv_sub hl [3, 4, 5, 6, 7, 8, 9, 0] rfl)
                                · show _
                                  refine lv_iconst (v := 0) hx hb dX12_copied_279 (by decide) ?_
                                  refine lv_goto (tgt := 319) hx hb dX12_copied_280 (by decide) ?_
                                  have hrim := (rim_8 wf tht2.1 gk2 hsr2).1 c_400
                                  have hkt : kOf (P.2.1 z9) (P.2.2.1 z9) (P.2.2.2.1 t2) = true := g8 ▸ wf.2.2.2.2.2.2.2.2.1 t1 y1 _ z9 tht1.1 gk1 gy1 ez9
                                  have hi9 : ¬ (if (v9.toInt32) = 0 then 0 else rIs (Y.1 (v9.toInt32).toNatClampNeg) 0) = 0 := fun e9 => by have h8 := (isv_iff rel wf hz1 hz2 hz3 (s0 := 0) (i32_in (by decide) (by decide))).mp e9; rw [← hrim] at h8; exact absurd (h8.symm.trans hkt) (by decide)
                                  refine cV_i (C := RX12) (n := 2) (rest := []) hx hb hml hown hg hT (c_X12_is l dC dI g ty H.size (Y.1, Y.2.1, Y.2.2.1, Y.2.2.2.1, Y.2.2.2.2.1, cq, Y.2.2.2.2.2.2.1, Y.2.2.2.2.2.2.2.1, Y.2.2.2.2.2.2.2.2.1, Y.2.2.2.2.2.2.2.2.2.1, Y.2.2.2.2.2.2.2.2.2.2) pa kp ks I tl ac wr tw (v9.toInt32) 0 (by exact Or.inr (rk_in rel hz1 hz2).1)) (cv_of hg wM_X12_86 wN_X12_is wL_X12_X12_is wK_X12_is wI_X12 (by decide +kernel) ⟨Nat.le_of_ble_eq_true rfl, Nat.le_of_ble_eq_true rfl⟩) hK hP hD hS hA (va_recv hK hP (ci := 14) (q0 := 0) rfl rfl) rfl hl.1 rfl (Nat.le_of_ble_eq_true rfl) dX12_copied_319 ⟨Nat.le_of_ble_eq_true rfl, Nat.le_of_ble_eq_true rfl⟩ (fun r_422 u_423 H locs q_421 hP hD hS => ?_)
                                  obtain rfl := q_421
                                  have hP : va_P (dC, dI) vwCl (rW g ty (Y.1, Y.2.1, Y.2.2.1, Y.2.2.2.1, Y.2.2.2.2.1, cq, Y.2.2.2.2.2.2.1, Y.2.2.2.2.2.2.2.1, Y.2.2.2.2.2.2.2.2.1, Y.2.2.2.2.2.2.2.2.2.1, Y.2.2.2.2.2.2.2.2.2.2) pa kp ks I tl ac wr tw) H := hP
                                  have hD : va_D A (rW g ty (Y.1, Y.2.1, Y.2.2.1, Y.2.2.2.1, Y.2.2.2.2.1, cq, Y.2.2.2.2.2.2.1, Y.2.2.2.2.2.2.2.1, Y.2.2.2.2.2.2.2.2.1, Y.2.2.2.2.2.2.2.2.2.1, Y.2.2.2.2.2.2.2.2.2.2) pa kp ks I tl ac wr tw) := hD
                                  refine lv_if_ne (tgt := 336) hx hb dX12_copied_322 (by decide) (fun _ => ?_) (fun c9 => absurd c9 hi9)
                                  refine lv_aload_n hx hb dX12_copied_336 rfl (lv_at hl 2 rfl) ?_
                                  refine lv_iload hx hb dX12_copied_337 (lv_at hl 7 rfl) ?_
                                  refine lv_iload hx hb dX12_copied_339 (lv_at hl 4 rfl) ?_
                                  refine lv_iload hx hb dX12_copied_341 (lv_at hl 1 rfl) ?_
                                  refine lv_iadd hx hb dX12_copied_343 ?_
                                  refine lv_lload hx hb dX12_copied_344 (lv_at hl 0 rfl) ?_
                                  refine cV_v (C := RX12) (n := 3) (rest := []) hx hb hml hown hg hT (c_X12_put l dC dI g ty H.size (Y.1, Y.2.1, Y.2.2.1, Y.2.2.2.1, Y.2.2.2.2.1, cq, Y.2.2.2.2.2.2.1, Y.2.2.2.2.2.2.2.1, Y.2.2.2.2.2.2.2.2.1, Y.2.2.2.2.2.2.2.2.2.1, Y.2.2.2.2.2.2.2.2.2.2) pa kp ks I tl ac wr tw (pa b0.toNatClampNeg) (j0 + ((n0 - 1) - kq)) v9 (by exact hvt.1) (by exact (hvt.2.2.2 _ ha2.2.2).1)) (cv_of hg wM_X12_151 wN_X12_put wL_X12_X12_put wK_X12_put wI_X12 (by decide +kernel) ⟨Nat.le_of_ble_eq_true rfl, Nat.le_of_ble_eq_true rfl⟩) hK hP hD hS hA (va_recv hK hP (ci := 14) (q0 := 0) rfl rfl) rfl hl.1 rfl (Nat.le_of_ble_eq_true rfl) dX12_copied_346 ⟨Nat.le_of_ble_eq_true rfl, Nat.le_of_ble_eq_true rfl⟩ (fun u_426 H locs q_424 hP hD hS => ?_)
                                  obtain rfl := q_424
                                  have hP : va_P (dC, dI) vwCl (rW g ty (Y.1, Y.2.1, Y.2.2.1, Y.2.2.2.1, Y.2.2.2.2.1, (vp_updL cq (Y.2.1 (pa b0.toNatClampNeg).toNatClampNeg + (j0 + ((n0 - 1) - kq))).toNatClampNeg v9), Y.2.2.2.2.2.2.1, Y.2.2.2.2.2.2.2.1, Y.2.2.2.2.2.2.2.2.1, Y.2.2.2.2.2.2.2.2.2.1, Y.2.2.2.2.2.2.2.2.2.2) pa kp ks I tl ac wr tw) H := hP
                                  have hD : va_D A (rW g ty (Y.1, Y.2.1, Y.2.2.1, Y.2.2.2.1, Y.2.2.2.2.1, (vp_updL cq (Y.2.1 (pa b0.toNatClampNeg).toNatClampNeg + (j0 + ((n0 - 1) - kq))).toNatClampNeg v9), Y.2.2.2.2.2.2.1, Y.2.2.2.2.2.2.2.1, Y.2.2.2.2.2.2.2.2.1, Y.2.2.2.2.2.2.2.2.2.1, Y.2.2.2.2.2.2.2.2.2.2) pa kp ks I tl ac wr tw) := hD
                                  refine lv_iinc (v := (kq + 1)) (lv' := [(9, .int (kq + 1)), (11, .long v9), (10, .int ((n0 - 1) - kq)), (0, .ref (g 8)), (3, .int i0), (4, .int j0), (5, .int n0), (6, .int (pa a0.toNatClampNeg)), (7, .int (pa b0.toNatClampNeg)), (8, .int 1)]) hx hb dX12_copied_349 hl (k := 9) rfl rfl (by decide) rfl (fun ls hl => ?_)
                                  refine lv_goto (tgt := 206) hx hb dX12_copied_352 (by decide) ?_
                                  have hup := up1_clamp q0 (by assumption)
                                  have hw9 := rw_shelf (P := pRc P y2 (cpB (P.2.2.2.2.2.2.2 y1) (P.2.2.2.2.2.2.2 y2) i0.toNatClampNeg j0.toNatClampNeg (n0.toNatClampNeg - kq.toNatClampNeg) n0.toNatClampNeg)) hwk q2 n1t2 n2t2 n3t2 gk2 gy2 ha2.2.2 (x := v9) ho9 rfl
                                  have e9 : pRc (pRc P y2 (cpB (P.2.2.2.2.2.2.2 y1) (P.2.2.2.2.2.2.2 y2) i0.toNatClampNeg j0.toNatClampNeg (n0.toNatClampNeg - kq.toNatClampNeg) n0.toNatClampNeg)) y2 (va_up ((pRc P y2 (cpB (P.2.2.2.2.2.2.2 y1) (P.2.2.2.2.2.2.2 y2) i0.toNatClampNeg j0.toNatClampNeg (n0.toNatClampNeg - kq.toNatClampNeg) n0.toNatClampNeg)).2.2.2.2.2.2.2 y2) (j0 + ((n0 - 1) - kq)).toNatClampNeg (P.2.2.2.2.2.2.2 y1 (i0.toNatClampNeg + ((n0 - 1) - kq).toNatClampNeg))) = pRc P y2 (cpB (P.2.2.2.2.2.2.2 y1) (P.2.2.2.2.2.2.2 y2) i0.toNatClampNeg j0.toNatClampNeg (n0.toNatClampNeg - (kq + 1).toNatClampNeg) n0.toNatClampNeg) := by
                                    rw [pRc_pRc, ha2.2.1, show (pRc P y2 (cpB (P.2.2.2.2.2.2.2 y1) (P.2.2.2.2.2.2.2 y2) i0.toNatClampNeg j0.toNatClampNeg (n0.toNatClampNeg - kq.toNatClampNeg) n0.toNatClampNeg)).2.2.2.2.2.2.2 y2 = cpB (P.2.2.2.2.2.2.2 y1) (P.2.2.2.2.2.2.2 y2) i0.toNatClampNeg j0.toNatClampNeg (n0.toNatClampNeg - kq.toNatClampNeg) n0.toNatClampNeg from va_up_self _ _ _, hup]
                                    rw [hd9.2.2, show n0.toNatClampNeg - kq.toNatClampNeg = n0.toNatClampNeg - (kq.toNatClampNeg + 1) + 1 by omega, cpB_dn _ _ (by omega)]
                                  exact IH206 _ (by rw [← hN206]; exact th_dec q0 (by assumption)) (kq + 1) (vp_updL cq (Y.2.1 (pa b0.toNatClampNeg).toNatClampNeg + (j0 + ((n0 - 1) - kq))).toNatClampNeg v9) _ _ _ rfl (by exact k1_nn q0 (by assumption)) (by exact k1_le (by assumption)) (by rw [← e9]; exact hw9) hP hD hS (lv_sub hl [3, 4, 5, 6, 7, 8, 9, 0] rfl)
                        exact LOOP206 _ 0 Y.2.2.2.2.2.1 _ _ _ rfl (by decide) (by exact nn_of (by assumption)) (by rw [show (0 : Int32).toNatClampNeg = 0 from rfl, Nat.sub_zero, cpB_nil, pRc_self]; exact rel) hP hD hS (lv_sub hl [4, 7, 8, 9, 3, 2, 1, 0] rfl)
                    · show _
                      have hs1 := (sp_by (i := i0) (n := n0) (m := (Y.2.2.1 (pa a0.toNatClampNeg).toNatClampNeg)) g11.1 g11.2.1 ⟨by_lt pre8, by_lt pre10⟩ hv1.2.1).mpr (by rw [show (Y.2.2.1 (pa a0.toNatClampNeg).toNatClampNeg).toNatClampNeg = _ from hv1.2.2.1]; exact g11)
                      have hs2 := (sp_by (i := j0) (n := n0) (m := (Y.2.2.1 (pa b0.toNatClampNeg).toNatClampNeg)) g12.1 g12.2.1 ⟨by_lt pre9, by_lt pre10⟩ hv2.2.1).mpr (by rw [show (Y.2.2.1 (pa b0.toNatClampNeg).toNatClampNeg).toNatClampNeg = _ from hv2.2.2.1]; exact g12)
                      first | exact absurd (show i0 < 0 by assumption) g11.1 | exact absurd (show j0 < 0 by assumption) g12.1 | exact absurd (show n0 < 0 by assumption) g11.2.1 | exact absurd hs1 (ge_of (by assumption)) | exact absurd hs2 (by assumption)
  · show _
    obtain ⟨n1t1, n2t1, n3t1⟩ := rk_some rel g2 g4
    have hnet1 := (i32_pos n1t1).2.1
    have tht1 := wf.1 _ _ g4
    obtain ⟨n1t2, n2t2, n3t2⟩ := rk_some rel g3 g5
    have hnet2 := (i32_pos n1t2).2.1
    have tht2 := wf.1 _ _ g5
    have hsr1 := rv_sr rel n1t1 n2t1 n3t1
    have hsr2 := rv_sr rel n1t2 n2t2 n3t2
    have hck := cp_kind wf tht1 tht2 hsr1 hsr2
    have hin1 := (rk_in rel n1t1 n2t1).1
    have hin2 := (rk_in rel n1t2 n2t2).1
    have hcs := hck.2.1 ⟨g6, g7⟩
    have hv1 := rv_shelf rel n1t1 n2t1 n3t1 g6 g9
    obtain ⟨z1, ez1, _, _, hl1⟩ := wf.2.2.2.1 t1 tht1.1 g6
    cases g9.symm.trans ez1
    have hv2 := rv_shelf rel n1t2 n2t2 n3t2 g7 g10
    obtain ⟨z2, ez2, _, _, hl2⟩ := wf.2.2.2.1 t2 tht2.1 g7
    cases g10.symm.trans ez2
    have hdiff : ¬ pa a0.toNatClampNeg = pa b0.toNatClampNeg := fun e9 => g8 (Option.some.inj (g4.symm.trans (((pl_same rel g2 g3).mp e9).trans g5)))
    have hl : lv_has ls 13 [(0, .ref (g 8)), (1, .int a0), (2, .int b0), (3, .int i0), (4, .int j0), (5, .int n0)] := hl
    refine lv_aload_n hx hb dX12_copied_0 rfl (lv_at hl 0 rfl) ?_
    refine lv_iload_n hx hb dX12_copied_1 rfl (lv_at hl 1 rfl) ?_
    refine cV_i (C := RX12) (n := 1) (rest := []) hx hb hml hown hg hT (c_X12_place l dC dI g ty s.heap.size Y pa kp ks I tl ac wr tw a0 ) (cv_of hg wM_X12_83 wN_X12_place wL_X12_X12_place wK_X12_place wI_X12 (by decide +kernel) ⟨Nat.le_of_ble_eq_true rfl, Nat.le_of_ble_eq_true rfl⟩) hK hP hD hS hA (va_recv hK hP (ci := 14) (q0 := 0) rfl rfl) rfl hl.1 rfl (Nat.le_of_ble_eq_true rfl) dX12_copied_2 ⟨Nat.le_of_ble_eq_true rfl, Nat.le_of_ble_eq_true rfl⟩ (fun r_428 u_429 H locs q_427 hP hD hS => ?_)
    rcases q_427 with ⟨rfl, rfl, f_430⟩ | ⟨rfl, rfl, f_431⟩
    · show _
      exact absurd (by assumption) f_430
    · show _
      have hP : va_P (dC, dI) vwCl (rW g ty Y pa kp ks I tl ac wr tw) H := hP
      have hD : va_D A (rW g ty Y pa kp ks I tl ac wr tw) := hD
      refine lv_if_eq (tgt := 32) hx hb dX12_copied_5 (by decide) (fun c9 => absurd c9 (by decide)) (fun _ => ?_)
      refine lv_aload_n hx hb dX12_copied_8 rfl (lv_at hl 0 rfl) ?_
      refine lv_iload_n hx hb dX12_copied_9 rfl (lv_at hl 2 rfl) ?_
      refine cV_i (C := RX12) (n := 1) (rest := []) hx hb hml hown hg hT (c_X12_place l dC dI g ty H.size Y pa kp ks I tl ac wr tw b0 ) (cv_of hg wM_X12_83 wN_X12_place wL_X12_X12_place wK_X12_place wI_X12 (by decide +kernel) ⟨Nat.le_of_ble_eq_true rfl, Nat.le_of_ble_eq_true rfl⟩) hK hP hD hS hA (va_recv hK hP (ci := 14) (q0 := 0) rfl rfl) rfl hl.1 rfl (Nat.le_of_ble_eq_true rfl) dX12_copied_10 ⟨Nat.le_of_ble_eq_true rfl, Nat.le_of_ble_eq_true rfl⟩ (fun r_433 u_434 H locs q_432 hP hD hS => ?_)
      rcases q_432 with ⟨rfl, rfl, f_435⟩ | ⟨rfl, rfl, f_436⟩
      · show _
        exact absurd (by assumption) f_435
      · show _
        have hP : va_P (dC, dI) vwCl (rW g ty Y pa kp ks I tl ac wr tw) H := hP
        have hD : va_D A (rW g ty Y pa kp ks I tl ac wr tw) := hD
        refine lv_if_eq (tgt := 32) hx hb dX12_copied_13 (by decide) (fun c9 => absurd c9 (by decide)) (fun _ => ?_)
        refine lv_aload_n hx hb dX12_copied_16 rfl (lv_at hl 0 rfl) ?_
        refine lv_iload_n hx hb dX12_copied_17 rfl (lv_at hl 1 rfl) ?_
        refine cV_i (C := RX12) (n := 1) (rest := []) hx hb hml hown hg hT (c_X12_need l dC dI g ty H.size Y pa kp ks I tl ac wr tw a0 (by assumption)) (cv_of hg wM_X12_134 wN_X12_need wL_X12_X12_need wK_X12_need wI_X12 (by decide +kernel) ⟨Nat.le_of_ble_eq_true rfl, Nat.le_of_ble_eq_true rfl⟩) hK hP hD hS hA (va_recv hK hP (ci := 14) (q0 := 0) rfl rfl) rfl hl.1 rfl (Nat.le_of_ble_eq_true rfl) dX12_copied_18 ⟨Nat.le_of_ble_eq_true rfl, Nat.le_of_ble_eq_true rfl⟩ (fun r_438 u_439 H locs q_437 hP hD hS => ?_)
        rcases q_437 with ⟨rfl, rfl, f_440⟩ | ⟨rfl, rfl, f_441⟩
        · show _
          exact absurd f_440 (by assumption)
        · show _
          have hP : va_P (dC, dI) vwCl (rW g ty Y pa kp ks I tl ac wr tw) H := hP
          have hD : va_D A (rW g ty Y pa kp ks I tl ac wr tw) := hD
          refine lv_if_eq (tgt := 32) hx hb dX12_copied_21 (by decide) (fun c9 => absurd c9 (by decide)) (fun _ => ?_)
          refine lv_aload_n hx hb dX12_copied_24 rfl (lv_at hl 0 rfl) ?_
          refine lv_iload_n hx hb dX12_copied_25 rfl (lv_at hl 2 rfl) ?_
          refine cV_i (C := RX12) (n := 1) (rest := []) hx hb hml hown hg hT (c_X12_need l dC dI g ty H.size Y pa kp ks I tl ac wr tw b0 (by assumption)) (cv_of hg wM_X12_134 wN_X12_need wL_X12_X12_need wK_X12_need wI_X12 (by decide +kernel) ⟨Nat.le_of_ble_eq_true rfl, Nat.le_of_ble_eq_true rfl⟩) hK hP hD hS hA (va_recv hK hP (ci := 14) (q0 := 0) rfl rfl) rfl hl.1 rfl (Nat.le_of_ble_eq_true rfl) dX12_copied_26 ⟨Nat.le_of_ble_eq_true rfl, Nat.le_of_ble_eq_true rfl⟩ (fun r_443 u_444 H locs q_442 hP hD hS => ?_)
          rcases q_442 with ⟨rfl, rfl, f_445⟩ | ⟨rfl, rfl, f_446⟩
          · show _
            exact absurd f_445 (by assumption)
          · show _
            have hP : va_P (dC, dI) vwCl (rW g ty Y pa kp ks I tl ac wr tw) H := hP
            have hD : va_D A (rW g ty Y pa kp ks I tl ac wr tw) := hD
            refine lv_if_ne (tgt := 37) hx hb dX12_copied_29 (by decide) (fun _ => ?_) (fun c9 => absurd c9 (by decide)) 
            refine lv_aload_n hx hb dX12_copied_37 rfl (lv_at hl 0 rfl) ?_
            refine va_get (D := (dC, dI)) (ci := 14) (v := .ref (g 9)) (C := RX12) (T := TX12) (N := 21) hx hb hg inG12 hown hK hP 0 rfl rfl 8 (by decide) (hg _ wF_X12_34) (fun _ h9 => h9) rfl dX12_copied_38 ?_
            refine lv_iload_n hx hb dX12_copied_41 rfl (lv_at hl 1 rfl) ?_
            refine va_iald hx hb hK hP 7 0 rfl rfl (by assumption) dX12_copied_42 ?_
            refine lv_istore (lv' := [(6, .int (pa a0.toNatClampNeg)), (0, .ref (g 8)), (1, .int a0), (2, .int b0), (3, .int i0), (4, .int j0), (5, .int n0)]) hx hb dX12_copied_43 hl (by decide) rfl (fun ls hl => ?_)
            refine lv_aload_n hx hb dX12_copied_45 rfl (lv_at hl 1 rfl) ?_
            refine va_get (D := (dC, dI)) (ci := 14) (v := .ref (g 9)) (C := RX12) (T := TX12) (N := 21) hx hb hg inG12 hown hK hP 0 rfl rfl 8 (by decide) (hg _ wF_X12_34) (fun _ h9 => h9) rfl dX12_copied_46 ?_
            refine lv_iload_n hx hb dX12_copied_49 rfl (lv_at hl 3 rfl) ?_
            refine va_iald hx hb hK hP 7 0 rfl rfl (by assumption) dX12_copied_50 ?_
            refine lv_istore (lv' := [(7, .int (pa b0.toNatClampNeg)), (6, .int (pa a0.toNatClampNeg)), (0, .ref (g 8)), (1, .int a0), (2, .int b0), (3, .int i0), (4, .int j0), (5, .int n0)]) hx hb dX12_copied_51 hl (by decide) rfl (fun ls hl => ?_)
            refine lv_aload_n hx hb dX12_copied_53 rfl (lv_at hl 2 rfl) ?_
            refine va_get (D := (dC, dI)) (ci := 14) (v := .ref (Y.2.2.2.2.2.2.1 0)) (C := RX12) (T := TX12) (N := 21) hx hb hg inG12 hown hK hP 0 rfl rfl 0 (by decide) (hg _ wF_X12_7) (fun _ h9 => h9) rfl dX12_copied_54 ?_
            refine lv_iload hx hb dX12_copied_57 (lv_at hl 1 rfl) ?_
            refine va_iald hx hb hK hP 1 0 rfl rfl (by exact hin1) dX12_copied_59 ?_
            refine lv_bipush (v := 12) hx hb dX12_copied_60 (by decide) ?_
            refine lv_icmp_ge (tgt := 118) hx hb dX12_copied_62 (by decide) (fun c9 => absurd c9 hcs.1) (fun _ => ?_)
            refine lv_aload_n hx hb dX12_copied_65 rfl (lv_at hl 2 rfl) ?_
            refine va_get (D := (dC, dI)) (ci := 14) (v := .ref (Y.2.2.2.2.2.2.1 0)) (C := RX12) (T := TX12) (N := 21) hx hb hg inG12 hown hK hP 0 rfl rfl 0 (by decide) (hg _ wF_X12_7) (fun _ h9 => h9) rfl dX12_copied_66 ?_
            refine lv_iload hx hb dX12_copied_69 (lv_at hl 0 rfl) ?_
            refine va_iald hx hb hK hP 1 0 rfl rfl (by exact hin2) dX12_copied_71 ?_
            refine lv_bipush (v := 12) hx hb dX12_copied_72 (by decide) ?_
            refine lv_icmp_ge (tgt := 118) hx hb dX12_copied_74 (by decide) (fun c9 => absurd c9 hcs.2.1) (fun _ => ?_)
            refine lv_aload_n hx hb dX12_copied_77 rfl (lv_at hl 2 rfl) ?_
            refine va_get (D := (dC, dI)) (ci := 14) (v := .ref (Y.2.2.2.2.2.2.1 0)) (C := RX12) (T := TX12) (N := 21) hx hb hg inG12 hown hK hP 0 rfl rfl 0 (by decide) (hg _ wF_X12_7) (fun _ h9 => h9) rfl dX12_copied_78 ?_
            refine lv_iload hx hb dX12_copied_81 (lv_at hl 1 rfl) ?_
            refine va_iald hx hb hK hP 1 0 rfl rfl (by exact hin1) dX12_copied_83 ?_
            refine lv_bipush (v := 8) hx hb dX12_copied_84 (by decide) ?_
            refine lv_icmp_lt (tgt := 101) hx hb dX12_copied_86 (by decide) (fun c9 => absurd c9 hcs.2.2.1) (fun _ => ?_)
            refine lv_aload_n hx hb dX12_copied_89 rfl (lv_at hl 2 rfl) ?_
            refine va_get (D := (dC, dI)) (ci := 14) (v := .ref (Y.2.2.2.2.2.2.1 0)) (C := RX12) (T := TX12) (N := 21) hx hb hg inG12 hown hK hP 0 rfl rfl 0 (by decide) (hg _ wF_X12_7) (fun _ h9 => h9) rfl dX12_copied_90 ?_
            refine lv_iload hx hb dX12_copied_93 (lv_at hl 0 rfl) ?_
            refine va_iald hx hb hK hP 1 0 rfl rfl (by exact hin2) dX12_copied_95 ?_
            refine lv_bipush (v := 8) hx hb dX12_copied_96 (by decide) ?_
            refine lv_icmp_ge (tgt := 129) hx hb dX12_copied_98 (by decide) (fun _ => ?_) (fun c9 => absurd hcs.2.2.2.1 c9)
            refine lv_iload_n hx hb dX12_copied_129 rfl (lv_at hl 5 rfl) ?_
            refine lv_if_lt (tgt := 172) hx hb dX12_copied_130 (by decide) (fun c_447 => ?_) (fun c_447 => ?_)
            · show _
              have hs1 := (sp_by (i := i0) (n := n0) (m := (Y.2.2.1 (pa a0.toNatClampNeg).toNatClampNeg)) g11.1 g11.2.1 ⟨by_lt pre8, by_lt pre10⟩ hv1.2.1).mpr (by rw [show (Y.2.2.1 (pa a0.toNatClampNeg).toNatClampNeg).toNatClampNeg = _ from hv1.2.2.1]; exact g11)
              have hs2 := (sp_by (i := j0) (n := n0) (m := (Y.2.2.1 (pa b0.toNatClampNeg).toNatClampNeg)) g12.1 g12.2.1 ⟨by_lt pre9, by_lt pre10⟩ hv2.2.1).mpr (by rw [show (Y.2.2.1 (pa b0.toNatClampNeg).toNatClampNeg).toNatClampNeg = _ from hv2.2.2.1]; exact g12)
              first | exact absurd (show i0 < 0 by assumption) g11.1 | exact absurd (show j0 < 0 by assumption) g12.1 | exact absurd (show n0 < 0 by assumption) g11.2.1 | exact absurd hs1 (ge_of (by assumption)) | exact absurd hs2 (by assumption)
            · show _
              refine lv_iload hx hb dX12_copied_133 (lv_at hl 6 rfl) ?_
              refine lv_if_lt (tgt := 172) hx hb dX12_copied_135 (by decide) (fun c_448 => ?_) (fun c_448 => ?_)
              · show _
                have hs1 := (sp_by (i := i0) (n := n0) (m := (Y.2.2.1 (pa a0.toNatClampNeg).toNatClampNeg)) g11.1 g11.2.1 ⟨by_lt pre8, by_lt pre10⟩ hv1.2.1).mpr (by rw [show (Y.2.2.1 (pa a0.toNatClampNeg).toNatClampNeg).toNatClampNeg = _ from hv1.2.2.1]; exact g11)
                have hs2 := (sp_by (i := j0) (n := n0) (m := (Y.2.2.1 (pa b0.toNatClampNeg).toNatClampNeg)) g12.1 g12.2.1 ⟨by_lt pre9, by_lt pre10⟩ hv2.2.1).mpr (by rw [show (Y.2.2.1 (pa b0.toNatClampNeg).toNatClampNeg).toNatClampNeg = _ from hv2.2.2.1]; exact g12)
                first | exact absurd (show i0 < 0 by assumption) g11.1 | exact absurd (show j0 < 0 by assumption) g12.1 | exact absurd (show n0 < 0 by assumption) g11.2.1 | exact absurd hs1 (ge_of (by assumption)) | exact absurd hs2 (by assumption)
              · show _
                refine lv_iload hx hb dX12_copied_138 (lv_at hl 7 rfl) ?_
                refine lv_if_lt (tgt := 172) hx hb dX12_copied_140 (by decide) (fun c_449 => ?_) (fun c_449 => ?_)
                · show _
                  have hs1 := (sp_by (i := i0) (n := n0) (m := (Y.2.2.1 (pa a0.toNatClampNeg).toNatClampNeg)) g11.1 g11.2.1 ⟨by_lt pre8, by_lt pre10⟩ hv1.2.1).mpr (by rw [show (Y.2.2.1 (pa a0.toNatClampNeg).toNatClampNeg).toNatClampNeg = _ from hv1.2.2.1]; exact g11)
                  have hs2 := (sp_by (i := j0) (n := n0) (m := (Y.2.2.1 (pa b0.toNatClampNeg).toNatClampNeg)) g12.1 g12.2.1 ⟨by_lt pre9, by_lt pre10⟩ hv2.2.1).mpr (by rw [show (Y.2.2.1 (pa b0.toNatClampNeg).toNatClampNeg).toNatClampNeg = _ from hv2.2.2.1]; exact g12)
                  first | exact absurd (show i0 < 0 by assumption) g11.1 | exact absurd (show j0 < 0 by assumption) g12.1 | exact absurd (show n0 < 0 by assumption) g11.2.1 | exact absurd hs1 (ge_of (by assumption)) | exact absurd hs2 (by assumption)
                · show _
                  refine lv_iload_n hx hb dX12_copied_143 rfl (lv_at hl 5 rfl) ?_
                  refine lv_iload hx hb dX12_copied_144 (lv_at hl 7 rfl) ?_
                  refine lv_iadd hx hb dX12_copied_146 ?_
                  refine lv_aload_n hx hb dX12_copied_147 rfl (lv_at hl 2 rfl) ?_
                  refine va_get (D := (dC, dI)) (ci := 14) (v := .ref (Y.2.2.2.2.2.2.1 2)) (C := RX12) (T := TX12) (N := 21) hx hb hg inG12 hown hK hP 0 rfl rfl 2 (by decide) (hg _ wF_X12_16) (fun _ h9 => h9) rfl dX12_copied_148 ?_
                  refine lv_iload hx hb dX12_copied_151 (lv_at hl 1 rfl) ?_
                  refine va_iald hx hb hK hP 3 0 rfl rfl (by exact hin1) dX12_copied_153 ?_
                  refine lv_icmp_gt (tgt := 172) hx hb dX12_copied_154 (by decide) (fun c_450 => ?_) (fun c_450 => ?_)
                  · show _
                    have hs1 := (sp_by (i := i0) (n := n0) (m := (Y.2.2.1 (pa a0.toNatClampNeg).toNatClampNeg)) g11.1 g11.2.1 ⟨by_lt pre8, by_lt pre10⟩ hv1.2.1).mpr (by rw [show (Y.2.2.1 (pa a0.toNatClampNeg).toNatClampNeg).toNatClampNeg = _ from hv1.2.2.1]; exact g11)
                    have hs2 := (sp_by (i := j0) (n := n0) (m := (Y.2.2.1 (pa b0.toNatClampNeg).toNatClampNeg)) g12.1 g12.2.1 ⟨by_lt pre9, by_lt pre10⟩ hv2.2.1).mpr (by rw [show (Y.2.2.1 (pa b0.toNatClampNeg).toNatClampNeg).toNatClampNeg = _ from hv2.2.2.1]; exact g12)
                    first | exact absurd (show i0 < 0 by assumption) g11.1 | exact absurd (show j0 < 0 by assumption) g12.1 | exact absurd (show n0 < 0 by assumption) g11.2.1 | exact absurd hs1 (ge_of (by assumption)) | exact absurd hs2 (by assumption)
                  · show _
                    refine lv_iload hx hb dX12_copied_157 (lv_at hl 6 rfl) ?_
                    refine lv_iload hx hb dX12_copied_159 (lv_at hl 7 rfl) ?_
                    refine lv_iadd hx hb dX12_copied_161 ?_
                    refine lv_aload_n hx hb dX12_copied_162 rfl (lv_at hl 2 rfl) ?_
                    refine va_get (D := (dC, dI)) (ci := 14) (v := .ref (Y.2.2.2.2.2.2.1 2)) (C := RX12) (T := TX12) (N := 21) hx hb hg inG12 hown hK hP 0 rfl rfl 2 (by decide) (hg _ wF_X12_16) (fun _ h9 => h9) rfl dX12_copied_163 ?_
                    refine lv_iload hx hb dX12_copied_166 (lv_at hl 0 rfl) ?_
                    refine va_iald hx hb hK hP 3 0 rfl rfl (by exact hin2) dX12_copied_168 ?_
                    refine lv_icmp_le (tgt := 183) hx hb dX12_copied_169 (by decide) (fun c_451 => ?_) (fun c_451 => ?_)
                    · show _
                      refine lv_iload hx hb dX12_copied_183 (lv_at hl 1 rfl) ?_
                      refine lv_iload hx hb dX12_copied_185 (lv_at hl 0 rfl) ?_
                      refine lv_icmp_ne (tgt := 200) hx hb dX12_copied_187 (by decide) (fun _ => ?_) (fun c9 => absurd c9 hdiff)
                      refine lv_iconst (v := 0) hx hb dX12_copied_200 (by decide) ?_
                      refine lv_istore (lv' := [(8, .int 0), (7, .int (pa b0.toNatClampNeg)), (6, .int (pa a0.toNatClampNeg)), (0, .ref (g 8)), (1, .int a0), (2, .int b0), (3, .int i0), (4, .int j0), (5, .int n0)]) hx hb dX12_copied_201 hl (by decide) rfl (fun ls hl => ?_)
                      refine lv_iconst (v := 0) hx hb dX12_copied_203 (by decide) ?_
                      refine lv_istore (lv' := [(9, .int 0), (8, .int 0), (7, .int (pa b0.toNatClampNeg)), (6, .int (pa a0.toNatClampNeg)), (0, .ref (g 8)), (1, .int a0), (2, .int b0), (3, .int i0), (4, .int j0), (5, .int n0)]) hx hb dX12_copied_204 hl (by decide) rfl (fun ls hl => ?_)
                      have gk1 := g6
                      have gk2 := g7
                      have gy1 := g9
                      have gy2 := g10
                      have gp1 := g11
                      have gp2 := g12
                      have LOOP206 : ∀ (N206 : Nat) (kq : Int32) (cq : Nat → Int64) (dk : Nat → Option Nat) (H : Heap) (locs : List Loc) (ls : Array Slot), n0.toNatClampNeg - kq.toNatClampNeg = N206 → (¬ kq < 0) → (kq ≤ n0) → (rR Y.2.2.2.2.2.2.2.2.2.1 (Y.1, Y.2.1, Y.2.2.1, Y.2.2.2.1, Y.2.2.2.2.1, cq, Y.2.2.2.2.2.2.1, Y.2.2.2.2.2.2.2.1, Y.2.2.2.2.2.2.2.2.1, Y.2.2.2.2.2.2.2.2.2.1, Y.2.2.2.2.2.2.2.2.2.2) pa ρ pl (pRc P y2 (dk))) → (cTh (kTk P t2) (P.2.2.2.2.2.2.2 y1) i0.toNatClampNeg j0.toNatClampNeg (n0.toNatClampNeg - kq.toNatClampNeg) kq.toNatClampNeg dk = (true, d)) → (∀ j9 t9, dk j9 = some t9 → t9 ∈ P.1 ∧ P.2.1 t9 < 7 ∧ kOf (P.2.1 t9) (P.2.2.1 t9) (P.2.2.2.1 t2) = true) → va_P (dC, dI) vwCl (rW g ty (Y.1, Y.2.1, Y.2.2.1, Y.2.2.2.1, Y.2.2.2.2.1, cq, Y.2.2.2.2.2.2.1, Y.2.2.2.2.2.2.2.1, Y.2.2.2.2.2.2.2.2.1, Y.2.2.2.2.2.2.2.2.2.1, Y.2.2.2.2.2.2.2.2.2.2) pa kp ks I tl ac wr tw) H → va_D A (rW g ty (Y.1, Y.2.1, Y.2.2.1, Y.2.2.2.1, Y.2.2.2.2.1, cq, Y.2.2.2.2.2.2.1, Y.2.2.2.2.2.2.2.1, Y.2.2.2.2.2.2.2.2.1, Y.2.2.2.2.2.2.2.2.2.1, Y.2.2.2.2.2.2.2.2.2.2) pa kp ks I tl ac wr tw) → va_S A s.heap H locs → lv_has ls 13 [(0, .ref (g 8)), (3, .int i0), (4, .int j0), (5, .int n0), (6, .int (pa a0.toNatClampNeg)), (7, .int (pa b0.toNatClampNeg)), (8, .int 0), (9, .int kq)] → W p l e ({ frames := 2, cells := 0, slots := 0, locals := 42 }) s m ([.ref (g 8), .int a0, .int b0, .int i0, .int j0, .int n0]).toArray below meth c H locs (0 + 0 + 0 + 0 + 0) (0 + 0 + 0 + 0 + 0) (MQ below (va_Ql (fun (rz : Int64) (u : rY × (Nat → Int32) × (Nat → Int32) × (Nat → Int32) × Int32 × Int32) => ∃ (r' : Int64) (Y' : rY) (pa' kp' tl' : Nat → Int32) (wr' tw' : Int32), r' = rz ∧ (Y', pa', kp', tl', wr', tw') = u ∧ rAns u9.1 rz9 pl u9.2 md tl Y r' Y' pa' tl' wr' tw') (cB (dC, dI) (fun u : rY × (Nat → Int32) × (Nat → Int32) × (Nat → Int32) × Int32 × Int32 => rW g ty u.1 u.2.1 u.2.2.1 ks I u.2.2.2.1 ac u.2.2.2.2.1 u.2.2.2.2.2) A) A) ([.ref (g 8), .int a0, .int b0, .int i0, .int j0, .int n0]).toArray s 0 0 A) (F0 m 206 ls []) := by
                        intro N206
                        induction N206 using Nat.strongRecOn with
                        | _ N206 IH206 =>
                          intro kq cq dk H locs ls hN206 q0 q1 q2 q3 q4 hP hD hS hl
                          refine lv_iload hx hb dX12_copied_206 (lv_at hl 7 rfl) ?_
                          refine lv_iload hx hb dX12_copied_208 (lv_at hl 3 rfl) ?_
                          refine lv_icmp_ge (tgt := 355) hx hb dX12_copied_210 (by decide) (fun c_452 => ?_) (fun c_452 => ?_)
                          · show _
                            have hen := (th_end (ok := kTk P t2) (src := P.2.2.2.2.2.2.2 y1) (i := i0.toNatClampNeg) (j := j0.toNatClampNeg) (d := dk) (k := kq) (n := n0) (by assumption)).symm.trans q3
                            have hdk : dk = d := (Prod.mk.inj hen).2
                            refine lv_lconst (v := 0) hx hb dX12_copied_355 (by decide) ?_
                            refine cr_l (wo := fun u : rY × (Nat → Int32) × (Nat → Int32) × (Nat → Int32) × Int32 × Int32 => rW g ty u.1 u.2.1 u.2.2.1 ks I u.2.2.2.1 ac u.2.2.2.2.1 u.2.2.2.2.2) (((Y.1, Y.2.1, Y.2.2.1, Y.2.2.2.1, Y.2.2.2.2.1, cq, Y.2.2.2.2.2.2.1, Y.2.2.2.2.2.2.2.1, Y.2.2.2.2.2.2.2.2.1, Y.2.2.2.2.2.2.2.2.2.1, Y.2.2.2.2.2.2.2.2.2.2), pa, kp, tl, wr, tw)) hx hb hr hlk hS hP hD ?_ dX12_copied_356
                            exact ⟨0, (Y.1, Y.2.1, Y.2.2.1, Y.2.2.2.1, Y.2.2.2.2.1, cq, Y.2.2.2.2.2.2.1, Y.2.2.2.2.2.2.2.1, Y.2.2.2.2.2.2.2.2.1, Y.2.2.2.2.2.2.2.2.2.1, Y.2.2.2.2.2.2.2.2.2.2), pa, kp, tl, wr, tw, rfl, rfl, (by subst hu; subst hrz; subst pre6; exact ra_w (by rw [← hdk]; exact q2) ⟨rfl, rfl, rfl, rfl⟩ hcnt htl rfl)⟩
                          · show _
                            have hkn := k1_lt q0 (by assumption)
                            have hd9 : ¬ kq < 0 ∧ ¬ n0 ≤ kq ∧ (kq).toNatClampNeg = kq.toNatClampNeg := ⟨q0, (by assumption), rfl⟩
                            have ha1 := sp_add hd9.1 hd9.2.1 gp1 hl1
                            have ha2 := sp_add hd9.1 hd9.2.1 gp2 hl2
                            have hvs := rv_shelf (P := pRc P y2 (dk)) q2 n1t1 n2t1 n3t1 gk1 gy1
                            have hvt := rv_shelf (P := pRc P y2 (dk)) q2 n1t2 n2t2 n3t2 gk2 gy2
                            have hx9 := hvs.2.2.2 _ ha1.2.2
                            have hcr9 : va_up P.2.2.2.2.2.2.2 y2 dk y1 (i0 + kq).toNatClampNeg = P.2.2.2.2.2.2.2 y1 (i0.toNatClampNeg + kq.toNatClampNeg) := by rw [ha1.2.1, va_up_ne _ _ (fun e9 => absurd (cp_ne wf rel tht1.1 tht2.1 (Or.inr gk1) (Or.inr gk2) gy1 (by rw [e9]; exact gy2) n1t1 n2t1 n3t1 n1t2 n2t2 n3t2) hdiff)]
                            obtain ⟨o9, eo9⟩ : ∃ o9, o9 = P.2.2.2.2.2.2.2 y1 (i0.toNatClampNeg + (kq).toNatClampNeg) := ⟨_, rfl⟩
                            have ho9 : rLl Y.2.2.2.2.2.2.2.2.2.1 ρ (cq (Y.2.1 (pa a0.toNatClampNeg).toNatClampNeg + (i0 + kq)).toNatClampNeg) o9 := by have h9 := hx9.2; rw [show (pRc P y2 (dk)).2.2.2.2.2.2.2 y1 _ = _ from hcr9] at h9; exact eo9 ▸ h9
                            have hwk : cWF pl (pRc P y2 (dk)) := wf_rcS wf tht2.1 gk2 gy2 q4
                            refine lv_iload hx hb dX12_copied_213 (lv_at hl 6 rfl) ?_
                            refine lv_if_eq (tgt := 228) hx hb dX12_copied_215 (by decide) (fun _ => ?_) (fun c9 => absurd (by decide) c9) 
                            refine lv_iload hx hb dX12_copied_228 (lv_at hl 7 rfl) ?_
                            refine lv_istore (lv' := [(10, .int kq), (0, .ref (g 8)), (3, .int i0), (4, .int j0), (5, .int n0), (6, .int (pa a0.toNatClampNeg)), (7, .int (pa b0.toNatClampNeg)), (8, .int 0), (9, .int kq)]) hx hb dX12_copied_230 hl (by decide) rfl (fun ls hl => ?_)
                            refine lv_aload_n hx hb dX12_copied_232 rfl (lv_at hl 1 rfl) ?_
                            refine lv_iload hx hb dX12_copied_233 (lv_at hl 5 rfl) ?_
                            refine lv_iload_n hx hb dX12_copied_235 rfl (lv_at hl 2 rfl) ?_
                            refine lv_iload hx hb dX12_copied_236 (lv_at hl 0 rfl) ?_
                            refine lv_iadd hx hb dX12_copied_238 ?_
                            refine cV_l (C := RX12) (n := 2) (rest := []) hx hb hml hown hg hT (c_X12_cell l dC dI g ty H.size (Y.1, Y.2.1, Y.2.2.1, Y.2.2.2.1, Y.2.2.2.2.1, cq, Y.2.2.2.2.2.2.1, Y.2.2.2.2.2.2.2.1, Y.2.2.2.2.2.2.2.2.1, Y.2.2.2.2.2.2.2.2.2.1, Y.2.2.2.2.2.2.2.2.2.2) pa kp ks I tl ac wr tw (pa a0.toNatClampNeg) (i0 + kq) (by exact hvs.1) (by exact hx9.1)) (cv_of hg wM_X12_140 wN_X12_cell wL_X12_X12_cell wK_X12_cell wI_X12 (by decide +kernel) ⟨Nat.le_of_ble_eq_true rfl, Nat.le_of_ble_eq_true rfl⟩) hK hP hD hS hA (va_recv hK hP (ci := 14) (q0 := 0) rfl rfl) rfl hl.1 rfl (Nat.le_of_ble_eq_true rfl) dX12_copied_239 ⟨Nat.le_of_ble_eq_true rfl, Nat.le_of_ble_eq_true rfl⟩ (fun r_454 u_455 H locs q_453 hP hD hS => ?_)
                            obtain rfl := q_453
                            have hP : va_P (dC, dI) vwCl (rW g ty (Y.1, Y.2.1, Y.2.2.1, Y.2.2.2.1, Y.2.2.2.2.1, cq, Y.2.2.2.2.2.2.1, Y.2.2.2.2.2.2.2.1, Y.2.2.2.2.2.2.2.2.1, Y.2.2.2.2.2.2.2.2.2.1, Y.2.2.2.2.2.2.2.2.2.2) pa kp ks I tl ac wr tw) H := hP
                            have hD : va_D A (rW g ty (Y.1, Y.2.1, Y.2.2.1, Y.2.2.2.1, Y.2.2.2.2.1, cq, Y.2.2.2.2.2.2.1, Y.2.2.2.2.2.2.2.1, Y.2.2.2.2.2.2.2.2.1, Y.2.2.2.2.2.2.2.2.2.1, Y.2.2.2.2.2.2.2.2.2.2) pa kp ks I tl ac wr tw) := hD
                            refine lv_topl (fun v9 ev90 => ?_)
                            have ev9 : v9 = cq (Y.2.1 (pa a0.toNatClampNeg).toNatClampNeg + (i0 + kq)).toNatClampNeg := ev90
                            rw [← ev9] at ho9
                            refine lv_lstore (lv' := [(11, .long v9), (10, .int kq), (0, .ref (g 8)), (3, .int i0), (4, .int j0), (5, .int n0), (6, .int (pa a0.toNatClampNeg)), (7, .int (pa b0.toNatClampNeg)), (8, .int 0), (9, .int kq)]) hx hb dX12_copied_242 hl (by decide) rfl (fun ls hl => ?_)
                            refine lv_aload_n hx hb dX12_copied_244 rfl (lv_at hl 2 rfl) ?_
                            refine va_get (D := (dC, dI)) (ci := 14) (v := .ref (Y.2.2.2.2.2.2.1 0)) (C := RX12) (T := TX12) (N := 21) hx hb hg inG12 hown hK hP 0 rfl rfl 0 (by decide) (hg _ wF_X12_7) (fun _ h9 => h9) rfl dX12_copied_245 ?_
                            refine lv_iload hx hb dX12_copied_248 (lv_at hl 7 rfl) ?_
                            refine va_iald hx hb hK hP 1 0 rfl rfl (by exact hin2) dX12_copied_250 ?_
                            refine lv_bipush (v := 8) hx hb dX12_copied_251 (by decide) ?_
                            refine lv_icmp_lt (tgt := 336) hx hb dX12_copied_253 (by decide) (fun c9 => absurd c9 hcs.2.2.2.2) (fun _ => ?_)
                            refine lv_lload hx hb dX12_copied_256 (lv_at hl 0 rfl) ?_
                            refine lv_lconst (v := 0) hx hb dX12_copied_258 (by decide) ?_
                            refine W.lcmp hx hb dX12_copied_259 ?_
                            refine lv_if_eq (tgt := 336) hx hb dX12_copied_260 (by decide) (fun c_456 => ?_) (fun c_456 => ?_)
                            · show _
                              refine lv_aload_n hx hb dX12_copied_336 rfl (lv_at hl 2 rfl) ?_
                              refine lv_iload hx hb dX12_copied_337 (lv_at hl 7 rfl) ?_
                              refine lv_iload hx hb dX12_copied_339 (lv_at hl 4 rfl) ?_
                              refine lv_iload hx hb dX12_copied_341 (lv_at hl 1 rfl) ?_
                              refine lv_iadd hx hb dX12_copied_343 ?_
                              refine lv_lload hx hb dX12_copied_344 (lv_at hl 0 rfl) ?_
                              refine cV_v (C := RX12) (n := 3) (rest := []) hx hb hml hown hg hT (c_X12_put l dC dI g ty H.size (Y.1, Y.2.1, Y.2.2.1, Y.2.2.2.1, Y.2.2.2.2.1, cq, Y.2.2.2.2.2.2.1, Y.2.2.2.2.2.2.2.1, Y.2.2.2.2.2.2.2.2.1, Y.2.2.2.2.2.2.2.2.2.1, Y.2.2.2.2.2.2.2.2.2.2) pa kp ks I tl ac wr tw (pa b0.toNatClampNeg) (j0 + kq) v9 (by exact hvt.1) (by exact (hvt.2.2.2 _ ha2.2.2).1)) (cv_of hg wM_X12_151 wN_X12_put wL_X12_X12_put wK_X12_put wI_X12 (by decide +kernel) ⟨Nat.le_of_ble_eq_true rfl, Nat.le_of_ble_eq_true rfl⟩) hK hP hD hS hA (va_recv hK hP (ci := 14) (q0 := 0) rfl rfl) rfl hl.1 rfl (Nat.le_of_ble_eq_true rfl) dX12_copied_346 ⟨Nat.le_of_ble_eq_true rfl, Nat.le_of_ble_eq_true rfl⟩ (fun u_459 H locs q_457 hP hD hS => ?_)
                              obtain rfl := q_457
                              have hP : va_P (dC, dI) vwCl (rW g ty (Y.1, Y.2.1, Y.2.2.1, Y.2.2.2.1, Y.2.2.2.2.1, (vp_updL cq (Y.2.1 (pa b0.toNatClampNeg).toNatClampNeg + (j0 + kq)).toNatClampNeg v9), Y.2.2.2.2.2.2.1, Y.2.2.2.2.2.2.2.1, Y.2.2.2.2.2.2.2.2.1, Y.2.2.2.2.2.2.2.2.2.1, Y.2.2.2.2.2.2.2.2.2.2) pa kp ks I tl ac wr tw) H := hP
                              have hD : va_D A (rW g ty (Y.1, Y.2.1, Y.2.2.1, Y.2.2.2.1, Y.2.2.2.2.1, (vp_updL cq (Y.2.1 (pa b0.toNatClampNeg).toNatClampNeg + (j0 + kq)).toNatClampNeg v9), Y.2.2.2.2.2.2.1, Y.2.2.2.2.2.2.2.1, Y.2.2.2.2.2.2.2.2.1, Y.2.2.2.2.2.2.2.2.2.1, Y.2.2.2.2.2.2.2.2.2.2) pa kp ks I tl ac wr tw) := hD
                              refine lv_iinc (v := (kq + 1)) (lv' := [(9, .int (kq + 1)), (11, .long v9), (10, .int kq), (0, .ref (g 8)), (3, .int i0), (4, .int j0), (5, .int n0), (6, .int (pa a0.toNatClampNeg)), (7, .int (pa b0.toNatClampNeg)), (8, .int 0)]) hx hb dX12_copied_349 hl (k := 9) rfl rfl (by decide) rfl (fun ls hl => ?_)
                              refine lv_goto (tgt := 206) hx hb dX12_copied_352 (by decide) ?_
                              have hup := up1_clamp q0 (by assumption)
                              have hoz : o9 = none := ll_z ho9 c_456
                              have hok9 : kTk P t2 o9 = true := by rw [hoz]; rfl
                              have hgd9 := gd_up (P := P) (x2 := t2) q4 (a := (j0 + kq).toNatClampNeg) (o := o9) (fun z9 e8 => by rw [hoz] at e8; cases e8)
                              have hw9 := rw_shelf (P := pRc P y2 (dk)) hwk q2 n1t2 n2t2 n3t2 gk2 gy2 ha2.2.2 (x := v9) ho9 rfl
                              have e9 : pRc (pRc P y2 (dk)) y2 (va_up ((pRc P y2 (dk)).2.2.2.2.2.2.2 y2) (j0 + kq).toNatClampNeg o9) = pRc P y2 (va_up dk (j0 + kq).toNatClampNeg o9) := by
                                rw [pRc_pRc, show (pRc P y2 (dk)).2.2.2.2.2.2.2 y2 = dk from va_up_self _ _ _]
                              have hth9 := cth_go q0 (by assumption) ha2.2.1 eo9 hok9 q3
                              exact IH206 _ (by rw [← hN206]; exact th_dec q0 (by assumption)) (kq + 1) (vp_updL cq (Y.2.1 (pa b0.toNatClampNeg).toNatClampNeg + (j0 + kq)).toNatClampNeg v9) (va_up dk (j0 + kq).toNatClampNeg o9) _ _ _ rfl (by exact k1_nn q0 (by assumption)) (by exact k1_le (by assumption)) (by rw [← e9]; exact hw9) (by exact hth9) (by exact hgd9) hP hD hS (lv_sub hl [3, 4, 5, 6, 7, 8, 9, 0] rfl)
                            · show _
                              obtain ⟨z9, ez9, hz1, hz2, hz3⟩ := ll_nz ho9 (by assumption)
                              have hmz := wf.2.2.2.2.1 y1 _ z9 (wf_arr wf tht1.1 gk1 gy1).1 (wf_arr wf tht1.1 gk1 gy1).2 (eo9.symm.trans ez9)
                              refine lv_aload_n hx hb dX12_copied_263 rfl (lv_at hl 2 rfl) ?_
                              refine lv_lload hx hb dX12_copied_264 (lv_at hl 0 rfl) ?_
                              refine lv_l2i (v := (v9.toInt32)) hx hb dX12_copied_266 rfl ?_
                              refine lv_aload_n hx hb dX12_copied_267 rfl (lv_at hl 2 rfl) ?_
                              refine va_get (D := (dC, dI)) (ci := 14) (v := .ref (Y.2.2.2.2.2.2.1 0)) (C := RX12) (T := TX12) (N := 21) hx hb hg inG12 hown hK hP 0 rfl rfl 0 (by decide) (hg _ wF_X12_7) (fun _ h9 => h9) rfl dX12_copied_268 ?_
                              refine lv_iload hx hb dX12_copied_271 (lv_at hl 7 rfl) ?_
                              refine va_iald hx hb hK hP 1 0 rfl rfl (by exact hin2) dX12_copied_273 ?_
                              refine lv_bipush (v := 8) hx hb dX12_copied_274 (by decide) ?_
                              refine lv_icmp_ne (tgt := 283) hx hb dX12_copied_276 (by decide) (fun c_460 => ?_) (fun c_460 => ?_)
                              · show _
                                refine lv_aload_n hx hb dX12_copied_283 rfl (lv_at hl 2 rfl) ?_
                                refine va_get (D := (dC, dI)) (ci := 14) (v := .ref (Y.2.2.2.2.2.2.1 0)) (C := RX12) (T := TX12) (N := 21) hx hb hg inG12 hown hK hP 0 rfl rfl 0 (by decide) (hg _ wF_X12_7) (fun _ h9 => h9) rfl dX12_copied_284 ?_
                                refine lv_iload hx hb dX12_copied_287 (lv_at hl 7 rfl) ?_
                                refine va_iald hx hb hK hP 1 0 rfl rfl (by exact hin2) dX12_copied_289 ?_
                                refine lv_bipush (v := 9) hx hb dX12_copied_290 (by decide) ?_
                                refine lv_icmp_ne (tgt := 300) hx hb dX12_copied_292 (by decide) (fun c_461 => ?_) (fun c_461 => ?_)
                                · show _
                                  refine lv_aload_n hx hb dX12_copied_300 rfl (lv_at hl 2 rfl) ?_
                                  refine va_get (D := (dC, dI)) (ci := 14) (v := .ref (Y.2.2.2.2.2.2.1 0)) (C := RX12) (T := TX12) (N := 21) hx hb hg inG12 hown hK hP 0 rfl rfl 0 (by decide) (hg _ wF_X12_7) (fun _ h9 => h9) rfl dX12_copied_301 ?_
                                  refine lv_iload hx hb dX12_copied_304 (lv_at hl 7 rfl) ?_
                                  refine va_iald hx hb hK hP 1 0 rfl rfl (by exact hin2) dX12_copied_306 ?_
                                  refine lv_bipush (v := 10) hx hb dX12_copied_307 (by decide) ?_
                                  refine lv_icmp_ne (tgt := 317) hx hb dX12_copied_309 (by decide) (fun c_462 => ?_) (fun c_462 => ?_)
                                  · show _
                                    refine lv_bipush (v := 14) hx hb dX12_copied_317 (by decide) ?_
                                    have hrim := (rim_8 wf tht2.1 gk2 hsr2).2.2.2 c_460 c_461 c_462
                                    refine cV_i (C := RX12) (n := 2) (rest := []) hx hb hml hown hg hT (c_X12_is l dC dI g ty H.size (Y.1, Y.2.1, Y.2.2.1, Y.2.2.2.1, Y.2.2.2.2.1, cq, Y.2.2.2.2.2.2.1, Y.2.2.2.2.2.2.2.1, Y.2.2.2.2.2.2.2.2.1, Y.2.2.2.2.2.2.2.2.2.1, Y.2.2.2.2.2.2.2.2.2.2) pa kp ks I tl ac wr tw (v9.toInt32) 14 (by exact Or.inr (rk_in rel hz1 hz2).1)) (cv_of hg wM_X12_86 wN_X12_is wL_X12_X12_is wK_X12_is wI_X12 (by decide +kernel) ⟨Nat.le_of_ble_eq_true rfl, Nat.le_of_ble_eq_true rfl⟩) hK hP hD hS hA (va_recv hK hP (ci := 14) (q0 := 0) rfl rfl) rfl hl.1 rfl (Nat.le_of_ble_eq_true rfl) dX12_copied_319 ⟨Nat.le_of_ble_eq_true rfl, Nat.le_of_ble_eq_true rfl⟩ (fun r_464 u_465 H locs q_463 hP hD hS => ?_)
                                    obtain rfl := q_463
                                    have hP : va_P (dC, dI) vwCl (rW g ty (Y.1, Y.2.1, Y.2.2.1, Y.2.2.2.1, Y.2.2.2.2.1, cq, Y.2.2.2.2.2.2.1, Y.2.2.2.2.2.2.2.1, Y.2.2.2.2.2.2.2.2.1, Y.2.2.2.2.2.2.2.2.2.1, Y.2.2.2.2.2.2.2.2.2.2) pa kp ks I tl ac wr tw) H := hP
                                    have hD : va_D A (rW g ty (Y.1, Y.2.1, Y.2.2.1, Y.2.2.2.1, Y.2.2.2.2.1, cq, Y.2.2.2.2.2.2.1, Y.2.2.2.2.2.2.2.1, Y.2.2.2.2.2.2.2.2.1, Y.2.2.2.2.2.2.2.2.2.1, Y.2.2.2.2.2.2.2.2.2.2) pa kp ks I tl ac wr tw) := hD
                                    refine lv_if_ne (tgt := 336) hx hb dX12_copied_322 (by decide) (fun c_466 => ?_) (fun c_466 => ?_)
                                    · show _
                                      refine lv_aload_n hx hb dX12_copied_336 rfl (lv_at hl 2 rfl) ?_
                                      refine lv_iload hx hb dX12_copied_337 (lv_at hl 7 rfl) ?_
                                      refine lv_iload hx hb dX12_copied_339 (lv_at hl 4 rfl) ?_
                                      refine lv_iload hx hb dX12_copied_341 (lv_at hl 1 rfl) ?_
                                      refine lv_iadd hx hb dX12_copied_343 ?_
                                      refine lv_lload hx hb dX12_copied_344 (lv_at hl 0 rfl) ?_
                                      refine cV_v (C := RX12) (n := 3) (rest := []) hx hb hml hown hg hT (c_X12_put l dC dI g ty H.size (Y.1, Y.2.1, Y.2.2.1, Y.2.2.2.1, Y.2.2.2.2.1, cq, Y.2.2.2.2.2.2.1, Y.2.2.2.2.2.2.2.1, Y.2.2.2.2.2.2.2.2.1, Y.2.2.2.2.2.2.2.2.2.1, Y.2.2.2.2.2.2.2.2.2.2) pa kp ks I tl ac wr tw (pa b0.toNatClampNeg) (j0 + kq) v9 (by exact hvt.1) (by exact (hvt.2.2.2 _ ha2.2.2).1)) (cv_of hg wM_X12_151 wN_X12_put wL_X12_X12_put wK_X12_put wI_X12 (by decide +kernel) ⟨Nat.le_of_ble_eq_true rfl, Nat.le_of_ble_eq_true rfl⟩) hK hP hD hS hA (va_recv hK hP (ci := 14) (q0 := 0) rfl rfl) rfl hl.1 rfl (Nat.le_of_ble_eq_true rfl) dX12_copied_346 ⟨Nat.le_of_ble_eq_true rfl, Nat.le_of_ble_eq_true rfl⟩ (fun u_469 H locs q_467 hP hD hS => ?_)
                                      obtain rfl := q_467
                                      have hP : va_P (dC, dI) vwCl (rW g ty (Y.1, Y.2.1, Y.2.2.1, Y.2.2.2.1, Y.2.2.2.2.1, (vp_updL cq (Y.2.1 (pa b0.toNatClampNeg).toNatClampNeg + (j0 + kq)).toNatClampNeg v9), Y.2.2.2.2.2.2.1, Y.2.2.2.2.2.2.2.1, Y.2.2.2.2.2.2.2.2.1, Y.2.2.2.2.2.2.2.2.2.1, Y.2.2.2.2.2.2.2.2.2.2) pa kp ks I tl ac wr tw) H := hP
                                      have hD : va_D A (rW g ty (Y.1, Y.2.1, Y.2.2.1, Y.2.2.2.1, Y.2.2.2.2.1, (vp_updL cq (Y.2.1 (pa b0.toNatClampNeg).toNatClampNeg + (j0 + kq)).toNatClampNeg v9), Y.2.2.2.2.2.2.1, Y.2.2.2.2.2.2.2.1, Y.2.2.2.2.2.2.2.2.1, Y.2.2.2.2.2.2.2.2.2.1, Y.2.2.2.2.2.2.2.2.2.2) pa kp ks I tl ac wr tw) := hD
                                      refine lv_iinc (v := (kq + 1)) (lv' := [(9, .int (kq + 1)), (11, .long v9), (10, .int kq), (0, .ref (g 8)), (3, .int i0), (4, .int j0), (5, .int n0), (6, .int (pa a0.toNatClampNeg)), (7, .int (pa b0.toNatClampNeg)), (8, .int 0)]) hx hb dX12_copied_349 hl (k := 9) rfl rfl (by decide) rfl (fun ls hl => ?_)
                                      refine lv_goto (tgt := 206) hx hb dX12_copied_352 (by decide) ?_
                                      have hup := up1_clamp q0 (by assumption)
                                      have hkz := kz_of (isv_iff rel wf hz1 hz2 hz3 (s0 := 14) (i32_in (by decide) (by decide))) c_466
                                      have hok9 : kTk P t2 o9 = true := by rw [ez9]; show kOf _ _ _ = true; rw [hrim]; exact hkz
                                      have hgd9 := gd_up (P := P) (x2 := t2) q4 (a := (j0 + kq).toNatClampNeg) (o := o9) (fun z8 e8 => by have e7 := Option.some.inj (ez9.symm.trans e8); subst e7; exact ⟨hmz.1, hmz.2, hok9 |> fun h => by rw [ez9] at h; exact h⟩)
                                      have hw9 := rw_shelf (P := pRc P y2 (dk)) hwk q2 n1t2 n2t2 n3t2 gk2 gy2 ha2.2.2 (x := v9) ho9 rfl
                                      have e9 : pRc (pRc P y2 (dk)) y2 (va_up ((pRc P y2 (dk)).2.2.2.2.2.2.2 y2) (j0 + kq).toNatClampNeg o9) = pRc P y2 (va_up dk (j0 + kq).toNatClampNeg o9) := by
                                        rw [pRc_pRc, show (pRc P y2 (dk)).2.2.2.2.2.2.2 y2 = dk from va_up_self _ _ _]
                                      have hth9 := cth_go q0 (by assumption) ha2.2.1 eo9 hok9 q3
                                      exact IH206 _ (by rw [← hN206]; exact th_dec q0 (by assumption)) (kq + 1) (vp_updL cq (Y.2.1 (pa b0.toNatClampNeg).toNatClampNeg + (j0 + kq)).toNatClampNeg v9) (va_up dk (j0 + kq).toNatClampNeg o9) _ _ _ rfl (by exact k1_nn q0 (by assumption)) (by exact k1_le (by assumption)) (by rw [← e9]; exact hw9) (by exact hth9) (by exact hgd9) hP hD hS (lv_sub hl [3, 4, 5, 6, 7, 8, 9, 0] rfl)
                                    · show _
                                      have hkf : kTk P t2 o9 = false := by rw [ez9]; show kOf _ _ _ = false; rw [hrim]; exact (isv_iff rel wf hz1 hz2 hz3 (s0 := 14) (i32_in (by decide) (by decide))).mp c_466
                                      have hcn := cth_no q0 (by assumption) eo9 hkf q3
                                      cases hcn
                                  · show _
                                    refine lv_bipush (v := 13) hx hb dX12_copied_312 (by decide) ?_
                                    refine lv_goto (tgt := 319) hx hb dX12_copied_314 (by decide) ?_
                                    have hrim := (rim_8 wf tht2.1 gk2 hsr2).2.2.1 c_462
                                    refine cV_i (C := RX12) (n := 2) (rest := []) hx hb hml hown hg hT (c_X12_is l dC dI g ty H.size (Y.1, Y.2.1, Y.2.2.1, Y.2.2.2.1, Y.2.2.2.2.1, cq, Y.2.2.2.2.2.2.1, Y.2.2.2.2.2.2.2.1, Y.2.2.2.2.2.2.2.2.1, Y.2.2.2.2.2.2.2.2.2.1, Y.2.2.2.2.2.2.2.2.2.2) pa kp ks I tl ac wr tw (v9.toInt32) 13 (by exact Or.inr (rk_in rel hz1 hz2).1)) (cv_of hg wM_X12_86 wN_X12_is wL_X12_X12_is wK_X12_is wI_X12 (by decide +kernel) ⟨Nat.le_of_ble_eq_true rfl, Nat.le_of_ble_eq_true rfl⟩) hK hP hD hS hA (va_recv hK hP (ci := 14) (q0 := 0) rfl rfl) rfl hl.1 rfl (Nat.le_of_ble_eq_true rfl) dX12_copied_319 ⟨Nat.le_of_ble_eq_true rfl, Nat.le_of_ble_eq_true rfl⟩ (fun r_471 u_472 H locs q_470 hP hD hS => ?_)
                                    obtain rfl := q_470
                                    have hP : va_P (dC, dI) vwCl (rW g ty (Y.1, Y.2.1, Y.2.2.1, Y.2.2.2.1, Y.2.2.2.2.1, cq, Y.2.2.2.2.2.2.1, Y.2.2.2.2.2.2.2.1, Y.2.2.2.2.2.2.2.2.1, Y.2.2.2.2.2.2.2.2.2.1, Y.2.2.2.2.2.2.2.2.2.2) pa kp ks I tl ac wr tw) H := hP
                                    have hD : va_D A (rW g ty (Y.1, Y.2.1, Y.2.2.1, Y.2.2.2.1, Y.2.2.2.2.1, cq, Y.2.2.2.2.2.2.1, Y.2.2.2.2.2.2.2.1, Y.2.2.2.2.2.2.2.2.1, Y.2.2.2.2.2.2.2.2.2.1, Y.2.2.2.2.2.2.2.2.2.2) pa kp ks I tl ac wr tw) := hD
                                    refine lv_if_ne (tgt := 336) hx hb dX12_copied_322 (by decide) (fun c_473 => ?_) (fun c_473 => ?_)
                                    · show _
                                      refine lv_aload_n hx hb dX12_copied_336 rfl (lv_at hl 2 rfl) ?_
                                      refine lv_iload hx hb dX12_copied_337 (lv_at hl 7 rfl) ?_
                                      refine lv_iload hx hb dX12_copied_339 (lv_at hl 4 rfl) ?_
                                      refine lv_iload hx hb dX12_copied_341 (lv_at hl 1 rfl) ?_
                                      refine lv_iadd hx hb dX12_copied_343 ?_
                                      refine lv_lload hx hb dX12_copied_344 (lv_at hl 0 rfl) ?_
                                      refine cV_v (C := RX12) (n := 3) (rest := []) hx hb hml hown hg hT (c_X12_put l dC dI g ty H.size (Y.1, Y.2.1, Y.2.2.1, Y.2.2.2.1, Y.2.2.2.2.1, cq, Y.2.2.2.2.2.2.1, Y.2.2.2.2.2.2.2.1, Y.2.2.2.2.2.2.2.2.1, Y.2.2.2.2.2.2.2.2.2.1, Y.2.2.2.2.2.2.2.2.2.2) pa kp ks I tl ac wr tw (pa b0.toNatClampNeg) (j0 + kq) v9 (by exact hvt.1) (by exact (hvt.2.2.2 _ ha2.2.2).1)) (cv_of hg wM_X12_151 wN_X12_put wL_X12_X12_put wK_X12_put wI_X12 (by decide +kernel) ⟨Nat.le_of_ble_eq_true rfl, Nat.le_of_ble_eq_true rfl⟩) hK hP hD hS hA (va_recv hK hP (ci := 14) (q0 := 0) rfl rfl) rfl hl.1 rfl (Nat.le_of_ble_eq_true rfl) dX12_copied_346 ⟨Nat.le_of_ble_eq_true rfl, Nat.le_of_ble_eq_true rfl⟩ (fun u_476 H locs q_474 hP hD hS => ?_)
                                      obtain rfl := q_474
                                      have hP : va_P (dC, dI) vwCl (rW g ty (Y.1, Y.2.1, Y.2.2.1, Y.2.2.2.1, Y.2.2.2.2.1, (vp_updL cq (Y.2.1 (pa b0.toNatClampNeg).toNatClampNeg + (j0 + kq)).toNatClampNeg v9), Y.2.2.2.2.2.2.1, Y.2.2.2.2.2.2.2.1, Y.2.2.2.2.2.2.2.2.1, Y.2.2.2.2.2.2.2.2.2.1, Y.2.2.2.2.2.2.2.2.2.2) pa kp ks I tl ac wr tw) H := hP
                                      have hD : va_D A (rW g ty (Y.1, Y.2.1, Y.2.2.1, Y.2.2.2.1, Y.2.2.2.2.1, (vp_updL cq (Y.2.1 (pa b0.toNatClampNeg).toNatClampNeg + (j0 + kq)).toNatClampNeg v9), Y.2.2.2.2.2.2.1, Y.2.2.2.2.2.2.2.1, Y.2.2.2.2.2.2.2.2.1, Y.2.2.2.2.2.2.2.2.2.1, Y.2.2.2.2.2.2.2.2.2.2) pa kp ks I tl ac wr tw) := hD
                                      refine lv_iinc (v := (kq + 1)) (lv' := [(9, .int (kq + 1)), (11, .long v9), (10, .int kq), (0, .ref (g 8)), (3, .int i0), (4, .int j0), (5, .int n0), (6, .int (pa a0.toNatClampNeg)), (7, .int (pa b0.toNatClampNeg)), (8, .int 0)]) hx hb dX12_copied_349 hl (k := 9) rfl rfl (by decide) rfl (fun ls hl => ?_)
                                      refine lv_goto (tgt := 206) hx hb dX12_copied_352 (by decide) ?_
                                      have hup := up1_clamp q0 (by assumption)
                                      have hkz := kz_of (isv_iff rel wf hz1 hz2 hz3 (s0 := 13) (i32_in (by decide) (by decide))) c_473
                                      have hok9 : kTk P t2 o9 = true := by rw [ez9]; show kOf _ _ _ = true; rw [hrim]; exact hkz
                                      have hgd9 := gd_up (P := P) (x2 := t2) q4 (a := (j0 + kq).toNatClampNeg) (o := o9) (fun z8 e8 => by have e7 := Option.some.inj (ez9.symm.trans e8); subst e7; exact ⟨hmz.1, hmz.2, hok9 |> fun h => by rw [ez9] at h; exact h⟩)
                                      have hw9 := rw_shelf (P := pRc P y2 (dk)) hwk q2 n1t2 n2t2 n3t2 gk2 gy2 ha2.2.2 (x := v9) ho9 rfl
                                      have e9 : pRc (pRc P y2 (dk)) y2 (va_up ((pRc P y2 (dk)).2.2.2.2.2.2.2 y2) (j0 + kq).toNatClampNeg o9) = pRc P y2 (va_up dk (j0 + kq).toNatClampNeg o9) := by
                                        rw [pRc_pRc, show (pRc P y2 (dk)).2.2.2.2.2.2.2 y2 = dk from va_up_self _ _ _]
                                      have hth9 := cth_go q0 (by assumption) ha2.2.1 eo9 hok9 q3
                                      exact IH206 _ (by rw [← hN206]; exact th_dec q0 (by assumption)) (kq + 1) (vp_updL cq (Y.2.1 (pa b0.toNatClampNeg).toNatClampNeg + (j0 + kq)).toNatClampNeg v9) (va_up dk (j0 + kq).toNatClampNeg o9) _ _ _ rfl (by exact k1_nn q0 (by assumption)) (by exact k1_le (by assumption)) (by rw [← e9]; exact hw9) (by exact hth9) (by exact hgd9) hP hD hS (lv_sub hl [3, 4, 5, 6, 7, 8, 9, 0] rfl)
                                    · show _
                                      have hkf : kTk P t2 o9 = false := by rw [ez9]; show kOf _ _ _ = false; rw [hrim]; exact (isv_iff rel wf hz1 hz2 hz3 (s0 := 13) (i32_in (by decide) (by decide))).mp c_473
                                      have hcn := cth_no q0 (by assumption) eo9 hkf q3
                                      cases hcn
                                · show _
                                  refine lv_bipush (v := 12) hx hb dX12_copied_295 (by decide) ?_
                                  refine lv_goto (tgt := 319) hx hb dX12_copied_297 (by decide) ?_
                                  have hrim := (rim_8 wf tht2.1 gk2 hsr2).2.1 c_461
                                  refine cV_i (C := RX12) (n := 2) (rest := []) hx hb hml hown hg hT (c_X12_is l dC dI g ty H.size (Y.1, Y.2.1, Y.2.2.1, Y.2.2.2.1, Y.2.2.2.2.1, cq, Y.2.2.2.2.2.2.1, Y.2.2.2.2.2.2.2.1, Y.2.2.2.2.2.2.2.2.1, Y.2.2.2.2.2.2.2.2.2.1, Y.2.2.2.2.2.2.2.2.2.2) pa kp ks I tl ac wr tw (v9.toInt32) 12 (by exact Or.inr (rk_in rel hz1 hz2).1)) (cv_of hg wM_X12_86 wN_X12_is wL_X12_X12_is wK_X12_is wI_X12 (by decide +kernel) ⟨Nat.le_of_ble_eq_true rfl, Nat.le_of_ble_eq_true rfl⟩) hK hP hD hS hA (va_recv hK hP (ci := 14) (q0 := 0) rfl rfl) rfl hl.1 rfl (Nat.le_of_ble_eq_true rfl) dX12_copied_319 ⟨Nat.le_of_ble_eq_true rfl, Nat.le_of_ble_eq_true rfl⟩ (fun r_478 u_479 H locs q_477 hP hD hS => ?_)
                                  obtain rfl := q_477
                                  have hP : va_P (dC, dI) vwCl (rW g ty (Y.1, Y.2.1, Y.2.2.1, Y.2.2.2.1, Y.2.2.2.2.1, cq, Y.2.2.2.2.2.2.1, Y.2.2.2.2.2.2.2.1, Y.2.2.2.2.2.2.2.2.1, Y.2.2.2.2.2.2.2.2.2.1, Y.2.2.2.2.2.2.2.2.2.2) pa kp ks I tl ac wr tw) H := hP
                                  have hD : va_D A (rW g ty (Y.1, Y.2.1, Y.2.2.1, Y.2.2.2.1, Y.2.2.2.2.1, cq, Y.2.2.2.2.2.2.1, Y.2.2.2.2.2.2.2.1, Y.2.2.2.2.2.2.2.2.1, Y.2.2.2.2.2.2.2.2.2.1, Y.2.2.2.2.2.2.2.2.2.2) pa kp ks I tl ac wr tw) := hD
                                  refine lv_if_ne (tgt := 336) hx hb dX12_copied_322 (by decide) (fun c_480 => ?_) (fun c_480 => ?_)
                                  · show _
                                    refine lv_aload_n hx hb dX12_copied_336 rfl (lv_at hl 2 rfl) ?_
                                    refine lv_iload hx hb dX12_copied_337 (lv_at hl 7 rfl) ?_
                                    refine lv_iload hx hb dX12_copied_339 (lv_at hl 4 rfl) ?_
                                    refine lv_iload hx hb dX12_copied_341 (lv_at hl 1 rfl) ?_
                                    refine lv_iadd hx hb dX12_copied_343 ?_
                                    refine lv_lload hx hb dX12_copied_344 (lv_at hl 0 rfl) ?_
                                    refine cV_v (C := RX12) (n := 3) (rest := []) hx hb hml hown hg hT (c_X12_put l dC dI g ty H.size (Y.1, Y.2.1, Y.2.2.1, Y.2.2.2.1, Y.2.2.2.2.1, cq, Y.2.2.2.2.2.2.1, Y.2.2.2.2.2.2.2.1, Y.2.2.2.2.2.2.2.2.1, Y.2.2.2.2.2.2.2.2.2.1, Y.2.2.2.2.2.2.2.2.2.2) pa kp ks I tl ac wr tw (pa b0.toNatClampNeg) (j0 + kq) v9 (by exact hvt.1) (by exact (hvt.2.2.2 _ ha2.2.2).1)) (cv_of hg wM_X12_151 wN_X12_put wL_X12_X12_put wK_X12_put wI_X12 (by decide +kernel) ⟨Nat.le_of_ble_eq_true rfl, Nat.le_of_ble_eq_true rfl⟩) hK hP hD hS hA (va_recv hK hP (ci := 14) (q0 := 0) rfl rfl) rfl hl.1 rfl (Nat.le_of_ble_eq_true rfl) dX12_copied_346 ⟨Nat.le_of_ble_eq_true rfl, Nat.le_of_ble_eq_true rfl⟩ (fun u_483 H locs q_481 hP hD hS => ?_)
                                    obtain rfl := q_481
                                    have hP : va_P (dC, dI) vwCl (rW g ty (Y.1, Y.2.1, Y.2.2.1, Y.2.2.2.1, Y.2.2.2.2.1, (vp_updL cq (Y.2.1 (pa b0.toNatClampNeg).toNatClampNeg + (j0 + kq)).toNatClampNeg v9), Y.2.2.2.2.2.2.1, Y.2.2.2.2.2.2.2.1, Y.2.2.2.2.2.2.2.2.1, Y.2.2.2.2.2.2.2.2.2.1, Y.2.2.2.2.2.2.2.2.2.2) pa kp ks I tl ac wr tw) H := hP
                                    have hD : va_D A (rW g ty (Y.1, Y.2.1, Y.2.2.1, Y.2.2.2.1, Y.2.2.2.2.1, (vp_updL cq (Y.2.1 (pa b0.toNatClampNeg).toNatClampNeg + (j0 + kq)).toNatClampNeg v9), Y.2.2.2.2.2.2.1, Y.2.2.2.2.2.2.2.1, Y.2.2.2.2.2.2.2.2.1, Y.2.2.2.2.2.2.2.2.2.1, Y.2.2.2.2.2.2.2.2.2.2) pa kp ks I tl ac wr tw) := hD
                                    refine lv_iinc (v := (kq + 1)) (lv' := [(9, .int (kq + 1)), (11, .long v9), (10, .int kq), (0, .ref (g 8)), (3, .int i0), (4, .int j0), (5, .int n0), (6, .int (pa a0.toNatClampNeg)), (7, .int (pa b0.toNatClampNeg)), (8, .int 0)]) hx hb dX12_copied_349 hl (k := 9) rfl rfl (by decide) rfl (fun ls hl => ?_)
                                    refine lv_goto (tgt := 206) hx hb dX12_copied_352 (by decide) ?_
                                    have hup := up1_clamp q0 (by assumption)
                                    have hkz := kz_of (isv_iff rel wf hz1 hz2 hz3 (s0 := 12) (i32_in (by decide) (by decide))) c_480
                                    have hok9 : kTk P t2 o9 = true := by rw [ez9]; show kOf _ _ _ = true; rw [hrim]; exact hkz
                                    have hgd9 := gd_up (P := P) (x2 := t2) q4 (a := (j0 + kq).toNatClampNeg) (o := o9) (fun z8 e8 => by have e7 := Option.some.inj (ez9.symm.trans e8); subst e7; exact ⟨hmz.1, hmz.2, hok9 |> fun h => by rw [ez9] at h; exact h⟩)
                                    have hw9 := rw_shelf (P := pRc P y2 (dk)) hwk q2 n1t2 n2t2 n3t2 gk2 gy2 ha2.2.2 (x := v9) ho9 rfl
                                    have e9 : pRc (pRc P y2 (dk)) y2 (va_up ((pRc P y2 (dk)).2.2.2.2.2.2.2 y2) (j0 + kq).toNatClampNeg o9) = pRc P y2 (va_up dk (j0 + kq).toNatClampNeg o9) := by
                                      rw [pRc_pRc, show (pRc P y2 (dk)).2.2.2.2.2.2.2 y2 = dk from va_up_self _ _ _]
                                    have hth9 := cth_go q0 (by assumption) ha2.2.1 eo9 hok9 q3
                                    exact IH206 _ (by rw [← hN206]; exact th_dec q0 (by assumption)) (kq + 1) (vp_updL cq (Y.2.1 (pa b0.toNatClampNeg).toNatClampNeg + (j0 + kq)).toNatClampNeg v9) (va_up dk (j0 + kq).toNatClampNeg o9) _ _ _ rfl (by exact k1_nn q0 (by assumption)) (by exact k1_le (by assumption)) (by rw [← e9]; exact hw9) (by exact hth9) (by exact hgd9) hP hD hS (lv_sub hl [3, 4, 5, 6, 7, 8, 9, 0] rfl)
                                  · show _
                                    have hkf : kTk P t2 o9 = false := by rw [ez9]; show kOf _ _ _ = false; rw [hrim]; exact (isv_iff rel wf hz1 hz2 hz3 (s0 := 12) (i32_in (by decide) (by decide))).mp c_480
                                    have hcn := cth_no q0 (by assumption) eo9 hkf q3
                                    cases hcn
                              · show _
                                refine lv_iconst (v := 0) hx hb dX12_copied_279 (by decide) ?_
                                refine lv_goto (tgt := 319) hx hb dX12_copied_280 (by decide) ?_
                                have hrim := (rim_8 wf tht2.1 gk2 hsr2).1 c_460
                                refine cV_i (C := RX12) (n := 2) (rest := []) hx hb hml hown hg hT (c_X12_is l dC dI g ty H.size (Y.1, Y.2.1, Y.2.2.1, Y.2.2.2.1, Y.2.2.2.2.1, cq, Y.2.2.2.2.2.2.1, Y.2.2.2.2.2.2.2.1, Y.2.2.2.2.2.2.2.2.1, Y.2.2.2.2.2.2.2.2.2.1, Y.2.2.2.2.2.2.2.2.2.2) pa kp ks I tl ac wr tw (v9.toInt32) 0 (by exact Or.inr (rk_in rel hz1 hz2).1)) (cv_of hg wM_X12_86 wN_X12_is wL_X12_X12_is wK_X12_is wI_X12 (by decide +kernel) ⟨Nat.le_of_ble_eq_true rfl, Nat.le_of_ble_eq_true rfl⟩) hK hP hD hS hA (va_recv hK hP (ci := 14) (q0 := 0) rfl rfl) rfl hl.1 rfl (Nat.le_of_ble_eq_true rfl) dX12_copied_319 ⟨Nat.le_of_ble_eq_true rfl, Nat.le_of_ble_eq_true rfl⟩ (fun r_485 u_486 H locs q_484 hP hD hS => ?_)
                                obtain rfl := q_484
                                have hP : va_P (dC, dI) vwCl (rW g ty (Y.1, Y.2.1, Y.2.2.1, Y.2.2.2.1, Y.2.2.2.2.1, cq, Y.2.2.2.2.2.2.1, Y.2.2.2.2.2.2.2.1, Y.2.2.2.2.2.2.2.2.1, Y.2.2.2.2.2.2.2.2.2.1, Y.2.2.2.2.2.2.2.2.2.2) pa kp ks I tl ac wr tw) H := hP
                                have hD : va_D A (rW g ty (Y.1, Y.2.1, Y.2.2.1, Y.2.2.2.1, Y.2.2.2.2.1, cq, Y.2.2.2.2.2.2.1, Y.2.2.2.2.2.2.2.1, Y.2.2.2.2.2.2.2.2.1, Y.2.2.2.2.2.2.2.2.2.1, Y.2.2.2.2.2.2.2.2.2.2) pa kp ks I tl ac wr tw) := hD
                                refine lv_if_ne (tgt := 336) hx hb dX12_copied_322 (by decide) (fun c_487 => ?_) (fun c_487 => ?_)
                                · show _
                                  refine lv_aload_n hx hb dX12_copied_336 rfl (lv_at hl 2 rfl) ?_
                                  refine lv_iload hx hb dX12_copied_337 (lv_at hl 7 rfl) ?_
                                  refine lv_iload hx hb dX12_copied_339 (lv_at hl 4 rfl) ?_
                                  refine lv_iload hx hb dX12_copied_341 (lv_at hl 1 rfl) ?_
                                  refine lv_iadd hx hb dX12_copied_343 ?_
                                  refine lv_lload hx hb dX12_copied_344 (lv_at hl 0 rfl) ?_
                                  refine cV_v (C := RX12) (n := 3) (rest := []) hx hb hml hown hg hT (c_X12_put l dC dI g ty H.size (Y.1, Y.2.1, Y.2.2.1, Y.2.2.2.1, Y.2.2.2.2.1, cq, Y.2.2.2.2.2.2.1, Y.2.2.2.2.2.2.2.1, Y.2.2.2.2.2.2.2.2.1, Y.2.2.2.2.2.2.2.2.2.1, Y.2.2.2.2.2.2.2.2.2.2) pa kp ks I tl ac wr tw (pa b0.toNatClampNeg) (j0 + kq) v9 (by exact hvt.1) (by exact (hvt.2.2.2 _ ha2.2.2).1)) (cv_of hg wM_X12_151 wN_X12_put wL_X12_X12_put wK_X12_put wI_X12 (by decide +kernel) ⟨Nat.le_of_ble_eq_true rfl, Nat.le_of_ble_eq_true rfl⟩) hK hP hD hS hA (va_recv hK hP (ci := 14) (q0 := 0) rfl rfl) rfl hl.1 rfl (Nat.le_of_ble_eq_true rfl) dX12_copied_346 ⟨Nat.le_of_ble_eq_true rfl, Nat.le_of_ble_eq_true rfl⟩ (fun u_490 H locs q_488 hP hD hS => ?_)
                                  obtain rfl := q_488
                                  have hP : va_P (dC, dI) vwCl (rW g ty (Y.1, Y.2.1, Y.2.2.1, Y.2.2.2.1, Y.2.2.2.2.1, (vp_updL cq (Y.2.1 (pa b0.toNatClampNeg).toNatClampNeg + (j0 + kq)).toNatClampNeg v9), Y.2.2.2.2.2.2.1, Y.2.2.2.2.2.2.2.1, Y.2.2.2.2.2.2.2.2.1, Y.2.2.2.2.2.2.2.2.2.1, Y.2.2.2.2.2.2.2.2.2.2) pa kp ks I tl ac wr tw) H := hP
                                  have hD : va_D A (rW g ty (Y.1, Y.2.1, Y.2.2.1, Y.2.2.2.1, Y.2.2.2.2.1, (vp_updL cq (Y.2.1 (pa b0.toNatClampNeg).toNatClampNeg + (j0 + kq)).toNatClampNeg v9), Y.2.2.2.2.2.2.1, Y.2.2.2.2.2.2.2.1, Y.2.2.2.2.2.2.2.2.1, Y.2.2.2.2.2.2.2.2.2.1, Y.2.2.2.2.2.2.2.2.2.2) pa kp ks I tl ac wr tw) := hD
                                  refine lv_iinc (v := (kq + 1)) (lv' := [(9, .int (kq + 1)), (11, .long v9), (10, .int kq), (0, .ref (g 8)), (3, .int i0), (4, .int j0), (5, .int n0), (6, .int (pa a0.toNatClampNeg)), (7, .int (pa b0.toNatClampNeg)), (8, .int 0)]) hx hb dX12_copied_349 hl (k := 9) rfl rfl (by decide) rfl (fun ls hl => ?_)
                                  refine lv_goto (tgt := 206) hx hb dX12_copied_352 (by decide) ?_
                                  have hup := up1_clamp q0 (by assumption)
                                  have hkz := kz_of (isv_iff rel wf hz1 hz2 hz3 (s0 := 0) (i32_in (by decide) (by decide))) c_487
                                  have hok9 : kTk P t2 o9 = true := by rw [ez9]; show kOf _ _ _ = true; rw [hrim]; exact hkz
                                  have hgd9 := gd_up (P := P) (x2 := t2) q4 (a := (j0 + kq).toNatClampNeg) (o := o9) (fun z8 e8 => by have e7 := Option.some.inj (ez9.symm.trans e8); subst e7; exact ⟨hmz.1, hmz.2, hok9 |> fun h => by rw [ez9] at h; exact h⟩)
                                  have hw9 := rw_shelf (P := pRc P y2 (dk)) hwk q2 n1t2 n2t2 n3t2 gk2 gy2 ha2.2.2 (x := v9) ho9 rfl
                                  have e9 : pRc (pRc P y2 (dk)) y2 (va_up ((pRc P y2 (dk)).2.2.2.2.2.2.2 y2) (j0 + kq).toNatClampNeg o9) = pRc P y2 (va_up dk (j0 + kq).toNatClampNeg o9) := by
                                    rw [pRc_pRc, show (pRc P y2 (dk)).2.2.2.2.2.2.2 y2 = dk from va_up_self _ _ _]
                                  have hth9 := cth_go q0 (by assumption) ha2.2.1 eo9 hok9 q3
                                  exact IH206 _ (by rw [← hN206]; exact th_dec q0 (by assumption)) (kq + 1) (vp_updL cq (Y.2.1 (pa b0.toNatClampNeg).toNatClampNeg + (j0 + kq)).toNatClampNeg v9) (va_up dk (j0 + kq).toNatClampNeg o9) _ _ _ rfl (by exact k1_nn q0 (by assumption)) (by exact k1_le (by assumption)) (by rw [← e9]; exact hw9) (by exact hth9) (by exact hgd9) hP hD hS (lv_sub hl [3, 4, 5, 6, 7, 8, 9, 0] rfl)
                                · show _
                                  have hkf : kTk P t2 o9 = false := by rw [ez9]; show kOf _ _ _ = false; rw [hrim]; exact (isv_iff rel wf hz1 hz2 hz3 (s0 := 0) (i32_in (by decide) (by decide))).mp c_487
                                  have hcn := cth_no q0 (by assumption) eo9 hkf q3
                                  cases hcn
                      exact LOOP206 _ 0 Y.2.2.2.2.2.1 (P.2.2.2.2.2.2.2 y2) _ _ _ rfl (by decide) (by exact nn_of (by assumption)) (by rw [pRc_self]; exact rel) (by exact g13) (by exact cp_g0 wf tht2.1 gk2 gy2) hP hD hS (lv_sub hl [4, 7, 8, 9, 3, 2, 1, 0] rfl)
                    · show _
                      have hs1 := (sp_by (i := i0) (n := n0) (m := (Y.2.2.1 (pa a0.toNatClampNeg).toNatClampNeg)) g11.1 g11.2.1 ⟨by_lt pre8, by_lt pre10⟩ hv1.2.1).mpr (by rw [show (Y.2.2.1 (pa a0.toNatClampNeg).toNatClampNeg).toNatClampNeg = _ from hv1.2.2.1]; exact g11)
                      have hs2 := (sp_by (i := j0) (n := n0) (m := (Y.2.2.1 (pa b0.toNatClampNeg).toNatClampNeg)) g12.1 g12.2.1 ⟨by_lt pre9, by_lt pre10⟩ hv2.2.1).mpr (by rw [show (Y.2.2.1 (pa b0.toNatClampNeg).toNatClampNeg).toNatClampNeg = _ from hv2.2.2.1]; exact g12)
                      first | exact absurd (show i0 < 0 by assumption) g11.1 | exact absurd (show j0 < 0 by assumption) g12.1 | exact absurd (show n0 < 0 by assumption) g11.2.1 | exact absurd hs1 (ge_of (by assumption)) | exact absurd hs2 (by assumption)
  · show _
    obtain ⟨n1t1, n2t1, n3t1⟩ := rk_some rel g2 g4
    have hnet1 := (i32_pos n1t1).2.1
    have tht1 := wf.1 _ _ g4
    obtain ⟨n1t2, n2t2, n3t2⟩ := rk_some rel g3 g5
    have hnet2 := (i32_pos n1t2).2.1
    have tht2 := wf.1 _ _ g5
    have hsr1 := rv_sr rel n1t1 n2t1 n3t1
    have hsr2 := rv_sr rel n1t2 n2t2 n3t2
    have hck := cp_kind wf tht1 tht2 hsr1 hsr2
    have hin1 := (rk_in rel n1t1 n2t1).1
    have hin2 := (rk_in rel n1t2 n2t2).1
    have hcs := hck.2.1 ⟨g6, g7⟩
    have hv1 := rv_shelf rel n1t1 n2t1 n3t1 g6 g9
    obtain ⟨z1, ez1, _, _, hl1⟩ := wf.2.2.2.1 t1 tht1.1 g6
    cases g9.symm.trans ez1
    have hv2 := rv_shelf rel n1t2 n2t2 n3t2 g7 g10
    obtain ⟨z2, ez2, _, _, hl2⟩ := wf.2.2.2.1 t2 tht2.1 g7
    cases g10.symm.trans ez2
    have hdiff : ¬ pa a0.toNatClampNeg = pa b0.toNatClampNeg := fun e9 => g8 (Option.some.inj (g4.symm.trans (((pl_same rel g2 g3).mp e9).trans g5)))
    have hl : lv_has ls 13 [(0, .ref (g 8)), (1, .int a0), (2, .int b0), (3, .int i0), (4, .int j0), (5, .int n0)] := hl
    refine lv_aload_n hx hb dX12_copied_0 rfl (lv_at hl 0 rfl) ?_
    refine lv_iload_n hx hb dX12_copied_1 rfl (lv_at hl 1 rfl) ?_
    refine cV_i (C := RX12) (n := 1) (rest := []) hx hb hml hown hg hT (c_X12_place l dC dI g ty s.heap.size Y pa kp ks I tl ac wr tw a0 ) (cv_of hg wM_X12_83 wN_X12_place wL_X12_X12_place wK_X12_place wI_X12 (by decide +kernel) ⟨Nat.le_of_ble_eq_true rfl, Nat.le_of_ble_eq_true rfl⟩) hK hP hD hS hA (va_recv hK hP (ci := 14) (q0 := 0) rfl rfl) rfl hl.1 rfl (Nat.le_of_ble_eq_true rfl) dX12_copied_2 ⟨Nat.le_of_ble_eq_true rfl, Nat.le_of_ble_eq_true rfl⟩ (fun r_492 u_493 H locs q_491 hP hD hS => ?_)
    rcases q_491 with ⟨rfl, rfl, f_494⟩ | ⟨rfl, rfl, f_495⟩
    · show _
      exact absurd (by assumption) f_494
    · show _
      have hP : va_P (dC, dI) vwCl (rW g ty Y pa kp ks I tl ac wr tw) H := hP
      have hD : va_D A (rW g ty Y pa kp ks I tl ac wr tw) := hD
      refine lv_if_eq (tgt := 32) hx hb dX12_copied_5 (by decide) (fun c9 => absurd c9 (by decide)) (fun _ => ?_)
      refine lv_aload_n hx hb dX12_copied_8 rfl (lv_at hl 0 rfl) ?_
      refine lv_iload_n hx hb dX12_copied_9 rfl (lv_at hl 2 rfl) ?_
      refine cV_i (C := RX12) (n := 1) (rest := []) hx hb hml hown hg hT (c_X12_place l dC dI g ty H.size Y pa kp ks I tl ac wr tw b0 ) (cv_of hg wM_X12_83 wN_X12_place wL_X12_X12_place wK_X12_place wI_X12 (by decide +kernel) ⟨Nat.le_of_ble_eq_true rfl, Nat.le_of_ble_eq_true rfl⟩) hK hP hD hS hA (va_recv hK hP (ci := 14) (q0 := 0) rfl rfl) rfl hl.1 rfl (Nat.le_of_ble_eq_true rfl) dX12_copied_10 ⟨Nat.le_of_ble_eq_true rfl, Nat.le_of_ble_eq_true rfl⟩ (fun r_497 u_498 H locs q_496 hP hD hS => ?_)
      rcases q_496 with ⟨rfl, rfl, f_499⟩ | ⟨rfl, rfl, f_500⟩
      · show _
        exact absurd (by assumption) f_499
      · show _
        have hP : va_P (dC, dI) vwCl (rW g ty Y pa kp ks I tl ac wr tw) H := hP
        have hD : va_D A (rW g ty Y pa kp ks I tl ac wr tw) := hD
        refine lv_if_eq (tgt := 32) hx hb dX12_copied_13 (by decide) (fun c9 => absurd c9 (by decide)) (fun _ => ?_)
        refine lv_aload_n hx hb dX12_copied_16 rfl (lv_at hl 0 rfl) ?_
        refine lv_iload_n hx hb dX12_copied_17 rfl (lv_at hl 1 rfl) ?_
        refine cV_i (C := RX12) (n := 1) (rest := []) hx hb hml hown hg hT (c_X12_need l dC dI g ty H.size Y pa kp ks I tl ac wr tw a0 (by assumption)) (cv_of hg wM_X12_134 wN_X12_need wL_X12_X12_need wK_X12_need wI_X12 (by decide +kernel) ⟨Nat.le_of_ble_eq_true rfl, Nat.le_of_ble_eq_true rfl⟩) hK hP hD hS hA (va_recv hK hP (ci := 14) (q0 := 0) rfl rfl) rfl hl.1 rfl (Nat.le_of_ble_eq_true rfl) dX12_copied_18 ⟨Nat.le_of_ble_eq_true rfl, Nat.le_of_ble_eq_true rfl⟩ (fun r_502 u_503 H locs q_501 hP hD hS => ?_)
        rcases q_501 with ⟨rfl, rfl, f_504⟩ | ⟨rfl, rfl, f_505⟩
        · show _
          exact absurd f_504 (by assumption)
        · show _
          have hP : va_P (dC, dI) vwCl (rW g ty Y pa kp ks I tl ac wr tw) H := hP
          have hD : va_D A (rW g ty Y pa kp ks I tl ac wr tw) := hD
          refine lv_if_eq (tgt := 32) hx hb dX12_copied_21 (by decide) (fun c9 => absurd c9 (by decide)) (fun _ => ?_)
          refine lv_aload_n hx hb dX12_copied_24 rfl (lv_at hl 0 rfl) ?_
          refine lv_iload_n hx hb dX12_copied_25 rfl (lv_at hl 2 rfl) ?_
          refine cV_i (C := RX12) (n := 1) (rest := []) hx hb hml hown hg hT (c_X12_need l dC dI g ty H.size Y pa kp ks I tl ac wr tw b0 (by assumption)) (cv_of hg wM_X12_134 wN_X12_need wL_X12_X12_need wK_X12_need wI_X12 (by decide +kernel) ⟨Nat.le_of_ble_eq_true rfl, Nat.le_of_ble_eq_true rfl⟩) hK hP hD hS hA (va_recv hK hP (ci := 14) (q0 := 0) rfl rfl) rfl hl.1 rfl (Nat.le_of_ble_eq_true rfl) dX12_copied_26 ⟨Nat.le_of_ble_eq_true rfl, Nat.le_of_ble_eq_true rfl⟩ (fun r_507 u_508 H locs q_506 hP hD hS => ?_)
          rcases q_506 with ⟨rfl, rfl, f_509⟩ | ⟨rfl, rfl, f_510⟩
          · show _
            exact absurd f_509 (by assumption)
          · show _
            have hP : va_P (dC, dI) vwCl (rW g ty Y pa kp ks I tl ac wr tw) H := hP
            have hD : va_D A (rW g ty Y pa kp ks I tl ac wr tw) := hD
            refine lv_if_ne (tgt := 37) hx hb dX12_copied_29 (by decide) (fun _ => ?_) (fun c9 => absurd c9 (by decide)) 
            refine lv_aload_n hx hb dX12_copied_37 rfl (lv_at hl 0 rfl) ?_
            refine va_get (D := (dC, dI)) (ci := 14) (v := .ref (g 9)) (C := RX12) (T := TX12) (N := 21) hx hb hg inG12 hown hK hP 0 rfl rfl 8 (by decide) (hg _ wF_X12_34) (fun _ h9 => h9) rfl dX12_copied_38 ?_
            refine lv_iload_n hx hb dX12_copied_41 rfl (lv_at hl 1 rfl) ?_
            refine va_iald hx hb hK hP 7 0 rfl rfl (by assumption) dX12_copied_42 ?_
            refine lv_istore (lv' := [(6, .int (pa a0.toNatClampNeg)), (0, .ref (g 8)), (1, .int a0), (2, .int b0), (3, .int i0), (4, .int j0), (5, .int n0)]) hx hb dX12_copied_43 hl (by decide) rfl (fun ls hl => ?_)
            refine lv_aload_n hx hb dX12_copied_45 rfl (lv_at hl 1 rfl) ?_
            refine va_get (D := (dC, dI)) (ci := 14) (v := .ref (g 9)) (C := RX12) (T := TX12) (N := 21) hx hb hg inG12 hown hK hP 0 rfl rfl 8 (by decide) (hg _ wF_X12_34) (fun _ h9 => h9) rfl dX12_copied_46 ?_
            refine lv_iload_n hx hb dX12_copied_49 rfl (lv_at hl 3 rfl) ?_
            refine va_iald hx hb hK hP 7 0 rfl rfl (by assumption) dX12_copied_50 ?_
            refine lv_istore (lv' := [(7, .int (pa b0.toNatClampNeg)), (6, .int (pa a0.toNatClampNeg)), (0, .ref (g 8)), (1, .int a0), (2, .int b0), (3, .int i0), (4, .int j0), (5, .int n0)]) hx hb dX12_copied_51 hl (by decide) rfl (fun ls hl => ?_)
            refine lv_aload_n hx hb dX12_copied_53 rfl (lv_at hl 2 rfl) ?_
            refine va_get (D := (dC, dI)) (ci := 14) (v := .ref (Y.2.2.2.2.2.2.1 0)) (C := RX12) (T := TX12) (N := 21) hx hb hg inG12 hown hK hP 0 rfl rfl 0 (by decide) (hg _ wF_X12_7) (fun _ h9 => h9) rfl dX12_copied_54 ?_
            refine lv_iload hx hb dX12_copied_57 (lv_at hl 1 rfl) ?_
            refine va_iald hx hb hK hP 1 0 rfl rfl (by exact hin1) dX12_copied_59 ?_
            refine lv_bipush (v := 12) hx hb dX12_copied_60 (by decide) ?_
            refine lv_icmp_ge (tgt := 118) hx hb dX12_copied_62 (by decide) (fun c9 => absurd c9 hcs.1) (fun _ => ?_)
            refine lv_aload_n hx hb dX12_copied_65 rfl (lv_at hl 2 rfl) ?_
            refine va_get (D := (dC, dI)) (ci := 14) (v := .ref (Y.2.2.2.2.2.2.1 0)) (C := RX12) (T := TX12) (N := 21) hx hb hg inG12 hown hK hP 0 rfl rfl 0 (by decide) (hg _ wF_X12_7) (fun _ h9 => h9) rfl dX12_copied_66 ?_
            refine lv_iload hx hb dX12_copied_69 (lv_at hl 0 rfl) ?_
            refine va_iald hx hb hK hP 1 0 rfl rfl (by exact hin2) dX12_copied_71 ?_
            refine lv_bipush (v := 12) hx hb dX12_copied_72 (by decide) ?_
            refine lv_icmp_ge (tgt := 118) hx hb dX12_copied_74 (by decide) (fun c9 => absurd c9 hcs.2.1) (fun _ => ?_)
            refine lv_aload_n hx hb dX12_copied_77 rfl (lv_at hl 2 rfl) ?_
            refine va_get (D := (dC, dI)) (ci := 14) (v := .ref (Y.2.2.2.2.2.2.1 0)) (C := RX12) (T := TX12) (N := 21) hx hb hg inG12 hown hK hP 0 rfl rfl 0 (by decide) (hg _ wF_X12_7) (fun _ h9 => h9) rfl dX12_copied_78 ?_
            refine lv_iload hx hb dX12_copied_81 (lv_at hl 1 rfl) ?_
            refine va_iald hx hb hK hP 1 0 rfl rfl (by exact hin1) dX12_copied_83 ?_
            refine lv_bipush (v := 8) hx hb dX12_copied_84 (by decide) ?_
            refine lv_icmp_lt (tgt := 101) hx hb dX12_copied_86 (by decide) (fun c9 => absurd c9 hcs.2.2.1) (fun _ => ?_)
            refine lv_aload_n hx hb dX12_copied_89 rfl (lv_at hl 2 rfl) ?_
            refine va_get (D := (dC, dI)) (ci := 14) (v := .ref (Y.2.2.2.2.2.2.1 0)) (C := RX12) (T := TX12) (N := 21) hx hb hg inG12 hown hK hP 0 rfl rfl 0 (by decide) (hg _ wF_X12_7) (fun _ h9 => h9) rfl dX12_copied_90 ?_
            refine lv_iload hx hb dX12_copied_93 (lv_at hl 0 rfl) ?_
            refine va_iald hx hb hK hP 1 0 rfl rfl (by exact hin2) dX12_copied_95 ?_
            refine lv_bipush (v := 8) hx hb dX12_copied_96 (by decide) ?_
            refine lv_icmp_ge (tgt := 129) hx hb dX12_copied_98 (by decide) (fun _ => ?_) (fun c9 => absurd hcs.2.2.2.1 c9)
            refine lv_iload_n hx hb dX12_copied_129 rfl (lv_at hl 5 rfl) ?_
            refine lv_if_lt (tgt := 172) hx hb dX12_copied_130 (by decide) (fun c_511 => ?_) (fun c_511 => ?_)
            · show _
              have hs1 := (sp_by (i := i0) (n := n0) (m := (Y.2.2.1 (pa a0.toNatClampNeg).toNatClampNeg)) g11.1 g11.2.1 ⟨by_lt pre8, by_lt pre10⟩ hv1.2.1).mpr (by rw [show (Y.2.2.1 (pa a0.toNatClampNeg).toNatClampNeg).toNatClampNeg = _ from hv1.2.2.1]; exact g11)
              have hs2 := (sp_by (i := j0) (n := n0) (m := (Y.2.2.1 (pa b0.toNatClampNeg).toNatClampNeg)) g12.1 g12.2.1 ⟨by_lt pre9, by_lt pre10⟩ hv2.2.1).mpr (by rw [show (Y.2.2.1 (pa b0.toNatClampNeg).toNatClampNeg).toNatClampNeg = _ from hv2.2.2.1]; exact g12)
              first | exact absurd (show i0 < 0 by assumption) g11.1 | exact absurd (show j0 < 0 by assumption) g12.1 | exact absurd (show n0 < 0 by assumption) g11.2.1 | exact absurd hs1 (ge_of (by assumption)) | exact absurd hs2 (by assumption)
            · show _
              refine lv_iload hx hb dX12_copied_133 (lv_at hl 6 rfl) ?_
              refine lv_if_lt (tgt := 172) hx hb dX12_copied_135 (by decide) (fun c_512 => ?_) (fun c_512 => ?_)
              · show _
                have hs1 := (sp_by (i := i0) (n := n0) (m := (Y.2.2.1 (pa a0.toNatClampNeg).toNatClampNeg)) g11.1 g11.2.1 ⟨by_lt pre8, by_lt pre10⟩ hv1.2.1).mpr (by rw [show (Y.2.2.1 (pa a0.toNatClampNeg).toNatClampNeg).toNatClampNeg = _ from hv1.2.2.1]; exact g11)
                have hs2 := (sp_by (i := j0) (n := n0) (m := (Y.2.2.1 (pa b0.toNatClampNeg).toNatClampNeg)) g12.1 g12.2.1 ⟨by_lt pre9, by_lt pre10⟩ hv2.2.1).mpr (by rw [show (Y.2.2.1 (pa b0.toNatClampNeg).toNatClampNeg).toNatClampNeg = _ from hv2.2.2.1]; exact g12)
                first | exact absurd (show i0 < 0 by assumption) g11.1 | exact absurd (show j0 < 0 by assumption) g12.1 | exact absurd (show n0 < 0 by assumption) g11.2.1 | exact absurd hs1 (ge_of (by assumption)) | exact absurd hs2 (by assumption)
              · show _
                refine lv_iload hx hb dX12_copied_138 (lv_at hl 7 rfl) ?_
                refine lv_if_lt (tgt := 172) hx hb dX12_copied_140 (by decide) (fun c_513 => ?_) (fun c_513 => ?_)
                · show _
                  have hs1 := (sp_by (i := i0) (n := n0) (m := (Y.2.2.1 (pa a0.toNatClampNeg).toNatClampNeg)) g11.1 g11.2.1 ⟨by_lt pre8, by_lt pre10⟩ hv1.2.1).mpr (by rw [show (Y.2.2.1 (pa a0.toNatClampNeg).toNatClampNeg).toNatClampNeg = _ from hv1.2.2.1]; exact g11)
                  have hs2 := (sp_by (i := j0) (n := n0) (m := (Y.2.2.1 (pa b0.toNatClampNeg).toNatClampNeg)) g12.1 g12.2.1 ⟨by_lt pre9, by_lt pre10⟩ hv2.2.1).mpr (by rw [show (Y.2.2.1 (pa b0.toNatClampNeg).toNatClampNeg).toNatClampNeg = _ from hv2.2.2.1]; exact g12)
                  first | exact absurd (show i0 < 0 by assumption) g11.1 | exact absurd (show j0 < 0 by assumption) g12.1 | exact absurd (show n0 < 0 by assumption) g11.2.1 | exact absurd hs1 (ge_of (by assumption)) | exact absurd hs2 (by assumption)
                · show _
                  refine lv_iload_n hx hb dX12_copied_143 rfl (lv_at hl 5 rfl) ?_
                  refine lv_iload hx hb dX12_copied_144 (lv_at hl 7 rfl) ?_
                  refine lv_iadd hx hb dX12_copied_146 ?_
                  refine lv_aload_n hx hb dX12_copied_147 rfl (lv_at hl 2 rfl) ?_
                  refine va_get (D := (dC, dI)) (ci := 14) (v := .ref (Y.2.2.2.2.2.2.1 2)) (C := RX12) (T := TX12) (N := 21) hx hb hg inG12 hown hK hP 0 rfl rfl 2 (by decide) (hg _ wF_X12_16) (fun _ h9 => h9) rfl dX12_copied_148 ?_
                  refine lv_iload hx hb dX12_copied_151 (lv_at hl 1 rfl) ?_
                  refine va_iald hx hb hK hP 3 0 rfl rfl (by exact hin1) dX12_copied_153 ?_
                  refine lv_icmp_gt (tgt := 172) hx hb dX12_copied_154 (by decide) (fun c_514 => ?_) (fun c_514 => ?_)
                  · show _
                    have hs1 := (sp_by (i := i0) (n := n0) (m := (Y.2.2.1 (pa a0.toNatClampNeg).toNatClampNeg)) g11.1 g11.2.1 ⟨by_lt pre8, by_lt pre10⟩ hv1.2.1).mpr (by rw [show (Y.2.2.1 (pa a0.toNatClampNeg).toNatClampNeg).toNatClampNeg = _ from hv1.2.2.1]; exact g11)
                    have hs2 := (sp_by (i := j0) (n := n0) (m := (Y.2.2.1 (pa b0.toNatClampNeg).toNatClampNeg)) g12.1 g12.2.1 ⟨by_lt pre9, by_lt pre10⟩ hv2.2.1).mpr (by rw [show (Y.2.2.1 (pa b0.toNatClampNeg).toNatClampNeg).toNatClampNeg = _ from hv2.2.2.1]; exact g12)
                    first | exact absurd (show i0 < 0 by assumption) g11.1 | exact absurd (show j0 < 0 by assumption) g12.1 | exact absurd (show n0 < 0 by assumption) g11.2.1 | exact absurd hs1 (ge_of (by assumption)) | exact absurd hs2 (by assumption)
                  · show _
                    refine lv_iload hx hb dX12_copied_157 (lv_at hl 6 rfl) ?_
                    refine lv_iload hx hb dX12_copied_159 (lv_at hl 7 rfl) ?_
                    refine lv_iadd hx hb dX12_copied_161 ?_
                    refine lv_aload_n hx hb dX12_copied_162 rfl (lv_at hl 2 rfl) ?_
                    refine va_get (D := (dC, dI)) (ci := 14) (v := .ref (Y.2.2.2.2.2.2.1 2)) (C := RX12) (T := TX12) (N := 21) hx hb hg inG12 hown hK hP 0 rfl rfl 2 (by decide) (hg _ wF_X12_16) (fun _ h9 => h9) rfl dX12_copied_163 ?_
                    refine lv_iload hx hb dX12_copied_166 (lv_at hl 0 rfl) ?_
                    refine va_iald hx hb hK hP 3 0 rfl rfl (by exact hin2) dX12_copied_168 ?_
                    refine lv_icmp_le (tgt := 183) hx hb dX12_copied_169 (by decide) (fun c_515 => ?_) (fun c_515 => ?_)
                    · show _
                      refine lv_iload hx hb dX12_copied_183 (lv_at hl 1 rfl) ?_
                      refine lv_iload hx hb dX12_copied_185 (lv_at hl 0 rfl) ?_
                      refine lv_icmp_ne (tgt := 200) hx hb dX12_copied_187 (by decide) (fun _ => ?_) (fun c9 => absurd c9 hdiff)
                      refine lv_iconst (v := 0) hx hb dX12_copied_200 (by decide) ?_
                      refine lv_istore (lv' := [(8, .int 0), (7, .int (pa b0.toNatClampNeg)), (6, .int (pa a0.toNatClampNeg)), (0, .ref (g 8)), (1, .int a0), (2, .int b0), (3, .int i0), (4, .int j0), (5, .int n0)]) hx hb dX12_copied_201 hl (by decide) rfl (fun ls hl => ?_)
                      refine lv_iconst (v := 0) hx hb dX12_copied_203 (by decide) ?_
                      refine lv_istore (lv' := [(9, .int 0), (8, .int 0), (7, .int (pa b0.toNatClampNeg)), (6, .int (pa a0.toNatClampNeg)), (0, .ref (g 8)), (1, .int a0), (2, .int b0), (3, .int i0), (4, .int j0), (5, .int n0)]) hx hb dX12_copied_204 hl (by decide) rfl (fun ls hl => ?_)
                      have gk1 := g6
                      have gk2 := g7
                      have gy1 := g9
                      have gy2 := g10
                      have gp1 := g11
                      have gp2 := g12
                      have LOOP206 : ∀ (N206 : Nat) (kq : Int32) (cq : Nat → Int64) (dk : Nat → Option Nat) (H : Heap) (locs : List Loc) (ls : Array Slot), n0.toNatClampNeg - kq.toNatClampNeg = N206 → (¬ kq < 0) → (kq ≤ n0) → (rR Y.2.2.2.2.2.2.2.2.2.1 (Y.1, Y.2.1, Y.2.2.1, Y.2.2.2.1, Y.2.2.2.2.1, cq, Y.2.2.2.2.2.2.1, Y.2.2.2.2.2.2.2.1, Y.2.2.2.2.2.2.2.2.1, Y.2.2.2.2.2.2.2.2.2.1, Y.2.2.2.2.2.2.2.2.2.2) pa ρ pl (pRc P y2 (dk))) → (cTh (kTk P t2) (P.2.2.2.2.2.2.2 y1) i0.toNatClampNeg j0.toNatClampNeg (n0.toNatClampNeg - kq.toNatClampNeg) kq.toNatClampNeg dk = (false, d)) → (∀ j9 t9, dk j9 = some t9 → t9 ∈ P.1 ∧ P.2.1 t9 < 7 ∧ kOf (P.2.1 t9) (P.2.2.1 t9) (P.2.2.2.1 t2) = true) → va_P (dC, dI) vwCl (rW g ty (Y.1, Y.2.1, Y.2.2.1, Y.2.2.2.1, Y.2.2.2.2.1, cq, Y.2.2.2.2.2.2.1, Y.2.2.2.2.2.2.2.1, Y.2.2.2.2.2.2.2.2.1, Y.2.2.2.2.2.2.2.2.2.1, Y.2.2.2.2.2.2.2.2.2.2) pa kp ks I tl ac wr tw) H → va_D A (rW g ty (Y.1, Y.2.1, Y.2.2.1, Y.2.2.2.1, Y.2.2.2.2.1, cq, Y.2.2.2.2.2.2.1, Y.2.2.2.2.2.2.2.1, Y.2.2.2.2.2.2.2.2.1, Y.2.2.2.2.2.2.2.2.2.1, Y.2.2.2.2.2.2.2.2.2.2) pa kp ks I tl ac wr tw) → va_S A s.heap H locs → lv_has ls 13 [(0, .ref (g 8)), (3, .int i0), (4, .int j0), (5, .int n0), (6, .int (pa a0.toNatClampNeg)), (7, .int (pa b0.toNatClampNeg)), (8, .int 0), (9, .int kq)] → W p l e ({ frames := 2, cells := 0, slots := 0, locals := 42 }) s m ([.ref (g 8), .int a0, .int b0, .int i0, .int j0, .int n0]).toArray below meth c H locs (0 + 0 + 0 + 0 + 0) (0 + 0 + 0 + 0 + 0) (MQ below (va_Ql (fun (rz : Int64) (u : rY × (Nat → Int32) × (Nat → Int32) × (Nat → Int32) × Int32 × Int32) => ∃ (r' : Int64) (Y' : rY) (pa' kp' tl' : Nat → Int32) (wr' tw' : Int32), r' = rz ∧ (Y', pa', kp', tl', wr', tw') = u ∧ rAns u9.1 rz9 pl u9.2 md tl Y r' Y' pa' tl' wr' tw') (cB (dC, dI) (fun u : rY × (Nat → Int32) × (Nat → Int32) × (Nat → Int32) × Int32 × Int32 => rW g ty u.1 u.2.1 u.2.2.1 ks I u.2.2.2.1 ac u.2.2.2.2.1 u.2.2.2.2.2) A) A) ([.ref (g 8), .int a0, .int b0, .int i0, .int j0, .int n0]).toArray s 0 0 A) (F0 m 206 ls []) := by
                        intro N206
                        induction N206 using Nat.strongRecOn with
                        | _ N206 IH206 =>
                          intro kq cq dk H locs ls hN206 q0 q1 q2 q3 q4 hP hD hS hl
                          refine lv_iload hx hb dX12_copied_206 (lv_at hl 7 rfl) ?_
                          refine lv_iload hx hb dX12_copied_208 (lv_at hl 3 rfl) ?_
                          refine lv_icmp_ge (tgt := 355) hx hb dX12_copied_210 (by decide) (fun c_516 => ?_) (fun c_516 => ?_)
                          · show _
                            have hen := (th_end (ok := kTk P t2) (src := P.2.2.2.2.2.2.2 y1) (i := i0.toNatClampNeg) (j := j0.toNatClampNeg) (d := dk) (k := kq) (n := n0) (by assumption)).symm.trans q3
                            cases hen
                          · show _
                            have hkn := k1_lt q0 (by assumption)
                            have hd9 : ¬ kq < 0 ∧ ¬ n0 ≤ kq ∧ (kq).toNatClampNeg = kq.toNatClampNeg := ⟨q0, (by assumption), rfl⟩
                            have ha1 := sp_add hd9.1 hd9.2.1 gp1 hl1
                            have ha2 := sp_add hd9.1 hd9.2.1 gp2 hl2
                            have hvs := rv_shelf (P := pRc P y2 (dk)) q2 n1t1 n2t1 n3t1 gk1 gy1
                            have hvt := rv_shelf (P := pRc P y2 (dk)) q2 n1t2 n2t2 n3t2 gk2 gy2
                            have hx9 := hvs.2.2.2 _ ha1.2.2
                            have hcr9 : va_up P.2.2.2.2.2.2.2 y2 dk y1 (i0 + kq).toNatClampNeg = P.2.2.2.2.2.2.2 y1 (i0.toNatClampNeg + kq.toNatClampNeg) := by rw [ha1.2.1, va_up_ne _ _ (fun e9 => absurd (cp_ne wf rel tht1.1 tht2.1 (Or.inr gk1) (Or.inr gk2) gy1 (by rw [e9]; exact gy2) n1t1 n2t1 n3t1 n1t2 n2t2 n3t2) hdiff)]
                            obtain ⟨o9, eo9⟩ : ∃ o9, o9 = P.2.2.2.2.2.2.2 y1 (i0.toNatClampNeg + (kq).toNatClampNeg) := ⟨_, rfl⟩
                            have ho9 : rLl Y.2.2.2.2.2.2.2.2.2.1 ρ (cq (Y.2.1 (pa a0.toNatClampNeg).toNatClampNeg + (i0 + kq)).toNatClampNeg) o9 := by have h9 := hx9.2; rw [show (pRc P y2 (dk)).2.2.2.2.2.2.2 y1 _ = _ from hcr9] at h9; exact eo9 ▸ h9
                            have hwk : cWF pl (pRc P y2 (dk)) := wf_rcS wf tht2.1 gk2 gy2 q4
                            refine lv_iload hx hb dX12_copied_213 (lv_at hl 6 rfl) ?_
                            refine lv_if_eq (tgt := 228) hx hb dX12_copied_215 (by decide) (fun _ => ?_) (fun c9 => absurd (by decide) c9) 
                            refine lv_iload hx hb dX12_copied_228 (lv_at hl 7 rfl) ?_
                            refine lv_istore (lv' := [(10, .int kq), (0, .ref (g 8)), (3, .int i0), (4, .int j0), (5, .int n0), (6, .int (pa a0.toNatClampNeg)), (7, .int (pa b0.toNatClampNeg)), (8, .int 0), (9, .int kq)]) hx hb dX12_copied_230 hl (by decide) rfl (fun ls hl => ?_)
                            refine lv_aload_n hx hb dX12_copied_232 rfl (lv_at hl 1 rfl) ?_
                            refine lv_iload hx hb dX12_copied_233 (lv_at hl 5 rfl) ?_
                            refine lv_iload_n hx hb dX12_copied_235 rfl (lv_at hl 2 rfl) ?_
                            refine lv_iload hx hb dX12_copied_236 (lv_at hl 0 rfl) ?_
                            refine lv_iadd hx hb dX12_copied_238 ?_
                            refine cV_l (C := RX12) (n := 2) (rest := []) hx hb hml hown hg hT (c_X12_cell l dC dI g ty H.size (Y.1, Y.2.1, Y.2.2.1, Y.2.2.2.1, Y.2.2.2.2.1, cq, Y.2.2.2.2.2.2.1, Y.2.2.2.2.2.2.2.1, Y.2.2.2.2.2.2.2.2.1, Y.2.2.2.2.2.2.2.2.2.1, Y.2.2.2.2.2.2.2.2.2.2) pa kp ks I tl ac wr tw (pa a0.toNatClampNeg) (i0 + kq) (by exact hvs.1) (by exact hx9.1)) (cv_of hg wM_X12_140 wN_X12_cell wL_X12_X12_cell wK_X12_cell wI_X12 (by decide +kernel) ⟨Nat.le_of_ble_eq_true rfl, Nat.le_of_ble_eq_true rfl⟩) hK hP hD hS hA (va_recv hK hP (ci := 14) (q0 := 0) rfl rfl) rfl hl.1 rfl (Nat.le_of_ble_eq_true rfl) dX12_copied_239 ⟨Nat.le_of_ble_eq_true rfl, Nat.le_of_ble_eq_true rfl⟩ (fun r_518 u_519 H locs q_517 hP hD hS => ?_)
                            obtain rfl := q_517
                            have hP : va_P (dC, dI) vwCl (rW g ty (Y.1, Y.2.1, Y.2.2.1, Y.2.2.2.1, Y.2.2.2.2.1, cq, Y.2.2.2.2.2.2.1, Y.2.2.2.2.2.2.2.1, Y.2.2.2.2.2.2.2.2.1, Y.2.2.2.2.2.2.2.2.2.1, Y.2.2.2.2.2.2.2.2.2.2) pa kp ks I tl ac wr tw) H := hP
                            have hD : va_D A (rW g ty (Y.1, Y.2.1, Y.2.2.1, Y.2.2.2.1, Y.2.2.2.2.1, cq, Y.2.2.2.2.2.2.1, Y.2.2.2.2.2.2.2.1, Y.2.2.2.2.2.2.2.2.1, Y.2.2.2.2.2.2.2.2.2.1, Y.2.2.2.2.2.2.2.2.2.2) pa kp ks I tl ac wr tw) := hD
                            refine lv_topl (fun v9 ev90 => ?_)
                            have ev9 : v9 = cq (Y.2.1 (pa a0.toNatClampNeg).toNatClampNeg + (i0 + kq)).toNatClampNeg := ev90
                            rw [← ev9] at ho9
                            refine lv_lstore (lv' := [(11, .long v9), (10, .int kq), (0, .ref (g 8)), (3, .int i0), (4, .int j0), (5, .int n0), (6, .int (pa a0.toNatClampNeg)), (7, .int (pa b0.toNatClampNeg)), (8, .int 0), (9, .int kq)]) hx hb dX12_copied_242 hl (by decide) rfl (fun ls hl => ?_)
                            refine lv_aload_n hx hb dX12_copied_244 rfl (lv_at hl 2 rfl) ?_
                            refine va_get (D := (dC, dI)) (ci := 14) (v := .ref (Y.2.2.2.2.2.2.1 0)) (C := RX12) (T := TX12) (N := 21) hx hb hg inG12 hown hK hP 0 rfl rfl 0 (by decide) (hg _ wF_X12_7) (fun _ h9 => h9) rfl dX12_copied_245 ?_
                            refine lv_iload hx hb dX12_copied_248 (lv_at hl 7 rfl) ?_
                            refine va_iald hx hb hK hP 1 0 rfl rfl (by exact hin2) dX12_copied_250 ?_
                            refine lv_bipush (v := 8) hx hb dX12_copied_251 (by decide) ?_
                            refine lv_icmp_lt (tgt := 336) hx hb dX12_copied_253 (by decide) (fun c9 => absurd c9 hcs.2.2.2.2) (fun _ => ?_)
                            refine lv_lload hx hb dX12_copied_256 (lv_at hl 0 rfl) ?_
                            refine lv_lconst (v := 0) hx hb dX12_copied_258 (by decide) ?_
                            refine W.lcmp hx hb dX12_copied_259 ?_
                            refine lv_if_eq (tgt := 336) hx hb dX12_copied_260 (by decide) (fun c_520 => ?_) (fun c_520 => ?_)
                            · show _
                              refine lv_aload_n hx hb dX12_copied_336 rfl (lv_at hl 2 rfl) ?_
                              refine lv_iload hx hb dX12_copied_337 (lv_at hl 7 rfl) ?_
                              refine lv_iload hx hb dX12_copied_339 (lv_at hl 4 rfl) ?_
                              refine lv_iload hx hb dX12_copied_341 (lv_at hl 1 rfl) ?_
                              refine lv_iadd hx hb dX12_copied_343 ?_
                              refine lv_lload hx hb dX12_copied_344 (lv_at hl 0 rfl) ?_
                              refine cV_v (C := RX12) (n := 3) (rest := []) hx hb hml hown hg hT (c_X12_put l dC dI g ty H.size (Y.1, Y.2.1, Y.2.2.1, Y.2.2.2.1, Y.2.2.2.2.1, cq, Y.2.2.2.2.2.2.1, Y.2.2.2.2.2.2.2.1, Y.2.2.2.2.2.2.2.2.1, Y.2.2.2.2.2.2.2.2.2.1, Y.2.2.2.2.2.2.2.2.2.2) pa kp ks I tl ac wr tw (pa b0.toNatClampNeg) (j0 + kq) v9 (by exact hvt.1) (by exact (hvt.2.2.2 _ ha2.2.2).1)) (cv_of hg wM_X12_151 wN_X12_put wL_X12_X12_put wK_X12_put wI_X12 (by decide +kernel) ⟨Nat.le_of_ble_eq_true rfl, Nat.le_of_ble_eq_true rfl⟩) hK hP hD hS hA (va_recv hK hP (ci := 14) (q0 := 0) rfl rfl) rfl hl.1 rfl (Nat.le_of_ble_eq_true rfl) dX12_copied_346 ⟨Nat.le_of_ble_eq_true rfl, Nat.le_of_ble_eq_true rfl⟩ (fun u_523 H locs q_521 hP hD hS => ?_)
                              obtain rfl := q_521
                              have hP : va_P (dC, dI) vwCl (rW g ty (Y.1, Y.2.1, Y.2.2.1, Y.2.2.2.1, Y.2.2.2.2.1, (vp_updL cq (Y.2.1 (pa b0.toNatClampNeg).toNatClampNeg + (j0 + kq)).toNatClampNeg v9), Y.2.2.2.2.2.2.1, Y.2.2.2.2.2.2.2.1, Y.2.2.2.2.2.2.2.2.1, Y.2.2.2.2.2.2.2.2.2.1, Y.2.2.2.2.2.2.2.2.2.2) pa kp ks I tl ac wr tw) H := hP
                              have hD : va_D A (rW g ty (Y.1, Y.2.1, Y.2.2.1, Y.2.2.2.1, Y.2.2.2.2.1, (vp_updL cq (Y.2.1 (pa b0.toNatClampNeg).toNatClampNeg + (j0 + kq)).toNatClampNeg v9), Y.2.2.2.2.2.2.1, Y.2.2.2.2.2.2.2.1, Y.2.2.2.2.2.2.2.2.1, Y.2.2.2.2.2.2.2.2.2.1, Y.2.2.2.2.2.2.2.2.2.2) pa kp ks I tl ac wr tw) := hD
                              refine lv_iinc (v := (kq + 1)) (lv' := [(9, .int (kq + 1)), (11, .long v9), (10, .int kq), (0, .ref (g 8)), (3, .int i0), (4, .int j0), (5, .int n0), (6, .int (pa a0.toNatClampNeg)), (7, .int (pa b0.toNatClampNeg)), (8, .int 0)]) hx hb dX12_copied_349 hl (k := 9) rfl rfl (by decide) rfl (fun ls hl => ?_)
                              refine lv_goto (tgt := 206) hx hb dX12_copied_352 (by decide) ?_
                              have hup := up1_clamp q0 (by assumption)
                              have hoz : o9 = none := ll_z ho9 c_520
                              have hok9 : kTk P t2 o9 = true := by rw [hoz]; rfl
                              have hgd9 := gd_up (P := P) (x2 := t2) q4 (a := (j0 + kq).toNatClampNeg) (o := o9) (fun z9 e8 => by rw [hoz] at e8; cases e8)
                              have hw9 := rw_shelf (P := pRc P y2 (dk)) hwk q2 n1t2 n2t2 n3t2 gk2 gy2 ha2.2.2 (x := v9) ho9 rfl
                              have e9 : pRc (pRc P y2 (dk)) y2 (va_up ((pRc P y2 (dk)).2.2.2.2.2.2.2 y2) (j0 + kq).toNatClampNeg o9) = pRc P y2 (va_up dk (j0 + kq).toNatClampNeg o9) := by
                                rw [pRc_pRc, show (pRc P y2 (dk)).2.2.2.2.2.2.2 y2 = dk from va_up_self _ _ _]
                              have hth9 := cth_go q0 (by assumption) ha2.2.1 eo9 hok9 q3
                              exact IH206 _ (by rw [← hN206]; exact th_dec q0 (by assumption)) (kq + 1) (vp_updL cq (Y.2.1 (pa b0.toNatClampNeg).toNatClampNeg + (j0 + kq)).toNatClampNeg v9) (va_up dk (j0 + kq).toNatClampNeg o9) _ _ _ rfl (by exact k1_nn q0 (by assumption)) (by exact k1_le (by assumption)) (by rw [← e9]; exact hw9) (by exact hth9) (by exact hgd9) hP hD hS (lv_sub hl [3, 4, 5, 6, 7, 8, 9, 0] rfl)
                            · show _
                              obtain ⟨z9, ez9, hz1, hz2, hz3⟩ := ll_nz ho9 (by assumption)
                              have hmz := wf.2.2.2.2.1 y1 _ z9 (wf_arr wf tht1.1 gk1 gy1).1 (wf_arr wf tht1.1 gk1 gy1).2 (eo9.symm.trans ez9)
                              refine lv_aload_n hx hb dX12_copied_263 rfl (lv_at hl 2 rfl) ?_
                              refine lv_lload hx hb dX12_copied_264 (lv_at hl 0 rfl) ?_
                              refine lv_l2i (v := (v9.toInt32)) hx hb dX12_copied_266 rfl ?_
                              refine lv_aload_n hx hb dX12_copied_267 rfl (lv_at hl 2 rfl) ?_
                              refine va_get (D := (dC, dI)) (ci := 14) (v := .ref (Y.2.2.2.2.2.2.1 0)) (C := RX12) (T := TX12) (N := 21) hx hb hg inG12 hown hK hP 0 rfl rfl 0 (by decide) (hg _ wF_X12_7) (fun _ h9 => h9) rfl dX12_copied_268 ?_
                              refine lv_iload hx hb dX12_copied_271 (lv_at hl 7 rfl) ?_
                              refine va_iald hx hb hK hP 1 0 rfl rfl (by exact hin2) dX12_copied_273 ?_
                              refine lv_bipush (v := 8) hx hb dX12_copied_274 (by decide) ?_
                              refine lv_icmp_ne (tgt := 283) hx hb dX12_copied_276 (by decide) (fun c_524 => ?_) (fun c_524 => ?_)
                              · show _
                                refine lv_aload_n hx hb dX12_copied_283 rfl (lv_at hl 2 rfl) ?_
                                refine va_get (D := (dC, dI)) (ci := 14) (v := .ref (Y.2.2.2.2.2.2.1 0)) (C := RX12) (T := TX12) (N := 21) hx hb hg inG12 hown hK hP 0 rfl rfl 0 (by decide) (hg _ wF_X12_7) (fun _ h9 => h9) rfl dX12_copied_284 ?_
                                refine lv_iload hx hb dX12_copied_287 (lv_at hl 7 rfl) ?_
                                refine va_iald hx hb hK hP 1 0 rfl rfl (by exact hin2) dX12_copied_289 ?_
                                refine lv_bipush (v := 9) hx hb dX12_copied_290 (by decide) ?_
                                refine lv_icmp_ne (tgt := 300) hx hb dX12_copied_292 (by decide) (fun c_525 => ?_) (fun c_525 => ?_)
                                · show _
                                  refine lv_aload_n hx hb dX12_copied_300 rfl (lv_at hl 2 rfl) ?_
                                  refine va_get (D := (dC, dI)) (ci := 14) (v := .ref (Y.2.2.2.2.2.2.1 0)) (C := RX12) (T := TX12) (N := 21) hx hb hg inG12 hown hK hP 0 rfl rfl 0 (by decide) (hg _ wF_X12_7) (fun _ h9 => h9) rfl dX12_copied_301 ?_
                                  refine lv_iload hx hb dX12_copied_304 (lv_at hl 7 rfl) ?_
                                  refine va_iald hx hb hK hP 1 0 rfl rfl (by exact hin2) dX12_copied_306 ?_
                                  refine lv_bipush (v := 10) hx hb dX12_copied_307 (by decide) ?_
                                  refine lv_icmp_ne (tgt := 317) hx hb dX12_copied_309 (by decide) (fun c_526 => ?_) (fun c_526 => ?_)
                                  · show _
                                    refine lv_bipush (v := 14) hx hb dX12_copied_317 (by decide) ?_
                                    have hrim := (rim_8 wf tht2.1 gk2 hsr2).2.2.2 c_524 c_525 c_526
                                    refine cV_i (C := RX12) (n := 2) (rest := []) hx hb hml hown hg hT (c_X12_is l dC dI g ty H.size (Y.1, Y.2.1, Y.2.2.1, Y.2.2.2.1, Y.2.2.2.2.1, cq, Y.2.2.2.2.2.2.1, Y.2.2.2.2.2.2.2.1, Y.2.2.2.2.2.2.2.2.1, Y.2.2.2.2.2.2.2.2.2.1, Y.2.2.2.2.2.2.2.2.2.2) pa kp ks I tl ac wr tw (v9.toInt32) 14 (by exact Or.inr (rk_in rel hz1 hz2).1)) (cv_of hg wM_X12_86 wN_X12_is wL_X12_X12_is wK_X12_is wI_X12 (by decide +kernel) ⟨Nat.le_of_ble_eq_true rfl, Nat.le_of_ble_eq_true rfl⟩) hK hP hD hS hA (va_recv hK hP (ci := 14) (q0 := 0) rfl rfl) rfl hl.1 rfl (Nat.le_of_ble_eq_true rfl) dX12_copied_319 ⟨Nat.le_of_ble_eq_true rfl, Nat.le_of_ble_eq_true rfl⟩ (fun r_528 u_529 H locs q_527 hP hD hS => ?_)
                                    obtain rfl := q_527
                                    have hP : va_P (dC, dI) vwCl (rW g ty (Y.1, Y.2.1, Y.2.2.1, Y.2.2.2.1, Y.2.2.2.2.1, cq, Y.2.2.2.2.2.2.1, Y.2.2.2.2.2.2.2.1, Y.2.2.2.2.2.2.2.2.1, Y.2.2.2.2.2.2.2.2.2.1, Y.2.2.2.2.2.2.2.2.2.2) pa kp ks I tl ac wr tw) H := hP
                                    have hD : va_D A (rW g ty (Y.1, Y.2.1, Y.2.2.1, Y.2.2.2.1, Y.2.2.2.2.1, cq, Y.2.2.2.2.2.2.1, Y.2.2.2.2.2.2.2.1, Y.2.2.2.2.2.2.2.2.1, Y.2.2.2.2.2.2.2.2.2.1, Y.2.2.2.2.2.2.2.2.2.2) pa kp ks I tl ac wr tw) := hD
                                    refine lv_if_ne (tgt := 336) hx hb dX12_copied_322 (by decide) (fun c_530 => ?_) (fun c_530 => ?_)
                                    · show _
                                      refine lv_aload_n hx hb dX12_copied_336 rfl (lv_at hl 2 rfl) ?_
                                      refine lv_iload hx hb dX12_copied_337 (lv_at hl 7 rfl) ?_
                                      refine lv_iload hx hb dX12_copied_339 (lv_at hl 4 rfl) ?_
                                      refine lv_iload hx hb dX12_copied_341 (lv_at hl 1 rfl) ?_
                                      refine lv_iadd hx hb dX12_copied_343 ?_
                                      refine lv_lload hx hb dX12_copied_344 (lv_at hl 0 rfl) ?_
                                      refine cV_v (C := RX12) (n := 3) (rest := []) hx hb hml hown hg hT (c_X12_put l dC dI g ty H.size (Y.1, Y.2.1, Y.2.2.1, Y.2.2.2.1, Y.2.2.2.2.1, cq, Y.2.2.2.2.2.2.1, Y.2.2.2.2.2.2.2.1, Y.2.2.2.2.2.2.2.2.1, Y.2.2.2.2.2.2.2.2.2.1, Y.2.2.2.2.2.2.2.2.2.2) pa kp ks I tl ac wr tw (pa b0.toNatClampNeg) (j0 + kq) v9 (by exact hvt.1) (by exact (hvt.2.2.2 _ ha2.2.2).1)) (cv_of hg wM_X12_151 wN_X12_put wL_X12_X12_put wK_X12_put wI_X12 (by decide +kernel) ⟨Nat.le_of_ble_eq_true rfl, Nat.le_of_ble_eq_true rfl⟩) hK hP hD hS hA (va_recv hK hP (ci := 14) (q0 := 0) rfl rfl) rfl hl.1 rfl (Nat.le_of_ble_eq_true rfl) dX12_copied_346 ⟨Nat.le_of_ble_eq_true rfl, Nat.le_of_ble_eq_true rfl⟩ (fun u_533 H locs q_531 hP hD hS => ?_)
                                      obtain rfl := q_531
                                      have hP : va_P (dC, dI) vwCl (rW g ty (Y.1, Y.2.1, Y.2.2.1, Y.2.2.2.1, Y.2.2.2.2.1, (vp_updL cq (Y.2.1 (pa b0.toNatClampNeg).toNatClampNeg + (j0 + kq)).toNatClampNeg v9), Y.2.2.2.2.2.2.1, Y.2.2.2.2.2.2.2.1, Y.2.2.2.2.2.2.2.2.1, Y.2.2.2.2.2.2.2.2.2.1, Y.2.2.2.2.2.2.2.2.2.2) pa kp ks I tl ac wr tw) H := hP
                                      have hD : va_D A (rW g ty (Y.1, Y.2.1, Y.2.2.1, Y.2.2.2.1, Y.2.2.2.2.1, (vp_updL cq (Y.2.1 (pa b0.toNatClampNeg).toNatClampNeg + (j0 + kq)).toNatClampNeg v9), Y.2.2.2.2.2.2.1, Y.2.2.2.2.2.2.2.1, Y.2.2.2.2.2.2.2.2.1, Y.2.2.2.2.2.2.2.2.2.1, Y.2.2.2.2.2.2.2.2.2.2) pa kp ks I tl ac wr tw) := hD
                                      refine lv_iinc (v := (kq + 1)) (lv' := [(9, .int (kq + 1)), (11, .long v9), (10, .int kq), (0, .ref (g 8)), (3, .int i0), (4, .int j0), (5, .int n0), (6, .int (pa a0.toNatClampNeg)), (7, .int (pa b0.toNatClampNeg)), (8, .int 0)]) hx hb dX12_copied_349 hl (k := 9) rfl rfl (by decide) rfl (fun ls hl => ?_)
                                      refine lv_goto (tgt := 206) hx hb dX12_copied_352 (by decide) ?_
                                      have hup := up1_clamp q0 (by assumption)
                                      have hkz := kz_of (isv_iff rel wf hz1 hz2 hz3 (s0 := 14) (i32_in (by decide) (by decide))) c_530
                                      have hok9 : kTk P t2 o9 = true := by rw [ez9]; show kOf _ _ _ = true; rw [hrim]; exact hkz
                                      have hgd9 := gd_up (P := P) (x2 := t2) q4 (a := (j0 + kq).toNatClampNeg) (o := o9) (fun z8 e8 => by have e7 := Option.some.inj (ez9.symm.trans e8); subst e7; exact ⟨hmz.1, hmz.2, hok9 |> fun h => by rw [ez9] at h; exact h⟩)
                                      have hw9 := rw_shelf (P := pRc P y2 (dk)) hwk q2 n1t2 n2t2 n3t2 gk2 gy2 ha2.2.2 (x := v9) ho9 rfl
                                      have e9 : pRc (pRc P y2 (dk)) y2 (va_up ((pRc P y2 (dk)).2.2.2.2.2.2.2 y2) (j0 + kq).toNatClampNeg o9) = pRc P y2 (va_up dk (j0 + kq).toNatClampNeg o9) := by
                                        rw [pRc_pRc, show (pRc P y2 (dk)).2.2.2.2.2.2.2 y2 = dk from va_up_self _ _ _]
                                      have hth9 := cth_go q0 (by assumption) ha2.2.1 eo9 hok9 q3
                                      exact IH206 _ (by rw [← hN206]; exact th_dec q0 (by assumption)) (kq + 1) (vp_updL cq (Y.2.1 (pa b0.toNatClampNeg).toNatClampNeg + (j0 + kq)).toNatClampNeg v9) (va_up dk (j0 + kq).toNatClampNeg o9) _ _ _ rfl (by exact k1_nn q0 (by assumption)) (by exact k1_le (by assumption)) (by rw [← e9]; exact hw9) (by exact hth9) (by exact hgd9) hP hD hS (lv_sub hl [3, 4, 5, 6, 7, 8, 9, 0] rfl)
                                    · show _
                                      have hkf : kTk P t2 o9 = false := by rw [ez9]; show kOf _ _ _ = false; rw [hrim]; exact (isv_iff rel wf hz1 hz2 hz3 (s0 := 14) (i32_in (by decide) (by decide))).mp c_530
                                      have hcn := cth_no q0 (by assumption) eo9 hkf q3
                                      have hdk : dk = d := (Prod.mk.inj hcn).2
                                      refine lv_aload_n hx hb dX12_copied_325 rfl (lv_at hl 2 rfl) ?_
                                      refine lv_iconst (v := 5) hx hb dX12_copied_326 (by decide) ?_
                                      refine cV_i (C := RX12) (n := 1) (rest := []) hx hb hml hown hg hT (c_X12_fails l dC dI g ty H.size (Y.1, Y.2.1, Y.2.2.1, Y.2.2.2.1, Y.2.2.2.2.1, cq, Y.2.2.2.2.2.2.1, Y.2.2.2.2.2.2.2.1, Y.2.2.2.2.2.2.2.2.1, Y.2.2.2.2.2.2.2.2.2.1, Y.2.2.2.2.2.2.2.2.2.2) pa kp ks I tl ac wr tw 5 ) (cv_of hg wM_X12_79 wN_X12_fails wL_X12_X12_fails wK_X12_fails wI_X12 (by decide +kernel) ⟨Nat.le_of_ble_eq_true rfl, Nat.le_of_ble_eq_true rfl⟩) hK hP hD hS hA (va_recv hK hP (ci := 14) (q0 := 0) rfl rfl) rfl hl.1 rfl (Nat.le_of_ble_eq_true rfl) dX12_copied_327 ⟨Nat.le_of_ble_eq_true rfl, Nat.le_of_ble_eq_true rfl⟩ (fun r_535 u_536 H locs q_534 hP hD hS => ?_)
                                      obtain ⟨rfl, rfl⟩ := q_534
                                      have hP : va_P (dC, dI) vwCl (rW g ty (Y.1, Y.2.1, Y.2.2.1, Y.2.2.2.1, Y.2.2.2.2.1, cq, Y.2.2.2.2.2.2.1, Y.2.2.2.2.2.2.2.1, Y.2.2.2.2.2.2.2.2.1, Y.2.2.2.2.2.2.2.2.2.1, Y.2.2.2.2.2.2.2.2.2.2) pa kp ks I tl ac 5 tw) H := hP
                                      have hD : va_D A (rW g ty (Y.1, Y.2.1, Y.2.2.1, Y.2.2.2.1, Y.2.2.2.2.1, cq, Y.2.2.2.2.2.2.1, Y.2.2.2.2.2.2.2.1, Y.2.2.2.2.2.2.2.2.1, Y.2.2.2.2.2.2.2.2.2.1, Y.2.2.2.2.2.2.2.2.2.2) pa kp ks I tl ac 5 tw) := hD
                                      refine lv_pop hx hb dX12_copied_330 rfl ?_
                                      refine lv_aload_n hx hb dX12_copied_331 rfl (lv_at hl 2 rfl) ?_
                                      refine cV_l (C := RX12) (n := 0) (rest := []) hx hb hml hown hg hT (c_X12_no l dC dI g ty H.size (Y.1, Y.2.1, Y.2.2.1, Y.2.2.2.1, Y.2.2.2.2.1, cq, Y.2.2.2.2.2.2.1, Y.2.2.2.2.2.2.2.1, Y.2.2.2.2.2.2.2.2.1, Y.2.2.2.2.2.2.2.2.2.1, Y.2.2.2.2.2.2.2.2.2.2) pa kp ks I tl ac 5 tw  ) (cv_of hg wM_X12_107 wN_X12_no wL_X12_X12_no wK_X12_no wI_X12 (by decide +kernel) ⟨Nat.le_of_ble_eq_true rfl, Nat.le_of_ble_eq_true rfl⟩) hK hP hD hS hA (va_recv hK hP (ci := 14) (q0 := 0) rfl rfl) rfl hl.1 rfl (Nat.le_of_ble_eq_true rfl) dX12_copied_332 ⟨Nat.le_of_ble_eq_true rfl, Nat.le_of_ble_eq_true rfl⟩ (fun r_538 u_539 H locs q_537 hP hD hS => ?_)
                                      obtain ⟨rfl, rfl⟩ := q_537
                                      have hP : va_P (dC, dI) vwCl (rW g ty (Y.1, Y.2.1, Y.2.2.1, Y.2.2.2.1, Y.2.2.2.2.1, cq, Y.2.2.2.2.2.2.1, Y.2.2.2.2.2.2.2.1, Y.2.2.2.2.2.2.2.2.1, Y.2.2.2.2.2.2.2.2.2.1, Y.2.2.2.2.2.2.2.2.2.2) pa kp ks I tl ac 5 1) H := hP
                                      have hD : va_D A (rW g ty (Y.1, Y.2.1, Y.2.2.1, Y.2.2.2.1, Y.2.2.2.2.1, cq, Y.2.2.2.2.2.2.1, Y.2.2.2.2.2.2.2.1, Y.2.2.2.2.2.2.2.2.1, Y.2.2.2.2.2.2.2.2.2.1, Y.2.2.2.2.2.2.2.2.2.2) pa kp ks I tl ac 5 1) := hD
                                      refine cr_l (wo := fun u : rY × (Nat → Int32) × (Nat → Int32) × (Nat → Int32) × Int32 × Int32 => rW g ty u.1 u.2.1 u.2.2.1 ks I u.2.2.2.1 ac u.2.2.2.2.1 u.2.2.2.2.2) (((Y.1, Y.2.1, Y.2.2.1, Y.2.2.2.1, Y.2.2.2.2.1, cq, Y.2.2.2.2.2.2.1, Y.2.2.2.2.2.2.2.1, Y.2.2.2.2.2.2.2.2.1, Y.2.2.2.2.2.2.2.2.2.1, Y.2.2.2.2.2.2.2.2.2.2), pa, kp, tl, 5, 1)) hx hb hr hlk hS hP hD ?_ dX12_copied_335
                                      exact ⟨0, (Y.1, Y.2.1, Y.2.2.1, Y.2.2.2.1, Y.2.2.2.2.1, cq, Y.2.2.2.2.2.2.1, Y.2.2.2.2.2.2.2.1, Y.2.2.2.2.2.2.2.2.1, Y.2.2.2.2.2.2.2.2.2.1, Y.2.2.2.2.2.2.2.2.2.2), pa, kp, tl, 5, 1, rfl, rfl, (by subst hu; subst hrz; exact ra_fw (f := 5) (by rw [← hdk]; exact q2) ⟨rfl, rfl, rfl, rfl⟩ hcnt htl (by decide))⟩
                                  · show _
                                    refine lv_bipush (v := 13) hx hb dX12_copied_312 (by decide) ?_
                                    refine lv_goto (tgt := 319) hx hb dX12_copied_314 (by decide) ?_
                                    have hrim := (rim_8 wf tht2.1 gk2 hsr2).2.2.1 c_526
                                    refine cV_i (C := RX12) (n := 2) (rest := []) hx hb hml hown hg hT (c_X12_is l dC dI g ty H.size (Y.1, Y.2.1, Y.2.2.1, Y.2.2.2.1, Y.2.2.2.2.1, cq, Y.2.2.2.2.2.2.1, Y.2.2.2.2.2.2.2.1, Y.2.2.2.2.2.2.2.2.1, Y.2.2.2.2.2.2.2.2.2.1, Y.2.2.2.2.2.2.2.2.2.2) pa kp ks I tl ac wr tw (v9.toInt32) 13 (by exact Or.inr (rk_in rel hz1 hz2).1)) (cv_of hg wM_X12_86 wN_X12_is wL_X12_X12_is wK_X12_is wI_X12 (by decide +kernel) ⟨Nat.le_of_ble_eq_true rfl, Nat.le_of_ble_eq_true rfl⟩) hK hP hD hS hA (va_recv hK hP (ci := 14) (q0 := 0) rfl rfl) rfl hl.1 rfl (Nat.le_of_ble_eq_true rfl) dX12_copied_319 ⟨Nat.le_of_ble_eq_true rfl, Nat.le_of_ble_eq_true rfl⟩ (fun r_541 u_542 H locs q_540 hP hD hS => ?_)
                                    obtain rfl := q_540
                                    have hP : va_P (dC, dI) vwCl (rW g ty (Y.1, Y.2.1, Y.2.2.1, Y.2.2.2.1, Y.2.2.2.2.1, cq, Y.2.2.2.2.2.2.1, Y.2.2.2.2.2.2.2.1, Y.2.2.2.2.2.2.2.2.1, Y.2.2.2.2.2.2.2.2.2.1, Y.2.2.2.2.2.2.2.2.2.2) pa kp ks I tl ac wr tw) H := hP
                                    have hD : va_D A (rW g ty (Y.1, Y.2.1, Y.2.2.1, Y.2.2.2.1, Y.2.2.2.2.1, cq, Y.2.2.2.2.2.2.1, Y.2.2.2.2.2.2.2.1, Y.2.2.2.2.2.2.2.2.1, Y.2.2.2.2.2.2.2.2.2.1, Y.2.2.2.2.2.2.2.2.2.2) pa kp ks I tl ac wr tw) := hD
                                    refine lv_if_ne (tgt := 336) hx hb dX12_copied_322 (by decide) (fun c_543 => ?_) (fun c_543 => ?_)
                                    · show _
                                      refine lv_aload_n hx hb dX12_copied_336 rfl (lv_at hl 2 rfl) ?_
                                      refine lv_iload hx hb dX12_copied_337 (lv_at hl 7 rfl) ?_
                                      refine lv_iload hx hb dX12_copied_339 (lv_at hl 4 rfl) ?_
                                      refine lv_iload hx hb dX12_copied_341 (lv_at hl 1 rfl) ?_
                                      refine lv_iadd hx hb dX12_copied_343 ?_
                                      refine lv_lload hx hb dX12_copied_344 (lv_at hl 0 rfl) ?_
                                      refine cV_v (C := RX12) (n := 3) (rest := []) hx hb hml hown hg hT (c_X12_put l dC dI g ty H.size (Y.1, Y.2.1, Y.2.2.1, Y.2.2.2.1, Y.2.2.2.2.1, cq, Y.2.2.2.2.2.2.1, Y.2.2.2.2.2.2.2.1, Y.2.2.2.2.2.2.2.2.1, Y.2.2.2.2.2.2.2.2.2.1, Y.2.2.2.2.2.2.2.2.2.2) pa kp ks I tl ac wr tw (pa b0.toNatClampNeg) (j0 + kq) v9 (by exact hvt.1) (by exact (hvt.2.2.2 _ ha2.2.2).1)) (cv_of hg wM_X12_151 wN_X12_put wL_X12_X12_put wK_X12_put wI_X12 (by decide +kernel) ⟨Nat.le_of_ble_eq_true rfl, Nat.le_of_ble_eq_true rfl⟩) hK hP hD hS hA (va_recv hK hP (ci := 14) (q0 := 0) rfl rfl) rfl hl.1 rfl (Nat.le_of_ble_eq_true rfl) dX12_copied_346 ⟨Nat.le_of_ble_eq_true rfl, Nat.le_of_ble_eq_true rfl⟩ (fun u_546 H locs q_544 hP hD hS => ?_)
                                      obtain rfl := q_544
                                      have hP : va_P (dC, dI) vwCl (rW g ty (Y.1, Y.2.1, Y.2.2.1, Y.2.2.2.1, Y.2.2.2.2.1, (vp_updL cq (Y.2.1 (pa b0.toNatClampNeg).toNatClampNeg + (j0 + kq)).toNatClampNeg v9), Y.2.2.2.2.2.2.1, Y.2.2.2.2.2.2.2.1, Y.2.2.2.2.2.2.2.2.1, Y.2.2.2.2.2.2.2.2.2.1, Y.2.2.2.2.2.2.2.2.2.2) pa kp ks I tl ac wr tw) H := hP
                                      have hD : va_D A (rW g ty (Y.1, Y.2.1, Y.2.2.1, Y.2.2.2.1, Y.2.2.2.2.1, (vp_updL cq (Y.2.1 (pa b0.toNatClampNeg).toNatClampNeg + (j0 + kq)).toNatClampNeg v9), Y.2.2.2.2.2.2.1, Y.2.2.2.2.2.2.2.1, Y.2.2.2.2.2.2.2.2.1, Y.2.2.2.2.2.2.2.2.2.1, Y.2.2.2.2.2.2.2.2.2.2) pa kp ks I tl ac wr tw) := hD
                                      refine lv_iinc (v := (kq + 1)) (lv' := [(9, .int (kq + 1)), (11, .long v9), (10, .int kq), (0, .ref (g 8)), (3, .int i0), (4, .int j0), (5, .int n0), (6, .int (pa a0.toNatClampNeg)), (7, .int (pa b0.toNatClampNeg)), (8, .int 0)]) hx hb dX12_copied_349 hl (k := 9) rfl rfl (by decide) rfl (fun ls hl => ?_)
                                      refine lv_goto (tgt := 206) hx hb dX12_copied_352 (by decide) ?_
                                      have hup := up1_clamp q0 (by assumption)
                                      have hkz := kz_of (isv_iff rel wf hz1 hz2 hz3 (s0 := 13) (i32_in (by decide) (by decide))) c_543
                                      have hok9 : kTk P t2 o9 = true := by rw [ez9]; show kOf _ _ _ = true; rw [hrim]; exact hkz
                                      have hgd9 := gd_up (P := P) (x2 := t2) q4 (a := (j0 + kq).toNatClampNeg) (o := o9) (fun z8 e8 => by have e7 := Option.some.inj (ez9.symm.trans e8); subst e7; exact ⟨hmz.1, hmz.2, hok9 |> fun h => by rw [ez9] at h; exact h⟩)
                                      have hw9 := rw_shelf (P := pRc P y2 (dk)) hwk q2 n1t2 n2t2 n3t2 gk2 gy2 ha2.2.2 (x := v9) ho9 rfl
                                      have e9 : pRc (pRc P y2 (dk)) y2 (va_up ((pRc P y2 (dk)).2.2.2.2.2.2.2 y2) (j0 + kq).toNatClampNeg o9) = pRc P y2 (va_up dk (j0 + kq).toNatClampNeg o9) := by
                                        rw [pRc_pRc, show (pRc P y2 (dk)).2.2.2.2.2.2.2 y2 = dk from va_up_self _ _ _]
                                      have hth9 := cth_go q0 (by assumption) ha2.2.1 eo9 hok9 q3
                                      exact IH206 _ (by rw [← hN206]; exact th_dec q0 (by assumption)) (kq + 1) (vp_updL cq (Y.2.1 (pa b0.toNatClampNeg).toNatClampNeg + (j0 + kq)).toNatClampNeg v9) (va_up dk (j0 + kq).toNatClampNeg o9) _ _ _ rfl (by exact k1_nn q0 (by assumption)) (by exact k1_le (by assumption)) (by rw [← e9]; exact hw9) (by exact hth9) (by exact hgd9) hP hD hS (lv_sub hl [3, 4, 5, 6, 7, 8, 9, 0] rfl)
                                    · show _
                                      have hkf : kTk P t2 o9 = false := by rw [ez9]; show kOf _ _ _ = false; rw [hrim]; exact (isv_iff rel wf hz1 hz2 hz3 (s0 := 13) (i32_in (by decide) (by decide))).mp c_543
                                      have hcn := cth_no q0 (by assumption) eo9 hkf q3
                                      have hdk : dk = d := (Prod.mk.inj hcn).2
                                      refine lv_aload_n hx hb dX12_copied_325 rfl (lv_at hl 2 rfl) ?_
                                      refine lv_iconst (v := 5) hx hb dX12_copied_326 (by decide) ?_
                                      refine cV_i (C := RX12) (n := 1) (rest := []) hx hb hml hown hg hT (c_X12_fails l dC dI g ty H.size (Y.1, Y.2.1, Y.2.2.1, Y.2.2.2.1, Y.2.2.2.2.1, cq, Y.2.2.2.2.2.2.1, Y.2.2.2.2.2.2.2.1, Y.2.2.2.2.2.2.2.2.1, Y.2.2.2.2.2.2.2.2.2.1, Y.2.2.2.2.2.2.2.2.2.2) pa kp ks I tl ac wr tw 5 ) (cv_of hg wM_X12_79 wN_X12_fails wL_X12_X12_fails wK_X12_fails wI_X12 (by decide +kernel) ⟨Nat.le_of_ble_eq_true rfl, Nat.le_of_ble_eq_true rfl⟩) hK hP hD hS hA (va_recv hK hP (ci := 14) (q0 := 0) rfl rfl) rfl hl.1 rfl (Nat.le_of_ble_eq_true rfl) dX12_copied_327 ⟨Nat.le_of_ble_eq_true rfl, Nat.le_of_ble_eq_true rfl⟩ (fun r_548 u_549 H locs q_547 hP hD hS => ?_)
                                      obtain ⟨rfl, rfl⟩ := q_547
                                      have hP : va_P (dC, dI) vwCl (rW g ty (Y.1, Y.2.1, Y.2.2.1, Y.2.2.2.1, Y.2.2.2.2.1, cq, Y.2.2.2.2.2.2.1, Y.2.2.2.2.2.2.2.1, Y.2.2.2.2.2.2.2.2.1, Y.2.2.2.2.2.2.2.2.2.1, Y.2.2.2.2.2.2.2.2.2.2) pa kp ks I tl ac 5 tw) H := hP
                                      have hD : va_D A (rW g ty (Y.1, Y.2.1, Y.2.2.1, Y.2.2.2.1, Y.2.2.2.2.1, cq, Y.2.2.2.2.2.2.1, Y.2.2.2.2.2.2.2.1, Y.2.2.2.2.2.2.2.2.1, Y.2.2.2.2.2.2.2.2.2.1, Y.2.2.2.2.2.2.2.2.2.2) pa kp ks I tl ac 5 tw) := hD
                                      refine lv_pop hx hb dX12_copied_330 rfl ?_
                                      refine lv_aload_n hx hb dX12_copied_331 rfl (lv_at hl 2 rfl) ?_
                                      refine cV_l (C := RX12) (n := 0) (rest := []) hx hb hml hown hg hT (c_X12_no l dC dI g ty H.size (Y.1, Y.2.1, Y.2.2.1, Y.2.2.2.1, Y.2.2.2.2.1, cq, Y.2.2.2.2.2.2.1, Y.2.2.2.2.2.2.2.1, Y.2.2.2.2.2.2.2.2.1, Y.2.2.2.2.2.2.2.2.2.1, Y.2.2.2.2.2.2.2.2.2.2) pa kp ks I tl ac 5 tw  ) (cv_of hg wM_X12_107 wN_X12_no wL_X12_X12_no wK_X12_no wI_X12 (by decide +kernel) ⟨Nat.le_of_ble_eq_true rfl, Nat.le_of_ble_eq_true rfl⟩) hK hP hD hS hA (va_recv hK hP (ci := 14) (q0 := 0) rfl rfl) rfl hl.1 rfl (Nat.le_of_ble_eq_true rfl) dX12_copied_332 ⟨Nat.le_of_ble_eq_true rfl, Nat.le_of_ble_eq_true rfl⟩ (fun r_551 u_552 H locs q_550 hP hD hS => ?_)
                                      obtain ⟨rfl, rfl⟩ := q_550
                                      have hP : va_P (dC, dI) vwCl (rW g ty (Y.1, Y.2.1, Y.2.2.1, Y.2.2.2.1, Y.2.2.2.2.1, cq, Y.2.2.2.2.2.2.1, Y.2.2.2.2.2.2.2.1, Y.2.2.2.2.2.2.2.2.1, Y.2.2.2.2.2.2.2.2.2.1, Y.2.2.2.2.2.2.2.2.2.2) pa kp ks I tl ac 5 1) H := hP
                                      have hD : va_D A (rW g ty (Y.1, Y.2.1, Y.2.2.1, Y.2.2.2.1, Y.2.2.2.2.1, cq, Y.2.2.2.2.2.2.1, Y.2.2.2.2.2.2.2.1, Y.2.2.2.2.2.2.2.2.1, Y.2.2.2.2.2.2.2.2.2.1, Y.2.2.2.2.2.2.2.2.2.2) pa kp ks I tl ac 5 1) := hD
                                      refine cr_l (wo := fun u : rY × (Nat → Int32) × (Nat → Int32) × (Nat → Int32) × Int32 × Int32 => rW g ty u.1 u.2.1 u.2.2.1 ks I u.2.2.2.1 ac u.2.2.2.2.1 u.2.2.2.2.2) (((Y.1, Y.2.1, Y.2.2.1, Y.2.2.2.1, Y.2.2.2.2.1, cq, Y.2.2.2.2.2.2.1, Y.2.2.2.2.2.2.2.1, Y.2.2.2.2.2.2.2.2.1, Y.2.2.2.2.2.2.2.2.2.1, Y.2.2.2.2.2.2.2.2.2.2), pa, kp, tl, 5, 1)) hx hb hr hlk hS hP hD ?_ dX12_copied_335
                                      exact ⟨0, (Y.1, Y.2.1, Y.2.2.1, Y.2.2.2.1, Y.2.2.2.2.1, cq, Y.2.2.2.2.2.2.1, Y.2.2.2.2.2.2.2.1, Y.2.2.2.2.2.2.2.2.1, Y.2.2.2.2.2.2.2.2.2.1, Y.2.2.2.2.2.2.2.2.2.2), pa, kp, tl, 5, 1, rfl, rfl, (by subst hu; subst hrz; exact ra_fw (f := 5) (by rw [← hdk]; exact q2) ⟨rfl, rfl, rfl, rfl⟩ hcnt htl (by decide))⟩
                                · show _
                                  refine lv_bipush (v := 12) hx hb dX12_copied_295 (by decide) ?_
                                  refine lv_goto (tgt := 319) hx hb dX12_copied_297 (by decide) ?_
                                  have hrim := (rim_8 wf tht2.1 gk2 hsr2).2.1 c_525
                                  refine cV_i (C := RX12) (n := 2) (rest := []) hx hb hml hown hg hT (c_X12_is l dC dI g ty H.size (Y.1, Y.2.1, Y.2.2.1, Y.2.2.2.1, Y.2.2.2.2.1, cq, Y.2.2.2.2.2.2.1, Y.2.2.2.2.2.2.2.1, Y.2.2.2.2.2.2.2.2.1, Y.2.2.2.2.2.2.2.2.2.1, Y.2.2.2.2.2.2.2.2.2.2) pa kp ks I tl ac wr tw (v9.toInt32) 12 (by exact Or.inr (rk_in rel hz1 hz2).1)) (cv_of hg wM_X12_86 wN_X12_is wL_X12_X12_is wK_X12_is wI_X12 (by decide +kernel) ⟨Nat.le_of_ble_eq_true rfl, Nat.le_of_ble_eq_true rfl⟩) hK hP hD hS hA (va_recv hK hP (ci := 14) (q0 := 0) rfl rfl) rfl hl.1 rfl (Nat.le_of_ble_eq_true rfl) dX12_copied_319 ⟨Nat.le_of_ble_eq_true rfl, Nat.le_of_ble_eq_true rfl⟩ (fun r_554 u_555 H locs q_553 hP hD hS => ?_)
                                  obtain rfl := q_553
                                  have hP : va_P (dC, dI) vwCl (rW g ty (Y.1, Y.2.1, Y.2.2.1, Y.2.2.2.1, Y.2.2.2.2.1, cq, Y.2.2.2.2.2.2.1, Y.2.2.2.2.2.2.2.1, Y.2.2.2.2.2.2.2.2.1, Y.2.2.2.2.2.2.2.2.2.1, Y.2.2.2.2.2.2.2.2.2.2) pa kp ks I tl ac wr tw) H := hP
                                  have hD : va_D A (rW g ty (Y.1, Y.2.1, Y.2.2.1, Y.2.2.2.1, Y.2.2.2.2.1, cq, Y.2.2.2.2.2.2.1, Y.2.2.2.2.2.2.2.1, Y.2.2.2.2.2.2.2.2.1, Y.2.2.2.2.2.2.2.2.2.1, Y.2.2.2.2.2.2.2.2.2.2) pa kp ks I tl ac wr tw) := hD
                                  refine lv_if_ne (tgt := 336) hx hb dX12_copied_322 (by decide) (fun c_556 => ?_) (fun c_556 => ?_)
                                  · show _
                                    refine lv_aload_n hx hb dX12_copied_336 rfl (lv_at hl 2 rfl) ?_
                                    refine lv_iload hx hb dX12_copied_337 (lv_at hl 7 rfl) ?_
                                    refine lv_iload hx hb dX12_copied_339 (lv_at hl 4 rfl) ?_
                                    refine lv_iload hx hb dX12_copied_341 (lv_at hl 1 rfl) ?_
                                    refine lv_iadd hx hb dX12_copied_343 ?_
                                    refine lv_lload hx hb dX12_copied_344 (lv_at hl 0 rfl) ?_
                                    refine cV_v (C := RX12) (n := 3) (rest := []) hx hb hml hown hg hT (c_X12_put l dC dI g ty H.size (Y.1, Y.2.1, Y.2.2.1, Y.2.2.2.1, Y.2.2.2.2.1, cq, Y.2.2.2.2.2.2.1, Y.2.2.2.2.2.2.2.1, Y.2.2.2.2.2.2.2.2.1, Y.2.2.2.2.2.2.2.2.2.1, Y.2.2.2.2.2.2.2.2.2.2) pa kp ks I tl ac wr tw (pa b0.toNatClampNeg) (j0 + kq) v9 (by exact hvt.1) (by exact (hvt.2.2.2 _ ha2.2.2).1)) (cv_of hg wM_X12_151 wN_X12_put wL_X12_X12_put wK_X12_put wI_X12 (by decide +kernel) ⟨Nat.le_of_ble_eq_true rfl, Nat.le_of_ble_eq_true rfl⟩) hK hP hD hS hA (va_recv hK hP (ci := 14) (q0 := 0) rfl rfl) rfl hl.1 rfl (Nat.le_of_ble_eq_true rfl) dX12_copied_346 ⟨Nat.le_of_ble_eq_true rfl, Nat.le_of_ble_eq_true rfl⟩ (fun u_559 H locs q_557 hP hD hS => ?_)
                                    obtain rfl := q_557
                                    have hP : va_P (dC, dI) vwCl (rW g ty (Y.1, Y.2.1, Y.2.2.1, Y.2.2.2.1, Y.2.2.2.2.1, (vp_updL cq (Y.2.1 (pa b0.toNatClampNeg).toNatClampNeg + (j0 + kq)).toNatClampNeg v9), Y.2.2.2.2.2.2.1, Y.2.2.2.2.2.2.2.1, Y.2.2.2.2.2.2.2.2.1, Y.2.2.2.2.2.2.2.2.2.1, Y.2.2.2.2.2.2.2.2.2.2) pa kp ks I tl ac wr tw) H := hP
                                    have hD : va_D A (rW g ty (Y.1, Y.2.1, Y.2.2.1, Y.2.2.2.1, Y.2.2.2.2.1, (vp_updL cq (Y.2.1 (pa b0.toNatClampNeg).toNatClampNeg + (j0 + kq)).toNatClampNeg v9), Y.2.2.2.2.2.2.1, Y.2.2.2.2.2.2.2.1, Y.2.2.2.2.2.2.2.2.1, Y.2.2.2.2.2.2.2.2.2.1, Y.2.2.2.2.2.2.2.2.2.2) pa kp ks I tl ac wr tw) := hD
                                    refine lv_iinc (v := (kq + 1)) (lv' := [(9, .int (kq + 1)), (11, .long v9), (10, .int kq), (0, .ref (g 8)), (3, .int i0), (4, .int j0), (5, .int n0), (6, .int (pa a0.toNatClampNeg)), (7, .int (pa b0.toNatClampNeg)), (8, .int 0)]) hx hb dX12_copied_349 hl (k := 9) rfl rfl (by decide) rfl (fun ls hl => ?_)
                                    refine lv_goto (tgt := 206) hx hb dX12_copied_352 (by decide) ?_
                                    have hup := up1_clamp q0 (by assumption)
                                    have hkz := kz_of (isv_iff rel wf hz1 hz2 hz3 (s0 := 12) (i32_in (by decide) (by decide))) c_556
                                    have hok9 : kTk P t2 o9 = true := by rw [ez9]; show kOf _ _ _ = true; rw [hrim]; exact hkz
                                    have hgd9 := gd_up (P := P) (x2 := t2) q4 (a := (j0 + kq).toNatClampNeg) (o := o9) (fun z8 e8 => by have e7 := Option.some.inj (ez9.symm.trans e8); subst e7; exact ⟨hmz.1, hmz.2, hok9 |> fun h => by rw [ez9] at h; exact h⟩)
                                    have hw9 := rw_shelf (P := pRc P y2 (dk)) hwk q2 n1t2 n2t2 n3t2 gk2 gy2 ha2.2.2 (x := v9) ho9 rfl
                                    have e9 : pRc (pRc P y2 (dk)) y2 (va_up ((pRc P y2 (dk)).2.2.2.2.2.2.2 y2) (j0 + kq).toNatClampNeg o9) = pRc P y2 (va_up dk (j0 + kq).toNatClampNeg o9) := by
                                      rw [pRc_pRc, show (pRc P y2 (dk)).2.2.2.2.2.2.2 y2 = dk from va_up_self _ _ _]
                                    have hth9 := cth_go q0 (by assumption) ha2.2.1 eo9 hok9 q3
                                    exact IH206 _ (by rw [← hN206]; exact th_dec q0 (by assumption)) (kq + 1) (vp_updL cq (Y.2.1 (pa b0.toNatClampNeg).toNatClampNeg + (j0 + kq)).toNatClampNeg v9) (va_up dk (j0 + kq).toNatClampNeg o9) _ _ _ rfl (by exact k1_nn q0 (by assumption)) (by exact k1_le (by assumption)) (by rw [← e9]; exact hw9) (by exact hth9) (by exact hgd9) hP hD hS (lv_sub hl [3, 4, 5, 6, 7, 8, 9, 0] rfl)
                                  · show _
                                    have hkf : kTk P t2 o9 = false := by rw [ez9]; show kOf _ _ _ = false; rw [hrim]; exact (isv_iff rel wf hz1 hz2 hz3 (s0 := 12) (i32_in (by decide) (by decide))).mp c_556
                                    have hcn := cth_no q0 (by assumption) eo9 hkf q3
                                    have hdk : dk = d := (Prod.mk.inj hcn).2
                                    refine lv_aload_n hx hb dX12_copied_325 rfl (lv_at hl 2 rfl) ?_
                                    refine lv_iconst (v := 5) hx hb dX12_copied_326 (by decide) ?_
                                    refine cV_i (C := RX12) (n := 1) (rest := []) hx hb hml hown hg hT (c_X12_fails l dC dI g ty H.size (Y.1, Y.2.1, Y.2.2.1, Y.2.2.2.1, Y.2.2.2.2.1, cq, Y.2.2.2.2.2.2.1, Y.2.2.2.2.2.2.2.1, Y.2.2.2.2.2.2.2.2.1, Y.2.2.2.2.2.2.2.2.2.1, Y.2.2.2.2.2.2.2.2.2.2) pa kp ks I tl ac wr tw 5 ) (cv_of hg wM_X12_79 wN_X12_fails wL_X12_X12_fails wK_X12_fails wI_X12 (by decide +kernel) ⟨Nat.le_of_ble_eq_true rfl, Nat.le_of_ble_eq_true rfl⟩) hK hP hD hS hA (va_recv hK hP (ci := 14) (q0 := 0) rfl rfl) rfl hl.1 rfl (Nat.le_of_ble_eq_true rfl) dX12_copied_327 ⟨Nat.le_of_ble_eq_true rfl, Nat.le_of_ble_eq_true rfl⟩ (fun r_561 u_562 H locs q_560 hP hD hS => ?_)
                                    obtain ⟨rfl, rfl⟩ := q_560
                                    have hP : va_P (dC, dI) vwCl (rW g ty (Y.1, Y.2.1, Y.2.2.1, Y.2.2.2.1, Y.2.2.2.2.1, cq, Y.2.2.2.2.2.2.1, Y.2.2.2.2.2.2.2.1, Y.2.2.2.2.2.2.2.2.1, Y.2.2.2.2.2.2.2.2.2.1, Y.2.2.2.2.2.2.2.2.2.2) pa kp ks I tl ac 5 tw) H := hP
                                    have hD : va_D A (rW g ty (Y.1, Y.2.1, Y.2.2.1, Y.2.2.2.1, Y.2.2.2.2.1, cq, Y.2.2.2.2.2.2.1, Y.2.2.2.2.2.2.2.1, Y.2.2.2.2.2.2.2.2.1, Y.2.2.2.2.2.2.2.2.2.1, Y.2.2.2.2.2.2.2.2.2.2) pa kp ks I tl ac 5 tw) := hD
                                    refine lv_pop hx hb dX12_copied_330 rfl ?_
                                    refine lv_aload_n hx hb dX12_copied_331 rfl (lv_at hl 2 rfl) ?_
                                    refine cV_l (C := RX12) (n := 0) (rest := []) hx hb hml hown hg hT (c_X12_no l dC dI g ty H.size (Y.1, Y.2.1, Y.2.2.1, Y.2.2.2.1, Y.2.2.2.2.1, cq, Y.2.2.2.2.2.2.1, Y.2.2.2.2.2.2.2.1, Y.2.2.2.2.2.2.2.2.1, Y.2.2.2.2.2.2.2.2.2.1, Y.2.2.2.2.2.2.2.2.2.2) pa kp ks I tl ac 5 tw  ) (cv_of hg wM_X12_107 wN_X12_no wL_X12_X12_no wK_X12_no wI_X12 (by decide +kernel) ⟨Nat.le_of_ble_eq_true rfl, Nat.le_of_ble_eq_true rfl⟩) hK hP hD hS hA (va_recv hK hP (ci := 14) (q0 := 0) rfl rfl) rfl hl.1 rfl (Nat.le_of_ble_eq_true rfl) dX12_copied_332 ⟨Nat.le_of_ble_eq_true rfl, Nat.le_of_ble_eq_true rfl⟩ (fun r_564 u_565 H locs q_563 hP hD hS => ?_)
                                    obtain ⟨rfl, rfl⟩ := q_563
                                    have hP : va_P (dC, dI) vwCl (rW g ty (Y.1, Y.2.1, Y.2.2.1, Y.2.2.2.1, Y.2.2.2.2.1, cq, Y.2.2.2.2.2.2.1, Y.2.2.2.2.2.2.2.1, Y.2.2.2.2.2.2.2.2.1, Y.2.2.2.2.2.2.2.2.2.1, Y.2.2.2.2.2.2.2.2.2.2) pa kp ks I tl ac 5 1) H := hP
                                    have hD : va_D A (rW g ty (Y.1, Y.2.1, Y.2.2.1, Y.2.2.2.1, Y.2.2.2.2.1, cq, Y.2.2.2.2.2.2.1, Y.2.2.2.2.2.2.2.1, Y.2.2.2.2.2.2.2.2.1, Y.2.2.2.2.2.2.2.2.2.1, Y.2.2.2.2.2.2.2.2.2.2) pa kp ks I tl ac 5 1) := hD
                                    refine cr_l (wo := fun u : rY × (Nat → Int32) × (Nat → Int32) × (Nat → Int32) × Int32 × Int32 => rW g ty u.1 u.2.1 u.2.2.1 ks I u.2.2.2.1 ac u.2.2.2.2.1 u.2.2.2.2.2) (((Y.1, Y.2.1, Y.2.2.1, Y.2.2.2.1, Y.2.2.2.2.1, cq, Y.2.2.2.2.2.2.1, Y.2.2.2.2.2.2.2.1, Y.2.2.2.2.2.2.2.2.1, Y.2.2.2.2.2.2.2.2.2.1, Y.2.2.2.2.2.2.2.2.2.2), pa, kp, tl, 5, 1)) hx hb hr hlk hS hP hD ?_ dX12_copied_335
                                    exact ⟨0, (Y.1, Y.2.1, Y.2.2.1, Y.2.2.2.1, Y.2.2.2.2.1, cq, Y.2.2.2.2.2.2.1, Y.2.2.2.2.2.2.2.1, Y.2.2.2.2.2.2.2.2.1, Y.2.2.2.2.2.2.2.2.2.1, Y.2.2.2.2.2.2.2.2.2.2), pa, kp, tl, 5, 1, rfl, rfl, (by subst hu; subst hrz; exact ra_fw (f := 5) (by rw [← hdk]; exact q2) ⟨rfl, rfl, rfl, rfl⟩ hcnt htl (by decide))⟩
                              · show _
                                refine lv_iconst (v := 0) hx hb dX12_copied_279 (by decide) ?_
                                refine lv_goto (tgt := 319) hx hb dX12_copied_280 (by decide) ?_
                                have hrim := (rim_8 wf tht2.1 gk2 hsr2).1 c_524
                                refine cV_i (C := RX12) (n := 2) (rest := []) hx hb hml hown hg hT (c_X12_is l dC dI g ty H.size (Y.1, Y.2.1, Y.2.2.1, Y.2.2.2.1, Y.2.2.2.2.1, cq, Y.2.2.2.2.2.2.1, Y.2.2.2.2.2.2.2.1, Y.2.2.2.2.2.2.2.2.1, Y.2.2.2.2.2.2.2.2.2.1, Y.2.2.2.2.2.2.2.2.2.2) pa kp ks I tl ac wr tw (v9.toInt32) 0 (by exact Or.inr (rk_in rel hz1 hz2).1)) (cv_of hg wM_X12_86 wN_X12_is wL_X12_X12_is wK_X12_is wI_X12 (by decide +kernel) ⟨Nat.le_of_ble_eq_true rfl, Nat.le_of_ble_eq_true rfl⟩) hK hP hD hS hA (va_recv hK hP (ci := 14) (q0 := 0) rfl rfl) rfl hl.1 rfl (Nat.le_of_ble_eq_true rfl) dX12_copied_319 ⟨Nat.le_of_ble_eq_true rfl, Nat.le_of_ble_eq_true rfl⟩ (fun r_567 u_568 H locs q_566 hP hD hS => ?_)
                                obtain rfl := q_566
                                have hP : va_P (dC, dI) vwCl (rW g ty (Y.1, Y.2.1, Y.2.2.1, Y.2.2.2.1, Y.2.2.2.2.1, cq, Y.2.2.2.2.2.2.1, Y.2.2.2.2.2.2.2.1, Y.2.2.2.2.2.2.2.2.1, Y.2.2.2.2.2.2.2.2.2.1, Y.2.2.2.2.2.2.2.2.2.2) pa kp ks I tl ac wr tw) H := hP
                                have hD : va_D A (rW g ty (Y.1, Y.2.1, Y.2.2.1, Y.2.2.2.1, Y.2.2.2.2.1, cq, Y.2.2.2.2.2.2.1, Y.2.2.2.2.2.2.2.1, Y.2.2.2.2.2.2.2.2.1, Y.2.2.2.2.2.2.2.2.2.1, Y.2.2.2.2.2.2.2.2.2.2) pa kp ks I tl ac wr tw) := hD
                                refine lv_if_ne (tgt := 336) hx hb dX12_copied_322 (by decide) (fun c_569 => ?_) (fun c_569 => ?_)
                                · show _
                                  refine lv_aload_n hx hb dX12_copied_336 rfl (lv_at hl 2 rfl) ?_
                                  refine lv_iload hx hb dX12_copied_337 (lv_at hl 7 rfl) ?_
                                  refine lv_iload hx hb dX12_copied_339 (lv_at hl 4 rfl) ?_
                                  refine lv_iload hx hb dX12_copied_341 (lv_at hl 1 rfl) ?_
                                  refine lv_iadd hx hb dX12_copied_343 ?_
                                  refine lv_lload hx hb dX12_copied_344 (lv_at hl 0 rfl) ?_
                                  refine cV_v (C := RX12) (n := 3) (rest := []) hx hb hml hown hg hT (c_X12_put l dC dI g ty H.size (Y.1, Y.2.1, Y.2.2.1, Y.2.2.2.1, Y.2.2.2.2.1, cq, Y.2.2.2.2.2.2.1, Y.2.2.2.2.2.2.2.1, Y.2.2.2.2.2.2.2.2.1, Y.2.2.2.2.2.2.2.2.2.1, Y.2.2.2.2.2.2.2.2.2.2) pa kp ks I tl ac wr tw (pa b0.toNatClampNeg) (j0 + kq) v9 (by exact hvt.1) (by exact (hvt.2.2.2 _ ha2.2.2).1)) (cv_of hg wM_X12_151 wN_X12_put wL_X12_X12_put wK_X12_put wI_X12 (by decide +kernel) ⟨Nat.le_of_ble_eq_true rfl, Nat.le_of_ble_eq_true rfl⟩) hK hP hD hS hA (va_recv hK hP (ci := 14) (q0 := 0) rfl rfl) rfl hl.1 rfl (Nat.le_of_ble_eq_true rfl) dX12_copied_346 ⟨Nat.le_of_ble_eq_true rfl, Nat.le_of_ble_eq_true rfl⟩ (fun u_572 H locs q_570 hP hD hS => ?_)
                                  obtain rfl := q_570
                                  have hP : va_P (dC, dI) vwCl (rW g ty (Y.1, Y.2.1, Y.2.2.1, Y.2.2.2.1, Y.2.2.2.2.1, (vp_updL cq (Y.2.1 (pa b0.toNatClampNeg).toNatClampNeg + (j0 + kq)).toNatClampNeg v9), Y.2.2.2.2.2.2.1, Y.2.2.2.2.2.2.2.1, Y.2.2.2.2.2.2.2.2.1, Y.2.2.2.2.2.2.2.2.2.1, Y.2.2.2.2.2.2.2.2.2.2) pa kp ks I tl ac wr tw) H := hP
                                  have hD : va_D A (rW g ty (Y.1, Y.2.1, Y.2.2.1, Y.2.2.2.1, Y.2.2.2.2.1, (vp_updL cq (Y.2.1 (pa b0.toNatClampNeg).toNatClampNeg + (j0 + kq)).toNatClampNeg v9), Y.2.2.2.2.2.2.1, Y.2.2.2.2.2.2.2.1, Y.2.2.2.2.2.2.2.2.1, Y.2.2.2.2.2.2.2.2.2.1, Y.2.2.2.2.2.2.2.2.2.2) pa kp ks I tl ac wr tw) := hD
                                  refine lv_iinc (v := (kq + 1)) (lv' := [(9, .int (kq + 1)), (11, .long v9), (10, .int kq), (0, .ref (g 8)), (3, .int i0), (4, .int j0), (5, .int n0), (6, .int (pa a0.toNatClampNeg)), (7, .int (pa b0.toNatClampNeg)), (8, .int 0)]) hx hb dX12_copied_349 hl (k := 9) rfl rfl (by decide) rfl (fun ls hl => ?_)
                                  refine lv_goto (tgt := 206) hx hb dX12_copied_352 (by decide) ?_
                                  have hup := up1_clamp q0 (by assumption)
                                  have hkz := kz_of (isv_iff rel wf hz1 hz2 hz3 (s0 := 0) (i32_in (by decide) (by decide))) c_569
                                  have hok9 : kTk P t2 o9 = true := by rw [ez9]; show kOf _ _ _ = true; rw [hrim]; exact hkz
                                  have hgd9 := gd_up (P := P) (x2 := t2) q4 (a := (j0 + kq).toNatClampNeg) (o := o9) (fun z8 e8 => by have e7 := Option.some.inj (ez9.symm.trans e8); subst e7; exact ⟨hmz.1, hmz.2, hok9 |> fun h => by rw [ez9] at h; exact h⟩)
                                  have hw9 := rw_shelf (P := pRc P y2 (dk)) hwk q2 n1t2 n2t2 n3t2 gk2 gy2 ha2.2.2 (x := v9) ho9 rfl
                                  have e9 : pRc (pRc P y2 (dk)) y2 (va_up ((pRc P y2 (dk)).2.2.2.2.2.2.2 y2) (j0 + kq).toNatClampNeg o9) = pRc P y2 (va_up dk (j0 + kq).toNatClampNeg o9) := by
                                    rw [pRc_pRc, show (pRc P y2 (dk)).2.2.2.2.2.2.2 y2 = dk from va_up_self _ _ _]
                                  have hth9 := cth_go q0 (by assumption) ha2.2.1 eo9 hok9 q3
                                  exact IH206 _ (by rw [← hN206]; exact th_dec q0 (by assumption)) (kq + 1) (vp_updL cq (Y.2.1 (pa b0.toNatClampNeg).toNatClampNeg + (j0 + kq)).toNatClampNeg v9) (va_up dk (j0 + kq).toNatClampNeg o9) _ _ _ rfl (by exact k1_nn q0 (by assumption)) (by exact k1_le (by assumption)) (by rw [← e9]; exact hw9) (by exact hth9) (by exact hgd9) hP hD hS (lv_sub hl [3, 4, 5, 6, 7, 8, 9, 0] rfl)
                                · show _
                                  have hkf : kTk P t2 o9 = false := by rw [ez9]; show kOf _ _ _ = false; rw [hrim]; exact (isv_iff rel wf hz1 hz2 hz3 (s0 := 0) (i32_in (by decide) (by decide))).mp c_569
                                  have hcn := cth_no q0 (by assumption) eo9 hkf q3
                                  have hdk : dk = d := (Prod.mk.inj hcn).2
                                  refine lv_aload_n hx hb dX12_copied_325 rfl (lv_at hl 2 rfl) ?_
                                  refine lv_iconst (v := 5) hx hb dX12_copied_326 (by decide) ?_
                                  refine cV_i (C := RX12) (n := 1) (rest := []) hx hb hml hown hg hT (c_X12_fails l dC dI g ty H.size (Y.1, Y.2.1, Y.2.2.1, Y.2.2.2.1, Y.2.2.2.2.1, cq, Y.2.2.2.2.2.2.1, Y.2.2.2.2.2.2.2.1, Y.2.2.2.2.2.2.2.2.1, Y.2.2.2.2.2.2.2.2.2.1, Y.2.2.2.2.2.2.2.2.2.2) pa kp ks I tl ac wr tw 5 ) (cv_of hg wM_X12_79 wN_X12_fails wL_X12_X12_fails wK_X12_fails wI_X12 (by decide +kernel) ⟨Nat.le_of_ble_eq_true rfl, Nat.le_of_ble_eq_true rfl⟩) hK hP hD hS hA (va_recv hK hP (ci := 14) (q0 := 0) rfl rfl) rfl hl.1 rfl (Nat.le_of_ble_eq_true rfl) dX12_copied_327 ⟨Nat.le_of_ble_eq_true rfl, Nat.le_of_ble_eq_true rfl⟩ (fun r_574 u_575 H locs q_573 hP hD hS => ?_)
                                  obtain ⟨rfl, rfl⟩ := q_573
                                  have hP : va_P (dC, dI) vwCl (rW g ty (Y.1, Y.2.1, Y.2.2.1, Y.2.2.2.1, Y.2.2.2.2.1, cq, Y.2.2.2.2.2.2.1, Y.2.2.2.2.2.2.2.1, Y.2.2.2.2.2.2.2.2.1, Y.2.2.2.2.2.2.2.2.2.1, Y.2.2.2.2.2.2.2.2.2.2) pa kp ks I tl ac 5 tw) H := hP
                                  have hD : va_D A (rW g ty (Y.1, Y.2.1, Y.2.2.1, Y.2.2.2.1, Y.2.2.2.2.1, cq, Y.2.2.2.2.2.2.1, Y.2.2.2.2.2.2.2.1, Y.2.2.2.2.2.2.2.2.1, Y.2.2.2.2.2.2.2.2.2.1, Y.2.2.2.2.2.2.2.2.2.2) pa kp ks I tl ac 5 tw) := hD
                                  refine lv_pop hx hb dX12_copied_330 rfl ?_
                                  refine lv_aload_n hx hb dX12_copied_331 rfl (lv_at hl 2 rfl) ?_
                                  refine cV_l (C := RX12) (n := 0) (rest := []) hx hb hml hown hg hT (c_X12_no l dC dI g ty H.size (Y.1, Y.2.1, Y.2.2.1, Y.2.2.2.1, Y.2.2.2.2.1, cq, Y.2.2.2.2.2.2.1, Y.2.2.2.2.2.2.2.1, Y.2.2.2.2.2.2.2.2.1, Y.2.2.2.2.2.2.2.2.2.1, Y.2.2.2.2.2.2.2.2.2.2) pa kp ks I tl ac 5 tw  ) (cv_of hg wM_X12_107 wN_X12_no wL_X12_X12_no wK_X12_no wI_X12 (by decide +kernel) ⟨Nat.le_of_ble_eq_true rfl, Nat.le_of_ble_eq_true rfl⟩) hK hP hD hS hA (va_recv hK hP (ci := 14) (q0 := 0) rfl rfl) rfl hl.1 rfl (Nat.le_of_ble_eq_true rfl) dX12_copied_332 ⟨Nat.le_of_ble_eq_true rfl, Nat.le_of_ble_eq_true rfl⟩ (fun r_577 u_578 H locs q_576 hP hD hS => ?_)
                                  obtain ⟨rfl, rfl⟩ := q_576
                                  have hP : va_P (dC, dI) vwCl (rW g ty (Y.1, Y.2.1, Y.2.2.1, Y.2.2.2.1, Y.2.2.2.2.1, cq, Y.2.2.2.2.2.2.1, Y.2.2.2.2.2.2.2.1, Y.2.2.2.2.2.2.2.2.1, Y.2.2.2.2.2.2.2.2.2.1, Y.2.2.2.2.2.2.2.2.2.2) pa kp ks I tl ac 5 1) H := hP
                                  have hD : va_D A (rW g ty (Y.1, Y.2.1, Y.2.2.1, Y.2.2.2.1, Y.2.2.2.2.1, cq, Y.2.2.2.2.2.2.1, Y.2.2.2.2.2.2.2.1, Y.2.2.2.2.2.2.2.2.1, Y.2.2.2.2.2.2.2.2.2.1, Y.2.2.2.2.2.2.2.2.2.2) pa kp ks I tl ac 5 1) := hD
                                  refine cr_l (wo := fun u : rY × (Nat → Int32) × (Nat → Int32) × (Nat → Int32) × Int32 × Int32 => rW g ty u.1 u.2.1 u.2.2.1 ks I u.2.2.2.1 ac u.2.2.2.2.1 u.2.2.2.2.2) (((Y.1, Y.2.1, Y.2.2.1, Y.2.2.2.1, Y.2.2.2.2.1, cq, Y.2.2.2.2.2.2.1, Y.2.2.2.2.2.2.2.1, Y.2.2.2.2.2.2.2.2.1, Y.2.2.2.2.2.2.2.2.2.1, Y.2.2.2.2.2.2.2.2.2.2), pa, kp, tl, 5, 1)) hx hb hr hlk hS hP hD ?_ dX12_copied_335
                                  exact ⟨0, (Y.1, Y.2.1, Y.2.2.1, Y.2.2.2.1, Y.2.2.2.2.1, cq, Y.2.2.2.2.2.2.1, Y.2.2.2.2.2.2.2.1, Y.2.2.2.2.2.2.2.2.1, Y.2.2.2.2.2.2.2.2.2.1, Y.2.2.2.2.2.2.2.2.2.2), pa, kp, tl, 5, 1, rfl, rfl, (by subst hu; subst hrz; exact ra_fw (f := 5) (by rw [← hdk]; exact q2) ⟨rfl, rfl, rfl, rfl⟩ hcnt htl (by decide))⟩
                      exact LOOP206 _ 0 Y.2.2.2.2.2.1 (P.2.2.2.2.2.2.2 y2) _ _ _ rfl (by decide) (by exact nn_of (by assumption)) (by rw [pRc_self]; exact rel) (by exact g13) (by exact cp_g0 wf tht2.1 gk2 gy2) hP hD hS (lv_sub hl [4, 7, 8, 9, 3, 2, 1, 0] rfl)
                    · show _
                      have hs1 := (sp_by (i := i0) (n := n0) (m := (Y.2.2.1 (pa a0.toNatClampNeg).toNatClampNeg)) g11.1 g11.2.1 ⟨by_lt pre8, by_lt pre10⟩ hv1.2.1).mpr (by rw [show (Y.2.2.1 (pa a0.toNatClampNeg).toNatClampNeg).toNatClampNeg = _ from hv1.2.2.1]; exact g11)
                      have hs2 := (sp_by (i := j0) (n := n0) (m := (Y.2.2.1 (pa b0.toNatClampNeg).toNatClampNeg)) g12.1 g12.2.1 ⟨by_lt pre9, by_lt pre10⟩ hv2.2.1).mpr (by rw [show (Y.2.2.1 (pa b0.toNatClampNeg).toNatClampNeg).toNatClampNeg = _ from hv2.2.2.1]; exact g12)
                      first | exact absurd (show i0 < 0 by assumption) g11.1 | exact absurd (show j0 < 0 by assumption) g12.1 | exact absurd (show n0 < 0 by assumption) g11.2.1 | exact absurd hs1 (ge_of (by assumption)) | exact absurd hs2 (by assumption)
  · show _
    obtain ⟨n1t1, n2t1, n3t1⟩ := rk_some rel g2 g4
    have hnet1 := (i32_pos n1t1).2.1
    have tht1 := wf.1 _ _ g4
    obtain ⟨n1t2, n2t2, n3t2⟩ := rk_some rel g3 g5
    have hnet2 := (i32_pos n1t2).2.1
    have tht2 := wf.1 _ _ g5
    have hsr1 := rv_sr rel n1t1 n2t1 n3t1
    have hsr2 := rv_sr rel n1t2 n2t2 n3t2
    have hck := cp_kind wf tht1 tht2 hsr1 hsr2
    have hin1 := (rk_in rel n1t1 n2t1).1
    have hin2 := (rk_in rel n1t2 n2t2).1
    have hl : lv_has ls 13 [(0, .ref (g 8)), (1, .int a0), (2, .int b0), (3, .int i0), (4, .int j0), (5, .int n0)] := hl
    refine lv_aload_n hx hb dX12_copied_0 rfl (lv_at hl 0 rfl) ?_
    refine lv_iload_n hx hb dX12_copied_1 rfl (lv_at hl 1 rfl) ?_
    refine cV_i (C := RX12) (n := 1) (rest := []) hx hb hml hown hg hT (c_X12_place l dC dI g ty s.heap.size Y pa kp ks I tl ac wr tw a0 ) (cv_of hg wM_X12_83 wN_X12_place wL_X12_X12_place wK_X12_place wI_X12 (by decide +kernel) ⟨Nat.le_of_ble_eq_true rfl, Nat.le_of_ble_eq_true rfl⟩) hK hP hD hS hA (va_recv hK hP (ci := 14) (q0 := 0) rfl rfl) rfl hl.1 rfl (Nat.le_of_ble_eq_true rfl) dX12_copied_2 ⟨Nat.le_of_ble_eq_true rfl, Nat.le_of_ble_eq_true rfl⟩ (fun r_580 u_581 H locs q_579 hP hD hS => ?_)
    rcases q_579 with ⟨rfl, rfl, f_582⟩ | ⟨rfl, rfl, f_583⟩
    · show _
      exact absurd (by assumption) f_582
    · show _
      have hP : va_P (dC, dI) vwCl (rW g ty Y pa kp ks I tl ac wr tw) H := hP
      have hD : va_D A (rW g ty Y pa kp ks I tl ac wr tw) := hD
      refine lv_if_eq (tgt := 32) hx hb dX12_copied_5 (by decide) (fun c9 => absurd c9 (by decide)) (fun _ => ?_)
      refine lv_aload_n hx hb dX12_copied_8 rfl (lv_at hl 0 rfl) ?_
      refine lv_iload_n hx hb dX12_copied_9 rfl (lv_at hl 2 rfl) ?_
      refine cV_i (C := RX12) (n := 1) (rest := []) hx hb hml hown hg hT (c_X12_place l dC dI g ty H.size Y pa kp ks I tl ac wr tw b0 ) (cv_of hg wM_X12_83 wN_X12_place wL_X12_X12_place wK_X12_place wI_X12 (by decide +kernel) ⟨Nat.le_of_ble_eq_true rfl, Nat.le_of_ble_eq_true rfl⟩) hK hP hD hS hA (va_recv hK hP (ci := 14) (q0 := 0) rfl rfl) rfl hl.1 rfl (Nat.le_of_ble_eq_true rfl) dX12_copied_10 ⟨Nat.le_of_ble_eq_true rfl, Nat.le_of_ble_eq_true rfl⟩ (fun r_585 u_586 H locs q_584 hP hD hS => ?_)
      rcases q_584 with ⟨rfl, rfl, f_587⟩ | ⟨rfl, rfl, f_588⟩
      · show _
        exact absurd (by assumption) f_587
      · show _
        have hP : va_P (dC, dI) vwCl (rW g ty Y pa kp ks I tl ac wr tw) H := hP
        have hD : va_D A (rW g ty Y pa kp ks I tl ac wr tw) := hD
        refine lv_if_eq (tgt := 32) hx hb dX12_copied_13 (by decide) (fun c9 => absurd c9 (by decide)) (fun _ => ?_)
        refine lv_aload_n hx hb dX12_copied_16 rfl (lv_at hl 0 rfl) ?_
        refine lv_iload_n hx hb dX12_copied_17 rfl (lv_at hl 1 rfl) ?_
        refine cV_i (C := RX12) (n := 1) (rest := []) hx hb hml hown hg hT (c_X12_need l dC dI g ty H.size Y pa kp ks I tl ac wr tw a0 (by assumption)) (cv_of hg wM_X12_134 wN_X12_need wL_X12_X12_need wK_X12_need wI_X12 (by decide +kernel) ⟨Nat.le_of_ble_eq_true rfl, Nat.le_of_ble_eq_true rfl⟩) hK hP hD hS hA (va_recv hK hP (ci := 14) (q0 := 0) rfl rfl) rfl hl.1 rfl (Nat.le_of_ble_eq_true rfl) dX12_copied_18 ⟨Nat.le_of_ble_eq_true rfl, Nat.le_of_ble_eq_true rfl⟩ (fun r_590 u_591 H locs q_589 hP hD hS => ?_)
        rcases q_589 with ⟨rfl, rfl, f_592⟩ | ⟨rfl, rfl, f_593⟩
        · show _
          exact absurd f_592 (by assumption)
        · show _
          have hP : va_P (dC, dI) vwCl (rW g ty Y pa kp ks I tl ac wr tw) H := hP
          have hD : va_D A (rW g ty Y pa kp ks I tl ac wr tw) := hD
          refine lv_if_eq (tgt := 32) hx hb dX12_copied_21 (by decide) (fun c9 => absurd c9 (by decide)) (fun _ => ?_)
          refine lv_aload_n hx hb dX12_copied_24 rfl (lv_at hl 0 rfl) ?_
          refine lv_iload_n hx hb dX12_copied_25 rfl (lv_at hl 2 rfl) ?_
          refine cV_i (C := RX12) (n := 1) (rest := []) hx hb hml hown hg hT (c_X12_need l dC dI g ty H.size Y pa kp ks I tl ac wr tw b0 (by assumption)) (cv_of hg wM_X12_134 wN_X12_need wL_X12_X12_need wK_X12_need wI_X12 (by decide +kernel) ⟨Nat.le_of_ble_eq_true rfl, Nat.le_of_ble_eq_true rfl⟩) hK hP hD hS hA (va_recv hK hP (ci := 14) (q0 := 0) rfl rfl) rfl hl.1 rfl (Nat.le_of_ble_eq_true rfl) dX12_copied_26 ⟨Nat.le_of_ble_eq_true rfl, Nat.le_of_ble_eq_true rfl⟩ (fun r_595 u_596 H locs q_594 hP hD hS => ?_)
          rcases q_594 with ⟨rfl, rfl, f_597⟩ | ⟨rfl, rfl, f_598⟩
          · show _
            exact absurd f_597 (by assumption)
          · show _
            have hP : va_P (dC, dI) vwCl (rW g ty Y pa kp ks I tl ac wr tw) H := hP
            have hD : va_D A (rW g ty Y pa kp ks I tl ac wr tw) := hD
            refine lv_if_ne (tgt := 37) hx hb dX12_copied_29 (by decide) (fun _ => ?_) (fun c9 => absurd c9 (by decide)) 
            refine lv_aload_n hx hb dX12_copied_37 rfl (lv_at hl 0 rfl) ?_
            refine va_get (D := (dC, dI)) (ci := 14) (v := .ref (g 9)) (C := RX12) (T := TX12) (N := 21) hx hb hg inG12 hown hK hP 0 rfl rfl 8 (by decide) (hg _ wF_X12_34) (fun _ h9 => h9) rfl dX12_copied_38 ?_
            refine lv_iload_n hx hb dX12_copied_41 rfl (lv_at hl 1 rfl) ?_
            refine va_iald hx hb hK hP 7 0 rfl rfl (by assumption) dX12_copied_42 ?_
            refine lv_istore (lv' := [(6, .int (pa a0.toNatClampNeg)), (0, .ref (g 8)), (1, .int a0), (2, .int b0), (3, .int i0), (4, .int j0), (5, .int n0)]) hx hb dX12_copied_43 hl (by decide) rfl (fun ls hl => ?_)
            refine lv_aload_n hx hb dX12_copied_45 rfl (lv_at hl 1 rfl) ?_
            refine va_get (D := (dC, dI)) (ci := 14) (v := .ref (g 9)) (C := RX12) (T := TX12) (N := 21) hx hb hg inG12 hown hK hP 0 rfl rfl 8 (by decide) (hg _ wF_X12_34) (fun _ h9 => h9) rfl dX12_copied_46 ?_
            refine lv_iload_n hx hb dX12_copied_49 rfl (lv_at hl 3 rfl) ?_
            refine va_iald hx hb hK hP 7 0 rfl rfl (by assumption) dX12_copied_50 ?_
            refine lv_istore (lv' := [(7, .int (pa b0.toNatClampNeg)), (6, .int (pa a0.toNatClampNeg)), (0, .ref (g 8)), (1, .int a0), (2, .int b0), (3, .int i0), (4, .int j0), (5, .int n0)]) hx hb dX12_copied_51 hl (by decide) rfl (fun ls hl => ?_)
            refine lv_aload_n hx hb dX12_copied_53 rfl (lv_at hl 2 rfl) ?_
            refine va_get (D := (dC, dI)) (ci := 14) (v := .ref (Y.2.2.2.2.2.2.1 0)) (C := RX12) (T := TX12) (N := 21) hx hb hg inG12 hown hK hP 0 rfl rfl 0 (by decide) (hg _ wF_X12_7) (fun _ h9 => h9) rfl dX12_copied_54 ?_
            refine lv_iload hx hb dX12_copied_57 (lv_at hl 1 rfl) ?_
            refine va_iald hx hb hK hP 1 0 rfl rfl (by exact hin1) dX12_copied_59 ?_
            refine lv_bipush (v := 12) hx hb dX12_copied_60 (by decide) ?_
            refine lv_icmp_ge (tgt := 118) hx hb dX12_copied_62 (by decide) (fun c_599 => ?_) (fun c_599 => ?_)
            · show _
              refine lv_aload_n hx hb dX12_copied_118 rfl (lv_at hl 2 rfl) ?_
              refine lv_iconst (v := 5) hx hb dX12_copied_119 (by decide) ?_
              refine cV_i (C := RX12) (n := 1) (rest := []) hx hb hml hown hg hT (c_X12_fails l dC dI g ty H.size Y pa kp ks I tl ac wr tw 5 ) (cv_of hg wM_X12_79 wN_X12_fails wL_X12_X12_fails wK_X12_fails wI_X12 (by decide +kernel) ⟨Nat.le_of_ble_eq_true rfl, Nat.le_of_ble_eq_true rfl⟩) hK hP hD hS hA (va_recv hK hP (ci := 14) (q0 := 0) rfl rfl) rfl hl.1 rfl (Nat.le_of_ble_eq_true rfl) dX12_copied_120 ⟨Nat.le_of_ble_eq_true rfl, Nat.le_of_ble_eq_true rfl⟩ (fun r_601 u_602 H locs q_600 hP hD hS => ?_)
              obtain ⟨rfl, rfl⟩ := q_600
              have hP : va_P (dC, dI) vwCl (rW g ty Y pa kp ks I tl ac 5 tw) H := hP
              have hD : va_D A (rW g ty Y pa kp ks I tl ac 5 tw) := hD
              refine lv_pop hx hb dX12_copied_123 rfl ?_
              refine lv_aload_n hx hb dX12_copied_124 rfl (lv_at hl 2 rfl) ?_
              refine cV_l (C := RX12) (n := 0) (rest := []) hx hb hml hown hg hT (c_X12_no l dC dI g ty H.size Y pa kp ks I tl ac 5 tw  ) (cv_of hg wM_X12_107 wN_X12_no wL_X12_X12_no wK_X12_no wI_X12 (by decide +kernel) ⟨Nat.le_of_ble_eq_true rfl, Nat.le_of_ble_eq_true rfl⟩) hK hP hD hS hA (va_recv hK hP (ci := 14) (q0 := 0) rfl rfl) rfl hl.1 rfl (Nat.le_of_ble_eq_true rfl) dX12_copied_125 ⟨Nat.le_of_ble_eq_true rfl, Nat.le_of_ble_eq_true rfl⟩ (fun r_604 u_605 H locs q_603 hP hD hS => ?_)
              obtain ⟨rfl, rfl⟩ := q_603
              have hP : va_P (dC, dI) vwCl (rW g ty Y pa kp ks I tl ac 5 1) H := hP
              have hD : va_D A (rW g ty Y pa kp ks I tl ac 5 1) := hD
              refine cr_l (wo := fun u : rY × (Nat → Int32) × (Nat → Int32) × (Nat → Int32) × Int32 × Int32 => rW g ty u.1 u.2.1 u.2.2.1 ks I u.2.2.2.1 ac u.2.2.2.2.1 u.2.2.2.2.2) ((Y, pa, kp, tl, 5, 1)) hx hb hr hlk hS hP hD ?_ dX12_copied_128
              exact ⟨0, Y, pa, kp, tl, 5, 1, rfl, rfl, (by subst hu; subst hrz; exact ra_f (f := 5) rel hcnt htl (by decide))⟩
            · show _
              refine lv_aload_n hx hb dX12_copied_65 rfl (lv_at hl 2 rfl) ?_
              refine va_get (D := (dC, dI)) (ci := 14) (v := .ref (Y.2.2.2.2.2.2.1 0)) (C := RX12) (T := TX12) (N := 21) hx hb hg inG12 hown hK hP 0 rfl rfl 0 (by decide) (hg _ wF_X12_7) (fun _ h9 => h9) rfl dX12_copied_66 ?_
              refine lv_iload hx hb dX12_copied_69 (lv_at hl 0 rfl) ?_
              refine va_iald hx hb hK hP 1 0 rfl rfl (by exact hin2) dX12_copied_71 ?_
              refine lv_bipush (v := 12) hx hb dX12_copied_72 (by decide) ?_
              refine lv_icmp_ge (tgt := 118) hx hb dX12_copied_74 (by decide) (fun c_606 => ?_) (fun c_606 => ?_)
              · show _
                refine lv_aload_n hx hb dX12_copied_118 rfl (lv_at hl 2 rfl) ?_
                refine lv_iconst (v := 5) hx hb dX12_copied_119 (by decide) ?_
                refine cV_i (C := RX12) (n := 1) (rest := []) hx hb hml hown hg hT (c_X12_fails l dC dI g ty H.size Y pa kp ks I tl ac wr tw 5 ) (cv_of hg wM_X12_79 wN_X12_fails wL_X12_X12_fails wK_X12_fails wI_X12 (by decide +kernel) ⟨Nat.le_of_ble_eq_true rfl, Nat.le_of_ble_eq_true rfl⟩) hK hP hD hS hA (va_recv hK hP (ci := 14) (q0 := 0) rfl rfl) rfl hl.1 rfl (Nat.le_of_ble_eq_true rfl) dX12_copied_120 ⟨Nat.le_of_ble_eq_true rfl, Nat.le_of_ble_eq_true rfl⟩ (fun r_608 u_609 H locs q_607 hP hD hS => ?_)
                obtain ⟨rfl, rfl⟩ := q_607
                have hP : va_P (dC, dI) vwCl (rW g ty Y pa kp ks I tl ac 5 tw) H := hP
                have hD : va_D A (rW g ty Y pa kp ks I tl ac 5 tw) := hD
                refine lv_pop hx hb dX12_copied_123 rfl ?_
                refine lv_aload_n hx hb dX12_copied_124 rfl (lv_at hl 2 rfl) ?_
                refine cV_l (C := RX12) (n := 0) (rest := []) hx hb hml hown hg hT (c_X12_no l dC dI g ty H.size Y pa kp ks I tl ac 5 tw  ) (cv_of hg wM_X12_107 wN_X12_no wL_X12_X12_no wK_X12_no wI_X12 (by decide +kernel) ⟨Nat.le_of_ble_eq_true rfl, Nat.le_of_ble_eq_true rfl⟩) hK hP hD hS hA (va_recv hK hP (ci := 14) (q0 := 0) rfl rfl) rfl hl.1 rfl (Nat.le_of_ble_eq_true rfl) dX12_copied_125 ⟨Nat.le_of_ble_eq_true rfl, Nat.le_of_ble_eq_true rfl⟩ (fun r_611 u_612 H locs q_610 hP hD hS => ?_)
                obtain ⟨rfl, rfl⟩ := q_610
                have hP : va_P (dC, dI) vwCl (rW g ty Y pa kp ks I tl ac 5 1) H := hP
                have hD : va_D A (rW g ty Y pa kp ks I tl ac 5 1) := hD
                refine cr_l (wo := fun u : rY × (Nat → Int32) × (Nat → Int32) × (Nat → Int32) × Int32 × Int32 => rW g ty u.1 u.2.1 u.2.2.1 ks I u.2.2.2.1 ac u.2.2.2.2.1 u.2.2.2.2.2) ((Y, pa, kp, tl, 5, 1)) hx hb hr hlk hS hP hD ?_ dX12_copied_128
                exact ⟨0, Y, pa, kp, tl, 5, 1, rfl, rfl, (by subst hu; subst hrz; exact ra_f (f := 5) rel hcnt htl (by decide))⟩
              · show _
                refine lv_aload_n hx hb dX12_copied_77 rfl (lv_at hl 2 rfl) ?_
                refine va_get (D := (dC, dI)) (ci := 14) (v := .ref (Y.2.2.2.2.2.2.1 0)) (C := RX12) (T := TX12) (N := 21) hx hb hg inG12 hown hK hP 0 rfl rfl 0 (by decide) (hg _ wF_X12_7) (fun _ h9 => h9) rfl dX12_copied_78 ?_
                refine lv_iload hx hb dX12_copied_81 (lv_at hl 1 rfl) ?_
                refine va_iald hx hb hK hP 1 0 rfl rfl (by exact hin1) dX12_copied_83 ?_
                refine lv_bipush (v := 8) hx hb dX12_copied_84 (by decide) ?_
                refine lv_icmp_lt (tgt := 101) hx hb dX12_copied_86 (by decide) (fun c_613 => ?_) (fun c_613 => ?_)
                · show _
                  refine lv_aload_n hx hb dX12_copied_101 rfl (lv_at hl 2 rfl) ?_
                  refine va_get (D := (dC, dI)) (ci := 14) (v := .ref (Y.2.2.2.2.2.2.1 0)) (C := RX12) (T := TX12) (N := 21) hx hb hg inG12 hown hK hP 0 rfl rfl 0 (by decide) (hg _ wF_X12_7) (fun _ h9 => h9) rfl dX12_copied_102 ?_
                  refine lv_iload hx hb dX12_copied_105 (lv_at hl 1 rfl) ?_
                  refine va_iald hx hb hK hP 1 0 rfl rfl (by exact hin1) dX12_copied_107 ?_
                  refine lv_aload_n hx hb dX12_copied_108 rfl (lv_at hl 2 rfl) ?_
                  refine va_get (D := (dC, dI)) (ci := 14) (v := .ref (Y.2.2.2.2.2.2.1 0)) (C := RX12) (T := TX12) (N := 21) hx hb hg inG12 hown hK hP 0 rfl rfl 0 (by decide) (hg _ wF_X12_7) (fun _ h9 => h9) rfl dX12_copied_109 ?_
                  refine lv_iload hx hb dX12_copied_112 (lv_at hl 0 rfl) ?_
                  refine va_iald hx hb hK hP 1 0 rfl rfl (by exact hin2) dX12_copied_114 ?_
                  refine lv_icmp_eq (tgt := 129) hx hb dX12_copied_115 (by decide) (fun c_614 => ?_) (fun c_614 => ?_)
                  · show _
                    exact False.elim ((hck.2.2 (by assumption) (by assumption) (by first | exact Or.inl (by assumption) | exact Or.inr ⟨(by assumption), (by assumption)⟩)).elim g6 g7)
                  · show _
                    refine lv_aload_n hx hb dX12_copied_118 rfl (lv_at hl 2 rfl) ?_
                    refine lv_iconst (v := 5) hx hb dX12_copied_119 (by decide) ?_
                    refine cV_i (C := RX12) (n := 1) (rest := []) hx hb hml hown hg hT (c_X12_fails l dC dI g ty H.size Y pa kp ks I tl ac wr tw 5 ) (cv_of hg wM_X12_79 wN_X12_fails wL_X12_X12_fails wK_X12_fails wI_X12 (by decide +kernel) ⟨Nat.le_of_ble_eq_true rfl, Nat.le_of_ble_eq_true rfl⟩) hK hP hD hS hA (va_recv hK hP (ci := 14) (q0 := 0) rfl rfl) rfl hl.1 rfl (Nat.le_of_ble_eq_true rfl) dX12_copied_120 ⟨Nat.le_of_ble_eq_true rfl, Nat.le_of_ble_eq_true rfl⟩ (fun r_616 u_617 H locs q_615 hP hD hS => ?_)
                    obtain ⟨rfl, rfl⟩ := q_615
                    have hP : va_P (dC, dI) vwCl (rW g ty Y pa kp ks I tl ac 5 tw) H := hP
                    have hD : va_D A (rW g ty Y pa kp ks I tl ac 5 tw) := hD
                    refine lv_pop hx hb dX12_copied_123 rfl ?_
                    refine lv_aload_n hx hb dX12_copied_124 rfl (lv_at hl 2 rfl) ?_
                    refine cV_l (C := RX12) (n := 0) (rest := []) hx hb hml hown hg hT (c_X12_no l dC dI g ty H.size Y pa kp ks I tl ac 5 tw  ) (cv_of hg wM_X12_107 wN_X12_no wL_X12_X12_no wK_X12_no wI_X12 (by decide +kernel) ⟨Nat.le_of_ble_eq_true rfl, Nat.le_of_ble_eq_true rfl⟩) hK hP hD hS hA (va_recv hK hP (ci := 14) (q0 := 0) rfl rfl) rfl hl.1 rfl (Nat.le_of_ble_eq_true rfl) dX12_copied_125 ⟨Nat.le_of_ble_eq_true rfl, Nat.le_of_ble_eq_true rfl⟩ (fun r_619 u_620 H locs q_618 hP hD hS => ?_)
                    obtain ⟨rfl, rfl⟩ := q_618
                    have hP : va_P (dC, dI) vwCl (rW g ty Y pa kp ks I tl ac 5 1) H := hP
                    have hD : va_D A (rW g ty Y pa kp ks I tl ac 5 1) := hD
                    refine cr_l (wo := fun u : rY × (Nat → Int32) × (Nat → Int32) × (Nat → Int32) × Int32 × Int32 => rW g ty u.1 u.2.1 u.2.2.1 ks I u.2.2.2.1 ac u.2.2.2.2.1 u.2.2.2.2.2) ((Y, pa, kp, tl, 5, 1)) hx hb hr hlk hS hP hD ?_ dX12_copied_128
                    exact ⟨0, Y, pa, kp, tl, 5, 1, rfl, rfl, (by subst hu; subst hrz; exact ra_f (f := 5) rel hcnt htl (by decide))⟩
                · show _
                  refine lv_aload_n hx hb dX12_copied_89 rfl (lv_at hl 2 rfl) ?_
                  refine va_get (D := (dC, dI)) (ci := 14) (v := .ref (Y.2.2.2.2.2.2.1 0)) (C := RX12) (T := TX12) (N := 21) hx hb hg inG12 hown hK hP 0 rfl rfl 0 (by decide) (hg _ wF_X12_7) (fun _ h9 => h9) rfl dX12_copied_90 ?_
                  refine lv_iload hx hb dX12_copied_93 (lv_at hl 0 rfl) ?_
                  refine va_iald hx hb hK hP 1 0 rfl rfl (by exact hin2) dX12_copied_95 ?_
                  refine lv_bipush (v := 8) hx hb dX12_copied_96 (by decide) ?_
                  refine lv_icmp_ge (tgt := 129) hx hb dX12_copied_98 (by decide) (fun c_621 => ?_) (fun c_621 => ?_)
                  · show _
                    exact False.elim ((hck.2.2 (by assumption) (by assumption) (by first | exact Or.inl (by assumption) | exact Or.inr ⟨(by assumption), (by assumption)⟩)).elim g6 g7)
                  · show _
                    refine lv_aload_n hx hb dX12_copied_101 rfl (lv_at hl 2 rfl) ?_
                    refine va_get (D := (dC, dI)) (ci := 14) (v := .ref (Y.2.2.2.2.2.2.1 0)) (C := RX12) (T := TX12) (N := 21) hx hb hg inG12 hown hK hP 0 rfl rfl 0 (by decide) (hg _ wF_X12_7) (fun _ h9 => h9) rfl dX12_copied_102 ?_
                    refine lv_iload hx hb dX12_copied_105 (lv_at hl 1 rfl) ?_
                    refine va_iald hx hb hK hP 1 0 rfl rfl (by exact hin1) dX12_copied_107 ?_
                    refine lv_aload_n hx hb dX12_copied_108 rfl (lv_at hl 2 rfl) ?_
                    refine va_get (D := (dC, dI)) (ci := 14) (v := .ref (Y.2.2.2.2.2.2.1 0)) (C := RX12) (T := TX12) (N := 21) hx hb hg inG12 hown hK hP 0 rfl rfl 0 (by decide) (hg _ wF_X12_7) (fun _ h9 => h9) rfl dX12_copied_109 ?_
                    refine lv_iload hx hb dX12_copied_112 (lv_at hl 0 rfl) ?_
                    refine va_iald hx hb hK hP 1 0 rfl rfl (by exact hin2) dX12_copied_114 ?_
                    refine lv_icmp_eq (tgt := 129) hx hb dX12_copied_115 (by decide) (fun c_622 => ?_) (fun c_622 => ?_)
                    · show _
                      exact False.elim ((hck.2.2 (by assumption) (by assumption) (by first | exact Or.inl (by assumption) | exact Or.inr ⟨(by assumption), (by assumption)⟩)).elim g6 g7)
                    · show _
                      refine lv_aload_n hx hb dX12_copied_118 rfl (lv_at hl 2 rfl) ?_
                      refine lv_iconst (v := 5) hx hb dX12_copied_119 (by decide) ?_
                      refine cV_i (C := RX12) (n := 1) (rest := []) hx hb hml hown hg hT (c_X12_fails l dC dI g ty H.size Y pa kp ks I tl ac wr tw 5 ) (cv_of hg wM_X12_79 wN_X12_fails wL_X12_X12_fails wK_X12_fails wI_X12 (by decide +kernel) ⟨Nat.le_of_ble_eq_true rfl, Nat.le_of_ble_eq_true rfl⟩) hK hP hD hS hA (va_recv hK hP (ci := 14) (q0 := 0) rfl rfl) rfl hl.1 rfl (Nat.le_of_ble_eq_true rfl) dX12_copied_120 ⟨Nat.le_of_ble_eq_true rfl, Nat.le_of_ble_eq_true rfl⟩ (fun r_624 u_625 H locs q_623 hP hD hS => ?_)
                      obtain ⟨rfl, rfl⟩ := q_623
                      have hP : va_P (dC, dI) vwCl (rW g ty Y pa kp ks I tl ac 5 tw) H := hP
                      have hD : va_D A (rW g ty Y pa kp ks I tl ac 5 tw) := hD
                      refine lv_pop hx hb dX12_copied_123 rfl ?_
                      refine lv_aload_n hx hb dX12_copied_124 rfl (lv_at hl 2 rfl) ?_
                      refine cV_l (C := RX12) (n := 0) (rest := []) hx hb hml hown hg hT (c_X12_no l dC dI g ty H.size Y pa kp ks I tl ac 5 tw  ) (cv_of hg wM_X12_107 wN_X12_no wL_X12_X12_no wK_X12_no wI_X12 (by decide +kernel) ⟨Nat.le_of_ble_eq_true rfl, Nat.le_of_ble_eq_true rfl⟩) hK hP hD hS hA (va_recv hK hP (ci := 14) (q0 := 0) rfl rfl) rfl hl.1 rfl (Nat.le_of_ble_eq_true rfl) dX12_copied_125 ⟨Nat.le_of_ble_eq_true rfl, Nat.le_of_ble_eq_true rfl⟩ (fun r_627 u_628 H locs q_626 hP hD hS => ?_)
                      obtain ⟨rfl, rfl⟩ := q_626
                      have hP : va_P (dC, dI) vwCl (rW g ty Y pa kp ks I tl ac 5 1) H := hP
                      have hD : va_D A (rW g ty Y pa kp ks I tl ac 5 1) := hD
                      refine cr_l (wo := fun u : rY × (Nat → Int32) × (Nat → Int32) × (Nat → Int32) × Int32 × Int32 => rW g ty u.1 u.2.1 u.2.2.1 ks I u.2.2.2.1 ac u.2.2.2.2.1 u.2.2.2.2.2) ((Y, pa, kp, tl, 5, 1)) hx hb hr hlk hS hP hD ?_ dX12_copied_128
                      exact ⟨0, Y, pa, kp, tl, 5, 1, rfl, rfl, (by subst hu; subst hrz; exact ra_f (f := 5) rel hcnt htl (by decide))⟩

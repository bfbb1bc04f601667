/-! ===== make ===== -/
/-- a thing stays what it is where its cells do -/
theorem rT_keep {n : Int32} {Y Y' : rY} {ρ : Nat → Nat} {P : cQ} {t : Nat} (h : rTh n Y ρ P t) (e1 : Y'.1 t = Y.1 t) (e2 : Y'.2.1 t = Y.2.1 t) (e3 : Y'.2.2.1 t = Y.2.2.1 t) (e4 : ∀ j, j < rMn Y t → Y'.2.2.2.2.2.1 (rFr Y t + j) = Y.2.2.2.2.2.1 (rFr Y t + j)) : rTh n Y' ρ P t := by
  have hF : rFr Y' t = rFr Y t := by show (Y'.2.1 t).toNatClampNeg = _; rw [e2]
  have hM : rMn Y' t = rMn Y t := by show (Y'.2.2.1 t).toNatClampNeg = _; rw [e3]
  obtain ⟨h1, h5, h6, h4, h3, h2, hz⟩ := h
  refine ⟨⟨h1.1, h1.2.1, by rw [e1]; exact h1.2.2⟩, fun k r hr => ?_, fun k r hr => ?_, fun k => ?_, fun k => ?_, fun k => ?_, fun k => by rw [hM]; exact hz k⟩
  · obtain ⟨a, b⟩ := h5 k r hr
    refine ⟨by rw [hM]; exact a, fun j hj => ?_⟩
    rw [hF, e4 j (by rw [a]; exact hj)]; exact b j hj
  · obtain ⟨a, b⟩ := h6 k r hr
    refine ⟨by rw [hM]; exact a, fun j hj => ?_⟩
    rw [hF, e4 j (by rw [a]; exact hj)]; exact b j hj
  · obtain ⟨a, b⟩ := h4 k
    refine ⟨by rw [hM]; exact a, ?_⟩
    have := e4 0 (by rw [a]; decide)
    rw [Nat.add_zero] at this
    rw [hF, this]; exact b
  · have a := (h4 (by omega)).1
    rw [hF, e4 1 (by rw [a]; decide)]; exact h3 k
  · have a := (h4 (by omega)).1
    rw [hF, e4 2 (by rw [a]; decide)]; exact h2 k
/-- what make leaves: a new thing r, its cells 0; the others as they were, perhaps under new numbers -/
def rMake (s0 n0 : Int32) (Y : rY) (ks : Int32) (pl : Nat → Option Nat) (P : cQ) (ko : Option Nat) (r : Int32) (Y' : rY) (pa' kp' : Nat → Int32) : Prop :=
  ∃ ρ' : Nat → Nat, rR r Y' pa' ρ' pl P ∧ (ks = 0 ∨ (ks = 1 ∧ rLk r ρ' (kp' 0) ko)) ∧ (Y'.2.2.2.2.2.2.2.2.2.1 = r + 1 ∧ Y'.2.2.2.2.2.2.2.2.2.1.toNatClampNeg = r.toNatClampNeg + 1) ∧ (Y'.1 r.toNatClampNeg = s0 ∧ Y'.2.2.1 r.toNatClampNeg = n0 ∧ ∀ j, j < n0.toNatClampNeg → Y'.2.2.2.2.2.1 (rFr Y' r.toNatClampNeg + j) = 0) ∧
    (r.toNatClampNeg ≤ Y.2.2.2.2.2.2.2.2.2.1.toNatClampNeg ∧ Y'.2.2.2.2.2.2.2.2.2.2.toNatClampNeg ≤ Y.2.2.2.2.2.2.2.2.2.2.toNatClampNeg + n0.toNatClampNeg) ∧ (Y.2.2.2.2.2.2.2.1 ≤ Y'.2.2.2.2.2.2.2.1 ∧ Y.2.2.2.2.2.2.2.2.1 ≤ Y'.2.2.2.2.2.2.2.2.1)
theorem mk_eq {Y : rY} (hL : rLay Y) (h : Y.2.2.2.2.2.2.2.2.2.1 = Int32.ofNat Y.2.2.2.2.2.2.2.1) : Y.2.2.2.2.2.2.2.2.2.1.toNatClampNeg = Y.2.2.2.2.2.2.2.1 := by
  have := (rl_L hL).1
  rw [h]
  show (Int32.ofNat Y.2.2.2.2.2.2.2.1).toInt.toNat = _
  rw [show (Int32.ofNat Y.2.2.2.2.2.2.2.1).toInt = Y.2.2.2.2.2.2.2.1 from nI_toInt (by omega)]
  omega
theorem mk_ne {Y : rY} (hL : rLay Y) (h : ¬ Y.2.2.2.2.2.2.2.2.2.1 = Int32.ofNat Y.2.2.2.2.2.2.2.1) : Y.2.2.2.2.2.2.2.2.2.1.toNatClampNeg < Y.2.2.2.2.2.2.2.1 := by
  have h9 := (rl_L hL).1
  have h0 := (i32_pos hL.1.1).1
  have h1 := hL.1.2
  rcases Nat.lt_or_ge Y.2.2.2.2.2.2.2.2.2.1.toNatClampNeg Y.2.2.2.2.2.2.2.1 with q | q
  · exact q
  · exfalso
    apply h
    rw [Int32.le_iff_toInt_le, ci_0] at h0
    have h1 : Y.2.2.2.2.2.2.2.2.2.1.toInt.toNat ≤ Y.2.2.2.2.2.2.2.1 := h1
    have q : Y.2.2.2.2.2.2.2.1 ≤ Y.2.2.2.2.2.2.2.2.2.1.toInt.toNat := q
    apply Int32.toInt_inj.mp
    rw [show (Int32.ofNat Y.2.2.2.2.2.2.2.1).toInt = Y.2.2.2.2.2.2.2.1 from nI_toInt (by omega)]
    omega
theorem mk_tp {Y : rY} (hL : rLay Y) {n : Int32} (hn : 0 ≤ n ∧ n.toNatClampNeg ≤ 99) : (Y.2.2.2.2.2.2.2.2.2.2 + n).toNatClampNeg = Y.2.2.2.2.2.2.2.2.2.2.toNatClampNeg + n.toNatClampNeg ∧ 0 ≤ Y.2.2.2.2.2.2.2.2.2.2 + n := by
  have h9 := (rl_L hL).2
  have h1 := hL.2.1.2
  exact i32_add hL.2.1.1 hn.1 (by omega)
theorem mk_le {Y : rY} (hL : rLay Y) {n : Int32} (hn : 0 ≤ n ∧ n.toNatClampNeg ≤ 99) (h : Y.2.2.2.2.2.2.2.2.2.2 + n ≤ Int32.ofNat Y.2.2.2.2.2.2.2.2.1) : Y.2.2.2.2.2.2.2.2.2.2.toNatClampNeg + n.toNatClampNeg ≤ Y.2.2.2.2.2.2.2.2.1 := by
  have h9 := (rl_L hL).2
  have e := mk_tp hL hn
  have := i32_le h
  rw [e.1] at this
  have e2 : (Int32.ofNat Y.2.2.2.2.2.2.2.2.1).toNatClampNeg = Y.2.2.2.2.2.2.2.2.1 := by
    show (Int32.ofNat Y.2.2.2.2.2.2.2.2.1).toInt.toNat = _
    rw [show (Int32.ofNat Y.2.2.2.2.2.2.2.2.1).toInt = Y.2.2.2.2.2.2.2.2.1 from nI_toInt (by omega)]
    omega
  rw [e2] at this
  exact this
theorem mk_gt {Y : rY} (hL : rLay Y) {n : Int32} (hn : 0 ≤ n ∧ n.toNatClampNeg ≤ 99) (h : ¬ Y.2.2.2.2.2.2.2.2.2.2 + n ≤ Int32.ofNat Y.2.2.2.2.2.2.2.2.1) : Y.2.2.2.2.2.2.2.2.1 < Y.2.2.2.2.2.2.2.2.2.2.toNatClampNeg + n.toNatClampNeg := by
  have h9 := (rl_L hL).2
  have e := mk_tp hL hn
  obtain ⟨e1, e0⟩ := e
  rw [← e1]
  rw [Int32.le_iff_toInt_le, show (Int32.ofNat Y.2.2.2.2.2.2.2.2.1).toInt = Y.2.2.2.2.2.2.2.2.1 from nI_toInt (by omega)] at h
  rw [Int32.le_iff_toInt_le, ci_0] at e0
  show Y.2.2.2.2.2.2.2.2.1 < (Y.2.2.2.2.2.2.2.2.2.2 + n).toInt.toNat
  omega
theorem mk_z {Y : rY} (hL : rLay Y) {n k : Int32} (hn : 0 ≤ n ∧ n.toNatClampNeg ≤ 99) (hr : Y.2.2.2.2.2.2.2.2.2.2.toNatClampNeg + n.toNatClampNeg ≤ Y.2.2.2.2.2.2.2.2.1) (h0 : ¬ k < 0) (h : ¬ n ≤ k) : (Y.2.2.2.2.2.2.2.2.2.2 + k).toNatClampNeg = Y.2.2.2.2.2.2.2.2.2.2.toNatClampNeg + k.toNatClampNeg ∧ vp_in (Y.2.2.2.2.2.2.2.2.2.2 + k) Y.2.2.2.2.2.2.2.2.1 := by
  have h9 := (rl_L hL).2
  have hk := k1_lt h0 h
  have := i32_add hL.2.1.1 (nn_of h0) (by omega)
  exact ⟨this.1, i32_in this.2 (by rw [this.1]; omega)⟩
theorem mk_u1 {c1 : Nat → Int64} {t k n : Int32} {a x : Nat} (h0 : ¬ k < 0) (hm : ¬ n ≤ k) (ha : a = x + k.toNatClampNeg) (h : ∀ j, j < k.toNatClampNeg → c1 (x + j) = 0) : ∀ j, j < (k + 1).toNatClampNeg → vp_updL c1 a 0 (x + j) = 0 := by
  intro j hj
  rw [up1_clamp h0 hm] at hj
  by_cases e : j = k.toNatClampNeg
  · subst e; simp [vp_updL, ha]
  · rw [show vp_updL c1 a 0 (x + j) = c1 (x + j) by
      have : ¬ x + j = a := by omega
      simp [vp_updL, this]]
    exact h j (by omega)
theorem mk_u2 {c0 c1 : Nat → Int64} {a x k : Nat} (ha : a = x + k) (h : ∀ i, i < x → c1 i = c0 i) : ∀ i, i < x → vp_updL c1 a 0 i = c0 i := by
  intro i hi
  rw [show vp_updL c1 a 0 i = c1 i by
    have : ¬ i = a := by omega
    simp [vp_updL, this]]
  exact h i hi
section MkEnd
variable {Y : rY} {pa : Nat → Int32} {ρ : Nat → Nat} {pl : Nat → Option Nat} {P : cQ} {cz : Nat → Int64} {s0 n0 : Int32}
theorem mk_rel (rel : rR Y.2.2.2.2.2.2.2.2.2.1 Y pa ρ pl P) (hn : 0 ≤ n0 ∧ n0.toNatClampNeg ≤ 99) (hrm : Y.2.2.2.2.2.2.2.2.2.1.toNatClampNeg < Y.2.2.2.2.2.2.2.1 ∧ Y.2.2.2.2.2.2.2.2.2.2.toNatClampNeg + n0.toNatClampNeg ≤ Y.2.2.2.2.2.2.2.2.1) (hz1 : ∀ j, j < n0.toNatClampNeg → cz (Y.2.2.2.2.2.2.2.2.2.2.toNatClampNeg + j) = 0) (hz2 : ∀ i, i < Y.2.2.2.2.2.2.2.2.2.2.toNatClampNeg → cz i = Y.2.2.2.2.2.1 i) :
    rR Y.2.2.2.2.2.2.2.2.2.1 (upd Y.1 Y.2.2.2.2.2.2.2.2.2.1.toNatClampNeg s0, upd Y.2.1 Y.2.2.2.2.2.2.2.2.2.1.toNatClampNeg Y.2.2.2.2.2.2.2.2.2.2, upd Y.2.2.1 Y.2.2.2.2.2.2.2.2.2.1.toNatClampNeg n0, Y.2.2.2.1, Y.2.2.2.2.1, cz, Y.2.2.2.2.2.2.1, Y.2.2.2.2.2.2.2.1, Y.2.2.2.2.2.2.2.2.1, Y.2.2.2.2.2.2.2.2.2.1 + 1, Y.2.2.2.2.2.2.2.2.2.2 + n0) pa ρ pl P ∧ (Y.2.2.2.2.2.2.2.2.2.1 + 1).toNatClampNeg = Y.2.2.2.2.2.2.2.2.2.1.toNatClampNeg + 1 ∧ (Y.2.2.2.2.2.2.2.2.2.2 + n0).toNatClampNeg = Y.2.2.2.2.2.2.2.2.2.2.toNatClampNeg + n0.toNatClampNeg := by
  obtain ⟨hL, hn9, hT, hI, hPl⟩ := rel
  have hp := i32_pos hL.1.1
  have hLc := rl_L hL
  have e1 : (Y.2.2.2.2.2.2.2.2.2.1 + 1).toNatClampNeg = Y.2.2.2.2.2.2.2.2.2.1.toNatClampNeg + 1 ∧ 0 ≤ Y.2.2.2.2.2.2.2.2.2.1 + 1 := i32_add hp.1 (show (0 : Int32) ≤ 1 by decide) (by show Y.2.2.2.2.2.2.2.2.2.1.toNatClampNeg + 1 < _; omega)
  have e2 := mk_tp hL hn
  have hlt : 0 < Y.2.2.2.2.2.2.2.2.2.1 + 1 := by
    obtain ⟨a, b⟩ := e1
    rw [Int32.le_iff_toInt_le, ci_0] at b
    have a : (Y.2.2.2.2.2.2.2.2.2.1 + 1).toInt.toNat = Y.2.2.2.2.2.2.2.2.2.1.toNatClampNeg + 1 := a
    rw [Int32.lt_iff_toInt_lt, ci_0]
    omega
  have hle : Y.2.2.2.2.2.2.2.2.2.1 ≤ Y.2.2.2.2.2.2.2.2.2.1 + 1 := by
    obtain ⟨a, b⟩ := e1
    have p0 := hp.1
    rw [Int32.le_iff_toInt_le, ci_0] at b p0
    have a : (Y.2.2.2.2.2.2.2.2.2.1 + 1).toInt.toNat = Y.2.2.2.2.2.2.2.2.2.1.toInt.toNat + 1 := a
    rw [Int32.le_iff_toInt_le]
    omega
  refine ⟨⟨⟨⟨hlt, by show (Y.2.2.2.2.2.2.2.2.2.1 + 1).toNatClampNeg ≤ Y.2.2.2.2.2.2.2.1; omega⟩, ⟨e2.2, by show (Y.2.2.2.2.2.2.2.2.2.2 + n0).toNatClampNeg ≤ Y.2.2.2.2.2.2.2.2.1; omega⟩, hL.2.2.1, fun t t1 t2 => ?_, fun t t' t1 tt t2 => ?_⟩, ⟨hn9.1, hle⟩, fun t t1 t2 => ?_, hI, hPl⟩, e1.1, e2.1⟩
  · have t2 : t < (Y.2.2.2.2.2.2.2.2.2.1 + 1).toNatClampNeg := t2
    show 0 ≤ upd Y.2.1 Y.2.2.2.2.2.2.2.2.2.1.toNatClampNeg Y.2.2.2.2.2.2.2.2.2.2 t ∧ 0 ≤ upd Y.2.2.1 Y.2.2.2.2.2.2.2.2.2.1.toNatClampNeg n0 t ∧ (upd Y.2.1 Y.2.2.2.2.2.2.2.2.2.1.toNatClampNeg Y.2.2.2.2.2.2.2.2.2.2 t).toNatClampNeg + (upd Y.2.2.1 Y.2.2.2.2.2.2.2.2.2.1.toNatClampNeg n0 t).toNatClampNeg ≤ (Y.2.2.2.2.2.2.2.2.2.2 + n0).toNatClampNeg
    by_cases e : t = Y.2.2.2.2.2.2.2.2.2.1.toNatClampNeg
    · rw [upd_at', if_pos e, upd_at', if_pos e]
      exact ⟨hL.2.1.1, hn.1, by omega⟩
    · rw [upd_at', if_neg e, upd_at', if_neg e]
      have := hL.2.2.2.1 t t1 (by omega)
      exact ⟨this.1, this.2.1, by have := this.2.2; have : rFr Y t + rMn Y t ≤ (Y.2.2.2.2.2.2.2.2.2.2 + n0).toNatClampNeg := by omega
                                  exact this⟩
  · have t2 : t' < (Y.2.2.2.2.2.2.2.2.2.1 + 1).toNatClampNeg := t2
    show (upd Y.2.1 Y.2.2.2.2.2.2.2.2.2.1.toNatClampNeg Y.2.2.2.2.2.2.2.2.2.2 t).toNatClampNeg + (upd Y.2.2.1 Y.2.2.2.2.2.2.2.2.2.1.toNatClampNeg n0 t).toNatClampNeg ≤ (upd Y.2.1 Y.2.2.2.2.2.2.2.2.2.1.toNatClampNeg Y.2.2.2.2.2.2.2.2.2.2 t').toNatClampNeg
    have e : ¬ t = Y.2.2.2.2.2.2.2.2.2.1.toNatClampNeg := by omega
    rw [upd_at', if_neg e, upd_at', if_neg e, upd_at']
    by_cases e' : t' = Y.2.2.2.2.2.2.2.2.2.1.toNatClampNeg
    · rw [if_pos e']; exact (hL.2.2.2.1 t t1 (by omega)).2.2
    · rw [if_neg e']; exact hL.2.2.2.2 t t' t1 tt (by omega)
  · have e : ¬ t = Y.2.2.2.2.2.2.2.2.2.1.toNatClampNeg := by omega
    refine rT_keep (hT t t1 t2) (by show upd _ _ _ _ = _; rw [upd_at', if_neg e]) (by show upd _ _ _ _ = _; rw [upd_at', if_neg e]) (by show upd _ _ _ _ = _; rw [upd_at', if_neg e]) (fun j hj => ?_)
    exact hz2 _ (by have := (hL.2.2.2.1 t t1 t2).2.2; omega)
theorem mk_end {Y0 : rY} {kp : Nat → Int32} {ks : Int32} {ko : Option Nat} (rel : rR Y.2.2.2.2.2.2.2.2.2.1 Y pa ρ pl P) (hk : ks = 0 ∨ (ks = 1 ∧ rLk Y.2.2.2.2.2.2.2.2.2.1 ρ (kp 0) ko)) (hn : 0 ≤ n0 ∧ n0.toNatClampNeg ≤ 99) (hrm : Y.2.2.2.2.2.2.2.2.2.1.toNatClampNeg < Y.2.2.2.2.2.2.2.1 ∧ Y.2.2.2.2.2.2.2.2.2.2.toNatClampNeg + n0.toNatClampNeg ≤ Y.2.2.2.2.2.2.2.2.1) (hle : Y.2.2.2.2.2.2.2.2.2.1.toNatClampNeg ≤ Y0.2.2.2.2.2.2.2.2.2.1.toNatClampNeg ∧ Y.2.2.2.2.2.2.2.2.2.2.toNatClampNeg ≤ Y0.2.2.2.2.2.2.2.2.2.2.toNatClampNeg) (hgr : Y0.2.2.2.2.2.2.2.1 ≤ Y.2.2.2.2.2.2.2.1 ∧ Y0.2.2.2.2.2.2.2.2.1 ≤ Y.2.2.2.2.2.2.2.2.1)
    (hz1 : ∀ j, j < n0.toNatClampNeg → cz (Y.2.2.2.2.2.2.2.2.2.2.toNatClampNeg + j) = 0) (hz2 : ∀ i, i < Y.2.2.2.2.2.2.2.2.2.2.toNatClampNeg → cz i = Y.2.2.2.2.2.1 i) :
    rMake s0 n0 Y0 ks pl P ko Y.2.2.2.2.2.2.2.2.2.1 (upd Y.1 Y.2.2.2.2.2.2.2.2.2.1.toNatClampNeg s0, upd Y.2.1 Y.2.2.2.2.2.2.2.2.2.1.toNatClampNeg Y.2.2.2.2.2.2.2.2.2.2, upd Y.2.2.1 Y.2.2.2.2.2.2.2.2.2.1.toNatClampNeg n0, Y.2.2.2.1, Y.2.2.2.2.1, cz, Y.2.2.2.2.2.2.1, Y.2.2.2.2.2.2.2.1, Y.2.2.2.2.2.2.2.2.1, Y.2.2.2.2.2.2.2.2.2.1 + 1, Y.2.2.2.2.2.2.2.2.2.2 + n0) pa kp := by
  obtain ⟨h1, h2, h3⟩ := mk_rel (s0 := s0) rel hn hrm hz1 hz2
  refine ⟨ρ, h1, hk, ⟨rfl, h2⟩, ⟨?_, ?_, fun j hj => ?_⟩, ⟨hle.1, ?_⟩, hgr⟩
  · show upd _ _ _ _ = _; rw [upd_at', if_pos rfl]
  · show upd _ _ _ _ = _; rw [upd_at', if_pos rfl]
  · show cz ((upd Y.2.1 Y.2.2.2.2.2.2.2.2.2.1.toNatClampNeg Y.2.2.2.2.2.2.2.2.2.2 Y.2.2.2.2.2.2.2.2.2.1.toNatClampNeg).toNatClampNeg + j) = 0
    rw [upd_at', if_pos rfl]; exact hz1 j hj
  · show (Y.2.2.2.2.2.2.2.2.2.2 + n0).toNatClampNeg ≤ _
    omega
end MkEnd


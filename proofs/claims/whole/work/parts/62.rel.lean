/-! ===== what the relation says ===== -/
theorem rIs_0 : ∀ m : Fin 16, rIs 14 (nI m.1) = if kOf 0 0 (nI m.1) = true then 1 else 0 := by decide +kernel
theorem rIs_1 : ∀ m : Fin 16, rIs 13 (nI m.1) = if kOf 1 0 (nI m.1) = true then 1 else 0 := by decide +kernel
theorem rIs_2 : ∀ m : Fin 16, rIs 12 (nI m.1) = if kOf 2 0 (nI m.1) = true then 1 else 0 := by decide +kernel
theorem rIs_3 : ∀ m : Fin 16, rIs 15 (nI m.1) = if kOf 3 0 (nI m.1) = true then 1 else 0 := by decide +kernel
theorem rIs_4 : ∀ m : Fin 16, ∀ j : Fin 7, rIs (16 + nI j.1) (nI m.1) = if kOf 4 (nI j.1) (nI m.1) = true then 1 else 0 := by decide +kernel
theorem rIs_5 : ∀ m : Fin 16, ∀ j : Fin 8, rIs (nI j.1) (nI m.1) = if kOf 5 (nI j.1) (nI m.1) = true then 1 else 0 := by decide +kernel
theorem rIs_6 : ∀ m : Fin 16, ∀ j : Fin 4, rIs (nI (8 + j.1)) (nI m.1) = if kOf 6 (nI (8 + j.1)) (nI m.1) = true then 1 else 0 := by decide +kernel
theorem i32_nI {s : Int32} {n : Nat} (h : vp_in s n) : s = nI s.toNatClampNeg ∧ s.toNatClampNeg < n := by
  obtain ⟨h0, h1⟩ := i32_inR h
  refine ⟨Int32.toInt_inj.mp ?_, h1⟩
  rw [Int32.le_iff_toInt_le, ci_0] at h0
  have hx := s.toInt_lt
  rw [nI_toInt (by show s.toInt.toNat < 2 ^ 31; omega)]
  show s.toInt = (s.toInt.toNat : Int)
  omega
section RSay
variable {n : Int32} {Y : rY} {pa : Nat → Int32} {ρ : Nat → Nat} {pl : Nat → Option Nat} {P : cQ}
theorem rIs_kOf (wf : cWF pl P) {t : Nat} (ht : t ∈ P.1) (hk : P.2.1 t < 7) {s0 : Int32} (hs : vp_in s0 16) : rIs (rSt (P.2.1 t) (P.2.2.1 t)) s0 = if kOf (P.2.1 t) (P.2.2.1 t) s0 = true then 1 else 0 := by
  obtain ⟨e, hm⟩ := i32_nI hs
  rw [e]
  generalize s0.toNatClampNeg = m at hm
  have hc : P.2.1 t = 0 ∨ P.2.1 t = 1 ∨ P.2.1 t = 2 ∨ P.2.1 t = 3 ∨ P.2.1 t = 4 ∨ P.2.1 t = 5 ∨ P.2.1 t = 6 := by omega
  rcases hc with h | h | h | h | h | h | h
  · rw [h]; exact rIs_0 ⟨m, hm⟩
  · rw [h]; exact rIs_1 ⟨m, hm⟩
  · rw [h]; exact rIs_2 ⟨m, hm⟩
  · rw [h]; exact rIs_3 ⟨m, hm⟩
  · obtain ⟨j, hj, ej⟩ := wf.2.2.2.2.2.2.2.1 t ht h
    rw [h, ej]; exact rIs_4 ⟨m, hm⟩ ⟨j, hj⟩
  · obtain ⟨j, hj, ej⟩ := wf.2.2.2.2.2.2.1 t ht h
    rw [h, ej]; exact rIs_5 ⟨m, hm⟩ ⟨j, hj⟩
  · rcases wf.2.2.2.2.2.1 t ht h with ⟨h1, _⟩ | ⟨h1, _⟩ | ⟨h1, _⟩ | ⟨h1, _⟩ <;> rw [h, h1]
    · exact rIs_6 ⟨m, hm⟩ ⟨0, by decide⟩
    · exact rIs_6 ⟨m, hm⟩ ⟨1, by decide⟩
    · exact rIs_6 ⟨m, hm⟩ ⟨2, by decide⟩
    · exact rIs_6 ⟨m, hm⟩ ⟨3, by decide⟩
theorem rk_zero (h : rR n Y pa ρ pl P) {x : Int32} (hx : vp_in x 32) (hz : pa x.toNatClampNeg = 0) : pl x.toNatClampNeg = none := by
  rcases h.2.2.2.2 _ (i32_inR hx).2 with ⟨_, e⟩ | ⟨a, _, _⟩
  · exact e
  · rw [hz] at a; exact absurd a (by decide)
theorem rk_pl (h : rR n Y pa ρ pl P) {x : Int32} (hx : vp_in x 32) (hz : ¬ pa x.toNatClampNeg = 0) : pl x.toNatClampNeg = some (ρ (pa x.toNatClampNeg).toNatClampNeg) := by
  rcases h.2.2.2.2 _ (i32_inR hx).2 with ⟨e, _⟩ | ⟨_, _, e⟩
  · exact absurd e hz
  · exact e
theorem rk_vin (h : rR n Y pa ρ pl P) {x : Int32} (hx : vp_in x 32) : pa x.toNatClampNeg = 0 ∨ vp_in (pa x.toNatClampNeg) Y.2.2.2.2.2.2.2.1 := by
  rcases h.2.2.2.2 _ (i32_inR hx).2 with ⟨e, _⟩ | ⟨a, b, _⟩
  · exact Or.inl e
  · exact Or.inr (rk_in h a b).1
/-- the thing at an index below n -/
theorem rk_th (h : rR n Y pa ρ pl P) {v : Int32} (h0 : 0 < v) (h1 : v < n) : rTh n Y ρ P v.toNatClampNeg := h.2.2.1 _ (rk_in h h0 h1).2.1 (rk_in h h0 h1).2.2.1
theorem rk_is (h : rR n Y pa ρ pl P) (wf : cWF pl P) {v : Int32} (h0 : 0 < v) (h1 : v < n) {s0 : Int32} (hs : vp_in s0 16) : rIs (Y.1 v.toNatClampNeg) s0 = if kOf (P.2.1 (ρ v.toNatClampNeg)) (P.2.2.1 (ρ v.toNatClampNeg)) s0 = true then 1 else 0 := by
  have ht := rk_th h h0 h1
  rw [ht.1.2.2]
  exact rIs_kOf wf ht.1.1 ht.1.2.1 hs
theorem rk_yes (h : rR n Y pa ρ pl P) (wf : cWF pl P) {x : Int32} (hx : vp_in x 32) {s0 : Int32} (hs : vp_in s0 16) (hz : ¬ pa x.toNatClampNeg = 0) (hi : ¬ (if pa x.toNatClampNeg = 0 then 0 else rIs (Y.1 (pa x.toNatClampNeg).toNatClampNeg) s0) = 0) : kOf (P.2.1 (ρ (pa x.toNatClampNeg).toNatClampNeg)) (P.2.2.1 (ρ (pa x.toNatClampNeg).toNatClampNeg)) s0 = true := by
  obtain ⟨a, b, _⟩ := rk_some h hx (rk_pl h hx hz)
  rw [if_neg hz, rk_is h wf a b hs] at hi
  by_cases hk : kOf (P.2.1 (ρ (pa x.toNatClampNeg).toNatClampNeg)) (P.2.2.1 (ρ (pa x.toNatClampNeg).toNatClampNeg)) s0 = true
  · exact hk
  · rw [if_neg hk] at hi; exact absurd rfl hi
theorem rk_not (h : rR n Y pa ρ pl P) (wf : cWF pl P) {x : Int32} (hx : vp_in x 32) {s0 : Int32} (hs : vp_in s0 16) (hz : ¬ pa x.toNatClampNeg = 0) (hi : (if pa x.toNatClampNeg = 0 then 0 else rIs (Y.1 (pa x.toNatClampNeg).toNatClampNeg) s0) = 0) : kOf (P.2.1 (ρ (pa x.toNatClampNeg).toNatClampNeg)) (P.2.2.1 (ρ (pa x.toNatClampNeg).toNatClampNeg)) s0 = false := by
  obtain ⟨a, b, _⟩ := rk_some h hx (rk_pl h hx hz)
  rw [if_neg hz, rk_is h wf a b hs] at hi
  by_cases hk : kOf (P.2.1 (ρ (pa x.toNatClampNeg).toNatClampNeg)) (P.2.2.1 (ρ (pa x.toNatClampNeg).toNatClampNeg)) s0 = true
  · rw [if_pos hk] at hi; exact absurd hi (by decide)
  · simpa using hk
end RSay


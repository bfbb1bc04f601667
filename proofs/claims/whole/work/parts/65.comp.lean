/-! ===== compacting ===== -/
/-- what the cell i of the thing t becomes -/
def gNc (Y : rY) (td : Nat → Int32) (t i : Nat) : Int64 := if (8 ≤ Y.1 t ∧ Y.1 t ≤ 11) ∨ (12 ≤ Y.1 t ∧ Y.1 t ≤ 14 ∧ i = 1) then (td (Y.2.2.2.2.2.1 (rFr Y t + i)).toInt32.toNatClampNeg).toInt64 else Y.2.2.2.2.2.1 (rFr Y t + i)
/-- the ranks of those below t -/
def gTd (hd td : Nat → Int32) (t : Nat) : Prop := ∀ s, 1 ≤ s → s < t → ¬ hd s = 0 → 0 ≤ td s ∧ (td s).toNatClampNeg = 1 + hc hd s
/-- from t on, all is as it was -/
def gS (Y : rY) (s1 f1 m1 : Nat → Int32) (t : Nat) : Prop := ∀ j, 1 ≤ j → t ≤ j → j < Y.2.2.2.2.2.2.2.2.2.1.toNatClampNeg → s1 j = Y.1 j ∧ f1 j = Y.2.1 j ∧ m1 j = Y.2.2.1 j
def gCs (Y : rY) (c1 : Nat → Int64) (t k : Nat) : Prop := (∀ i, k ≤ i → i < rMn Y t → c1 (rFr Y t + i) = Y.2.2.2.2.2.1 (rFr Y t + i)) ∧ ∀ j, t < j → j < Y.2.2.2.2.2.2.2.2.2.1.toNatClampNeg → ∀ i, i < rMn Y j → c1 (rFr Y j + i) = Y.2.2.2.2.2.1 (rFr Y j + i)
/-- below t, all that is held has its new place -/
def gD (Y : rY) (hd s2 f2 m2 : Nat → Int32) (t : Nat) : Prop := ∀ s, 1 ≤ s → s < t → ¬ hd s = 0 → s2 (1 + hc hd s) = Y.1 s ∧ (0 ≤ f2 (1 + hc hd s) ∧ (f2 (1 + hc hd s)).toNatClampNeg = us hd (rMn Y) s) ∧ m2 (1 + hc hd s) = Y.2.2.1 s
def gCd (Y : rY) (td hd : Nat → Int32) (c2 : Nat → Int64) (t k : Nat) : Prop := (∀ i, i < k → c2 (us hd (rMn Y) t + i) = gNc Y td t i) ∧ ∀ s, 1 ≤ s → s < t → ¬ hd s = 0 → ∀ i, i < rMn Y s → c2 (us hd (rMn Y) s + i) = gNc Y td s i
section GComp
variable {Y : rY} {td hd s1 f1 m1 s2 f2 m2 : Nat → Int32} {c1 c2 : Nat → Int64} {t k : Nat}
theorem us_F (hL : rLay Y) (h0 : hd 0 = 0) (t : Nat) (ht : t ≤ Y.2.2.2.2.2.2.2.2.2.1.toNatClampNeg) : us hd (rMn Y) t ≤ Y.2.2.2.2.2.2.2.2.2.2.toNatClampNeg ∧ ∀ t', t ≤ t' → 1 ≤ t' → t' < Y.2.2.2.2.2.2.2.2.2.1.toNatClampNeg → us hd (rMn Y) t ≤ rFr Y t' := by
  induction t with
  | zero => exact ⟨Nat.zero_le _, fun _ _ _ _ => Nat.zero_le _⟩
  | succ t ih =>
    obtain ⟨i1, i2⟩ := ih (by omega)
    rw [us_s]
    by_cases hz : hd t = 0
    · rw [if_pos hz]
      exact ⟨by omega, fun t' a b c => by have := i2 t' (by omega) b c; omega⟩
    · rw [if_neg hz]
      have t1 : 1 ≤ t := by
        rcases Nat.eq_zero_or_pos t with e | e
        · subst e; exact absurd h0 hz
        · exact e
      have f1 := i2 t (Nat.le_refl _) t1 (by omega)
      have f2 := (hL.2.2.2.1 t t1 (by omega)).2.2
      exact ⟨by omega, fun t' a b c => by have := hL.2.2.2.2 t t' t1 (by omega) c; omega⟩
theorem gS_0 : gS Y Y.1 Y.2.1 Y.2.2.1 t := fun _ _ _ _ => ⟨rfl, rfl, rfl⟩
theorem gCs_0 : gCs Y Y.2.2.2.2.2.1 t k := ⟨fun _ _ _ => rfl, fun _ _ _ _ _ => rfl⟩
theorem gD_1 : gD Y hd s2 f2 m2 1 := fun s a b _ => absurd b (by omega)
theorem gCd_1 : gCd Y td hd c2 1 0 := ⟨fun i h => absurd h (by omega), fun s a b _ => absurd b (by omega)⟩
theorem gS_next (h : gS Y s1 f1 m1 t) : gS Y s1 f1 m1 (t + 1) := fun j a b c => h j a (by omega) c
theorem gD_skip (h : gD Y hd s2 f2 m2 t) (hz : hd t = 0) : gD Y hd s2 f2 m2 (t + 1) := fun s a b c => by
  by_cases e : s = t
  · subst e; exact absurd hz c
  · exact h s a (by omega) c
theorem gCs_skip (h : gCs Y c1 t k) : ∀ j, t + 1 ≤ j → j < Y.2.2.2.2.2.2.2.2.2.1.toNatClampNeg → ∀ i, i < rMn Y j → c1 (rFr Y j + i) = Y.2.2.2.2.2.1 (rFr Y j + i) := fun j a b i hi => h.2 j (by omega) b i hi
theorem gCs_of (h : ∀ j, t ≤ j → j < Y.2.2.2.2.2.2.2.2.2.1.toNatClampNeg → ∀ i, i < rMn Y j → c1 (rFr Y j + i) = Y.2.2.2.2.2.1 (rFr Y j + i)) (ht : t < Y.2.2.2.2.2.2.2.2.2.1.toNatClampNeg) : gCs Y c1 t 0 := ⟨fun i _ hi => h t (Nat.le_refl _) ht i hi, fun j a b => h j (by omega) b⟩
theorem gCd_skip (h : gCd Y td hd c2 t 0) (hz : hd t = 0) : gCd Y td hd c2 (t + 1) 0 := ⟨fun i h9 => absurd h9 (by omega), fun s a b c => by
  by_cases e : s = t
  · subst e; exact absurd hz c
  · exact h.2 s a (by omega) c⟩
theorem gCd_next (h : gCd Y td hd c2 t k) (hk : rMn Y t ≤ k) : gCd Y td hd c2 (t + 1) 0 := ⟨fun i h9 => absurd h9 (by omega), fun s a b c i hi => by
  by_cases e : s = t
  · subst e; exact h.1 i (by omega)
  · exact h.2 s a (by omega) c i hi⟩
/-- a cell is written in its new place -/
theorem gCd_put (h : gCd Y td hd c2 t k) (hk : k < rMn Y t) {v : Int64} (hv : v = gNc Y td t k) {a : Nat} (ha : a = us hd (rMn Y) t + k) : gCd Y td hd (vp_updL c2 a v) t (k + 1) := by
  subst ha
  refine ⟨fun i hi => ?_, fun s a b c i hi => ?_⟩
  · by_cases e : i = k
    · subst e; simp [vp_updL, hv]
    · rw [show vp_updL c2 (us hd (rMn Y) t + k) v (us hd (rMn Y) t + i) = c2 (us hd (rMn Y) t + i) by simp [vp_updL, e]]
      exact h.1 i (by omega)
  · have := us_next (m := rMn Y) b c
    rw [show vp_updL c2 (us hd (rMn Y) t + k) v (us hd (rMn Y) s + i) = c2 (us hd (rMn Y) s + i) by
      have : ¬ us hd (rMn Y) s + i = us hd (rMn Y) t + k := by omega
      simp [vp_updL, this]]
    exact h.2 s a b c i hi
/-- and that leaves the cells that are still to be read -/
theorem gCs_put (hL : rLay Y) (h0 : hd 0 = 0) (t1 : 1 ≤ t) (ht : t < Y.2.2.2.2.2.2.2.2.2.1.toNatClampNeg) (h : gCs Y c1 t k) (hk : k < rMn Y t) {v : Int64} {a : Nat} (ha : a = us hd (rMn Y) t + k) : gCs Y (vp_updL c1 a v) t (k + 1) := by
  subst ha
  have hF := (us_F hL h0 t (Nat.le_of_lt ht)).2 t (Nat.le_refl _) t1 ht
  refine ⟨fun i hi hm => ?_, fun j a b i hi => ?_⟩
  · rw [show vp_updL c1 (us hd (rMn Y) t + k) v (rFr Y t + i) = c1 (rFr Y t + i) by
      have : ¬ rFr Y t + i = us hd (rMn Y) t + k := by omega
      simp [vp_updL, this]]
    exact h.1 i (by omega) hm
  · have := hL.2.2.2.2 t j t1 a b
    rw [show vp_updL c1 (us hd (rMn Y) t + k) v (rFr Y j + i) = c1 (rFr Y j + i) by
      have : ¬ rFr Y j + i = us hd (rMn Y) t + k := by omega
      simp [vp_updL, this]]
    exact h.2 j a b i hi
theorem gS_put (h : gS Y s1 f1 m1 t) {u : Nat} (hu : u ≤ t) {a b c : Int32} : gS Y (upd s1 u a) (upd f1 u b) (upd m1 u c) (t + 1) := fun j h1 h2 h3 => by
  have e : ¬ j = u := by omega
  rw [upd_at', if_neg e, upd_at', if_neg e, upd_at', if_neg e]
  exact h j h1 (by omega) h3
theorem gD_put (h : gD Y hd s2 f2 m2 t) {u : Nat} (hu : u = 1 + hc hd t) {b : Int32} (hb : 0 ≤ b ∧ b.toNatClampNeg = us hd (rMn Y) t) (hz : ¬ hd t = 0) : gD Y hd (upd s2 u (Y.1 t)) (upd f2 u b) (upd m2 u (Y.2.2.1 t)) (t + 1) := fun s h1 h2 h3 => by
  subst hu
  by_cases e : s = t
  · subst e
    simp only [upd_at', if_true]
    exact ⟨trivial, hb, trivial⟩
  · have e2 : ¬ 1 + hc hd s = 1 + hc hd t := by
      intro q
      exact e (hc_inj h3 hz (by omega))
    rw [upd_at', if_neg e2, upd_at', if_neg e2, upd_at', if_neg e2]
    exact h s h1 (by omega) h3
theorem rk_le (h0 : hd 0 = 0) (t1 : 1 ≤ t) : 1 + hc hd t ≤ t := by have := hc_lt h0 t1; omega
end GComp
section GFin
variable {Y : rY} {pa : Nat → Int32} {ρ : Nat → Nat} {pl : Nat → Option Nat} {P : cQ} {td hd s2 f2 m2 td2 hd2 pa2 : Nat → Int32} {c2 : Nat → Int64} {ad2 : Nat → Nat} {L2 C2 : Nat} {lv to : Int32}
/-- whose new number is u -/
noncomputable def gRho (n : Nat) (hd : Nat → Int32) (ρ : Nat → Nat) (u : Nat) : Nat := ρ (Classical.epsilon (fun t => t < n ∧ ¬ hd t = 0 ∧ 1 + hc hd t = u))
theorem gRho_at {n t : Nat} (ht : t < n) (hz : ¬ hd t = 0) : gRho n hd ρ (1 + hc hd t) = ρ t := by
  have h := Classical.epsilon_spec (p := fun s => s < n ∧ ¬ hd s = 0 ∧ 1 + hc hd s = 1 + hc hd t) ⟨t, ht, hz, rfl⟩
  exact congrArg ρ (hc_inj h.2.1 hz (by omega))
/-- a link's new number -/
theorem gLk (hT : gTd hd td Y.2.2.2.2.2.2.2.2.2.1.toNatClampNeg) (ht0 : td 0 = 0) (hl : 0 ≤ lv ∧ lv.toNatClampNeg = 1 + hc hd Y.2.2.2.2.2.2.2.2.2.1.toNatClampNeg) {v : Int32} {o : Option Nat} (hg : gOk Y.2.2.2.2.2.2.2.2.2.1 hd v) (h : rLk Y.2.2.2.2.2.2.2.2.2.1 ρ v o) : rLk lv (gRho Y.2.2.2.2.2.2.2.2.2.1.toNatClampNeg hd ρ) (td v.toNatClampNeg) o := by
  rcases h with ⟨rfl, e⟩ | ⟨a, b, e⟩
  · exact Or.inl ⟨ht0, e⟩
  · have hv := i32_pos a
    have hlt := i32_lt hv.1 b
    have hz : ¬ hd v.toNatClampNeg = 0 := by
      rcases hg with rfl | ⟨_, _, q⟩
      · exact absurd rfl hv.2.1
      · exact q
    obtain ⟨q0, q1⟩ := hT _ hv.2.2 hlt hz
    have hs := hc_strict hlt hz
    refine Or.inr ⟨?_, ?_, ?_⟩
    · rw [Int32.le_iff_toInt_le, ci_0] at q0
      have q1 : (td v.toNatClampNeg).toInt.toNat = 1 + hc hd v.toNatClampNeg := q1
      rw [Int32.lt_iff_toInt_lt, ci_0]
      omega
    · obtain ⟨l0, l1⟩ := hl
      rw [Int32.le_iff_toInt_le, ci_0] at q0 l0
      have q1 : (td v.toNatClampNeg).toInt.toNat = 1 + hc hd v.toNatClampNeg := q1
      have l1 : lv.toInt.toNat = 1 + hc hd Y.2.2.2.2.2.2.2.2.2.1.toNatClampNeg := l1
      rw [Int32.lt_iff_toInt_lt]
      omega
    · rw [q1, gRho_at hlt hz]; exact e
theorem i64_32 (x : Int32) : x.toInt64.toInt32 = x := by
  apply Int32.toInt_inj.mp
  rw [Int64.toInt_toInt32, Int32.toInt_toInt64]
  exact Int.bmod_eq_of_le (by have := x.le_toInt; omega) (by have := x.toInt_lt; omega)
theorem gLl (hT : gTd hd td Y.2.2.2.2.2.2.2.2.2.1.toNatClampNeg) (ht0 : td 0 = 0) (hl : 0 ≤ lv ∧ lv.toNatClampNeg = 1 + hc hd Y.2.2.2.2.2.2.2.2.2.1.toNatClampNeg) {v : Int64} {o : Option Nat} (hg : gOk Y.2.2.2.2.2.2.2.2.2.1 hd v.toInt32) (h : rLl Y.2.2.2.2.2.2.2.2.2.1 ρ v o) : rLl lv (gRho Y.2.2.2.2.2.2.2.2.2.1.toNatClampNeg hd ρ) (td v.toInt32.toNatClampNeg).toInt64 o := by
  obtain ⟨x, rfl, hk⟩ := h
  rw [i64_32] at hg ⊢
  exact ⟨_, rfl, gLk hT ht0 hl hg hk⟩
theorem ki_sr (wf : cWF pl P) {t : Nat} (ht : t ∈ P.1) (hk : P.2.1 t < 7) : (P.2.1 t = 6 → 8 ≤ rSt (P.2.1 t) (P.2.2.1 t) ∧ rSt (P.2.1 t) (P.2.2.1 t) ≤ 11) ∧ (P.2.1 t < 3 → 12 ≤ rSt (P.2.1 t) (P.2.2.1 t) ∧ rSt (P.2.1 t) (P.2.2.1 t) ≤ 14) ∧ (P.2.1 t = 5 → rSt (P.2.1 t) (P.2.2.1 t) < 8) ∧ (P.2.1 t = 3 → rSt (P.2.1 t) (P.2.2.1 t) = 15) ∧ (P.2.1 t = 4 → 15 < rSt (P.2.1 t) (P.2.2.1 t)) := by
  refine ⟨fun h => ?_, fun h => ?_, fun h => ?_, fun h => ?_, fun h => ?_⟩
  · rcases wf.2.2.2.2.2.1 t ht h with ⟨h1, _⟩ | ⟨h1, _⟩ | ⟨h1, _⟩ | ⟨h1, _⟩ <;> rw [h, h1] <;> decide
  · rcases (show P.2.1 t = 0 ∨ P.2.1 t = 1 ∨ P.2.1 t = 2 by omega) with e | e | e <;> rw [e]
    · exact (show (12 : Int32) ≤ 14 ∧ (14 : Int32) ≤ 14 by decide)
    · exact (show (12 : Int32) ≤ 13 ∧ (13 : Int32) ≤ 14 by decide)
    · exact (show (12 : Int32) ≤ 12 ∧ (12 : Int32) ≤ 14 by decide)
  · obtain ⟨j, hj, ej⟩ := wf.2.2.2.2.2.2.1 t ht h
    rw [h, ej]
    exact (show ∀ j : Fin 8, rSt 5 (nI j.1) < 8 by decide +kernel) ⟨j, hj⟩
  · rw [h]; rfl
  · obtain ⟨j, hj, ej⟩ := wf.2.2.2.2.2.2.2.1 t ht h
    rw [h, ej]
    exact (show ∀ j : Fin 7, 15 < rSt 4 (nI j.1) by decide +kernel) ⟨j, hj⟩
theorem i32_le_lt {a b c : Int32} (h1 : a ≤ b) (h2 : b < c) : ¬ c ≤ a := by
  rw [Int32.le_iff_toInt_le] at h1 ⊢
  rw [Int32.lt_iff_toInt_lt] at h2
  omega
/-- an index of a cell, as the code counts it -/
theorem ix_of (hL : rLay Y) {t i : Nat} (t1 : 1 ≤ t) (t2 : t < Y.2.2.2.2.2.2.2.2.2.1.toNatClampNeg) (hi : i < rMn Y t) : vp_in (nI i) (rMn Y t) ∧ (Y.2.1 t + nI i).toNatClampNeg = rFr Y t + i ∧ (nI i).toNatClampNeg = i ∧ vp_in (Y.2.1 t + nI i) Y.2.2.2.2.2.2.2.2.1 := by
  obtain ⟨f0, m0, h⟩ := hL.2.2.2.1 t t1 t2
  have hC := (rl_L hL).2
  have hp := hL.2.1.2
  have e : (nI i).toInt = i := nI_toInt (by omega)
  have e0 : (nI i).toNatClampNeg = i := by show (nI i).toInt.toNat = i; rw [e]; omega
  have hn : 0 ≤ nI i := by rw [Int32.le_iff_toInt_le, ci_0, e]; omega
  have ha := i32_add f0 hn (by rw [e0]; have : rFr Y t + i < 2147483648 := by omega
                               exact this)
  rw [e0] at ha
  exact ⟨i32_in hn (by rw [e0]; exact hi), ha.1, e0, i32_in ha.2 (by rw [ha.1]; have : rFr Y t + i < Y.2.2.2.2.2.2.2.2.1 := by omega
                                                                     exact this)⟩
theorem gcl_at (hL : rLay Y) {t i : Nat} (t1 : 1 ≤ t) (t2 : t < Y.2.2.2.2.2.2.2.2.2.1.toNatClampNeg) (h : gCl Y hd t) (hi : i < rMn Y t) (hl : (8 ≤ Y.1 t ∧ Y.1 t ≤ 11) ∨ (12 ≤ Y.1 t ∧ Y.1 t ≤ 14 ∧ i = 1)) : gOk Y.2.2.2.2.2.2.2.2.2.1 hd (Y.2.2.2.2.2.1 (rFr Y t + i)).toInt32 := by
  obtain ⟨a, b, c, _⟩ := ix_of hL t1 t2 hi
  have := h (nI i) a (by
    rcases hl with q | ⟨q1, q2, q3⟩
    · exact Or.inl q
    · exact Or.inr ⟨q1, q2, by rw [q3]; rfl⟩)
  rw [b] at this
  exact this
theorem gNc_no {t i : Nat} (h : ¬ ((8 ≤ Y.1 t ∧ Y.1 t ≤ 11) ∨ (12 ≤ Y.1 t ∧ Y.1 t ≤ 14 ∧ i = 1))) : gNc Y td t i = Y.2.2.2.2.2.1 (rFr Y t + i) := by unfold gNc; rw [if_neg h]
theorem gNc_ln {t i : Nat} (h : (8 ≤ Y.1 t ∧ Y.1 t ≤ 11) ∨ (12 ≤ Y.1 t ∧ Y.1 t ≤ 14 ∧ i = 1)) : gNc Y td t i = (td (Y.2.2.2.2.2.1 (rFr Y t + i)).toInt32.toNatClampNeg).toInt64 := by unfold gNc; rw [if_pos h]
theorem gc_th (wf : cWF pl P) (rel : rR Y.2.2.2.2.2.2.2.2.2.1 Y pa ρ pl P) (hcl : ∀ t, 1 ≤ t → t < Y.2.2.2.2.2.2.2.2.2.1.toNatClampNeg → ¬ hd t = 0 → gCl Y hd t) (hT : gTd hd td Y.2.2.2.2.2.2.2.2.2.1.toNatClampNeg) (ht0 : td 0 = 0) (hl : 0 ≤ lv ∧ lv.toNatClampNeg = 1 + hc hd Y.2.2.2.2.2.2.2.2.2.1.toNatClampNeg)
    (hD : gD Y hd s2 f2 m2 Y.2.2.2.2.2.2.2.2.2.1.toNatClampNeg) (hC : gCd Y td hd c2 Y.2.2.2.2.2.2.2.2.2.1.toNatClampNeg 0) {t : Nat} (t1 : 1 ≤ t) (t2 : t < Y.2.2.2.2.2.2.2.2.2.1.toNatClampNeg) (hz : ¬ hd t = 0) :
    rTh lv (s2, f2, m2, td2, hd2, c2, ad2, L2, C2, lv, to) (gRho Y.2.2.2.2.2.2.2.2.2.1.toNatClampNeg hd ρ) P (1 + hc hd t) := by
  have H := rel.2.2.1 t t1 t2
  obtain ⟨d1, ⟨d2, d3⟩, d4⟩ := hD t t1 t2 hz
  have hr : gRho Y.2.2.2.2.2.2.2.2.2.1.toNatClampNeg hd ρ (1 + hc hd t) = ρ t := gRho_at t2 hz
  have hM : (m2 (1 + hc hd t)).toNatClampNeg = rMn Y t := by rw [d4]
  have hcc := hC.2 t t1 t2 hz
  have K := ki_sr wf H.1.1 H.1.2.1
  rw [← H.1.2.2] at K
  unfold rTh
  rw [hr]
  show (ρ t ∈ P.1 ∧ P.2.1 (ρ t) < 7 ∧ s2 (1 + hc hd t) = _) ∧ (_ → ∀ r, _ → (m2 (1 + hc hd t)).toNatClampNeg = _ ∧ ∀ j, _ → c2 ((f2 (1 + hc hd t)).toNatClampNeg + j) = _) ∧ (_ → ∀ r, _ → (m2 (1 + hc hd t)).toNatClampNeg = _ ∧ ∀ j, _ → rLl _ _ (c2 ((f2 (1 + hc hd t)).toNatClampNeg + j)) _) ∧ (_ → (m2 (1 + hc hd t)).toNatClampNeg = _ ∧ c2 (f2 (1 + hc hd t)).toNatClampNeg = _) ∧ (_ → rLl _ _ (c2 ((f2 (1 + hc hd t)).toNatClampNeg + 1)) _) ∧ (_ → c2 ((f2 (1 + hc hd t)).toNatClampNeg + 2) = _) ∧ (_ → (m2 (1 + hc hd t)).toNatClampNeg = 0)
  rw [hM, d3, d1]
  refine ⟨H.1, fun h5 r hr5 => ?_, fun h6 r hr6 => ?_, fun h4 => ?_, fun h3 => ?_, fun h2 => ?_, fun h4 => H.2.2.2.2.2.2 h4⟩
  · have e1 : rMn Y t = P.2.2.2.2.2.1 r := (H.2.1 h5 r hr5).1
    have e2 := (H.2.1 h5 r hr5).2
    refine ⟨e1, fun j hj => ?_⟩
    rw [hcc j (by rw [e1]; exact hj), gNc_no, e2 j hj]
    rintro (⟨q, _⟩ | ⟨q, _⟩)
    · exact i32_le_lt (Int32.le_refl _) (K.2.2.1 h5) q
    · have h9 := K.2.2.1 h5
      rw [Int32.lt_iff_toInt_lt] at h9
      rw [Int32.le_iff_toInt_le] at q
      have e8 : (8 : Int32).toInt = 8 := by decide
      have e12 : (12 : Int32).toInt = 12 := by decide
      omega
  · have e1 : rMn Y t = P.2.2.2.2.2.1 r := (H.2.2.1 h6 r hr6).1
    have e2 := (H.2.2.1 h6 r hr6).2
    refine ⟨e1, fun j hj => ?_⟩
    have hln := K.1 h6
    have hj9 : j < rMn Y t := by rw [e1]; exact hj
    rw [hcc j hj9, gNc_ln (Or.inl hln)]
    exact gLl hT ht0 hl (gcl_at rel.1 t1 t2 (hcl t t1 t2 hz) hj9 (Or.inl hln)) (e2 j hj)
  · have e1 : rMn Y t = 3 := (H.2.2.2.1 h4).1
    have e2 := (H.2.2.2.1 h4).2
    refine ⟨e1, ?_⟩
    have h9 := hcc 0 (by rw [e1]; decide)
    rw [Nat.add_zero] at h9
    rw [h9, gNc_no]
    · rw [Nat.add_zero]; exact e2
    · rintro (⟨_, q⟩ | ⟨_, _, q⟩)
      · rcases (show P.2.1 (ρ t) < 3 ∨ P.2.1 (ρ t) = 3 by omega) with h3 | h3
        · have := (K.2.1 h3).1
          rw [Int32.le_iff_toInt_le] at this q
          have e11 : (11 : Int32).toInt = 11 := by decide
          have e12 : (12 : Int32).toInt = 12 := by decide
          omega
        · rw [K.2.2.2.1 h3] at q; exact absurd q (by decide)
      · omega
  · have e1 : rMn Y t = 3 := (H.2.2.2.1 (by omega)).1
    have hln := K.2.1 h3
    have hl9 : (8 ≤ Y.1 t ∧ Y.1 t ≤ 11) ∨ (12 ≤ Y.1 t ∧ Y.1 t ≤ 14 ∧ 1 = 1) := Or.inr ⟨hln.1, hln.2, rfl⟩
    rw [hcc 1 (by rw [e1]; decide), gNc_ln hl9]
    exact gLl hT ht0 hl (gcl_at rel.1 t1 t2 (hcl t t1 t2 hz) (by rw [e1]; decide) hl9) (H.2.2.2.2.1 h3)
  · have e1 : rMn Y t = 3 := (H.2.2.2.1 (by omega)).1
    rw [hcc 2 (by rw [e1]; decide), gNc_no]
    · exact H.2.2.2.2.2.1 h2
    · rintro (⟨_, q⟩ | ⟨_, _, q⟩)
      · have := (K.2.1 (by omega)).1
        rw [Int32.le_iff_toInt_le] at this q
        have e11 : (11 : Int32).toInt = 11 := by decide
        have e12 : (12 : Int32).toInt = 12 := by decide
        omega
      · omega
/-- behind the compacting the things and the places are the mill's, under their new numbers -/
theorem gc_fin (wf : cWF pl P) (rel : rR Y.2.2.2.2.2.2.2.2.2.1 Y pa ρ pl P) (h0 : hd 0 = 0) (hcl : ∀ t, 1 ≤ t → t < Y.2.2.2.2.2.2.2.2.2.1.toNatClampNeg → ¬ hd t = 0 → gCl Y hd t) (hT : gTd hd td Y.2.2.2.2.2.2.2.2.2.1.toNatClampNeg) (ht0 : td 0 = 0) (hl : 0 ≤ lv ∧ lv.toNatClampNeg = 1 + hc hd Y.2.2.2.2.2.2.2.2.2.1.toNatClampNeg) (hto : 0 ≤ to ∧ to.toNatClampNeg = us hd (rMn Y) Y.2.2.2.2.2.2.2.2.2.1.toNatClampNeg)
    (hD : gD Y hd s2 f2 m2 Y.2.2.2.2.2.2.2.2.2.1.toNatClampNeg) (hC : gCd Y td hd c2 Y.2.2.2.2.2.2.2.2.2.1.toNatClampNeg 0) (hpa : ∀ p, p < 32 → gOk Y.2.2.2.2.2.2.2.2.2.1 hd (pa p)) (hpa2 : ∀ p, p < 32 → pa2 p = td (pa p).toNatClampNeg)
    (hLL : Y.2.2.2.2.2.2.2.2.2.1.toNatClampNeg ≤ L2 ∧ Y.2.2.2.2.2.2.2.2.2.2.toNatClampNeg ≤ C2 ∧ ∃ i : Nat, i ≤ 6 ∧ L2 = 1500 * 2 ^ i ∧ 24000 * 2 ^ i ≤ C2 ∧ C2 + 99 ≤ 24099 * 2 ^ i) :
    rR lv (s2, f2, m2, td2, hd2, c2, ad2, L2, C2, lv, to) pa2 (gRho Y.2.2.2.2.2.2.2.2.2.1.toNatClampNeg hd ρ) pl P := by
  have hth := i32_pos rel.1.1.1
  have hlt : hc hd Y.2.2.2.2.2.2.2.2.2.1.toNatClampNeg + 1 ≤ Y.2.2.2.2.2.2.2.2.2.1.toNatClampNeg := hc_lt h0 hth.2.2
  have hlv : 0 < lv := by
    obtain ⟨a, b⟩ := hl
    rw [Int32.le_iff_toInt_le, ci_0] at a
    have b : lv.toInt.toNat = 1 + hc hd Y.2.2.2.2.2.2.2.2.2.1.toNatClampNeg := b
    rw [Int32.lt_iff_toInt_lt, ci_0]
    omega
  have sel : ∀ u, 1 ≤ u → u < lv.toNatClampNeg → ∃ t, 1 ≤ t ∧ t < Y.2.2.2.2.2.2.2.2.2.1.toNatClampNeg ∧ ¬ hd t = 0 ∧ u = 1 + hc hd t := by
    intro u u1 u2
    obtain ⟨t, a, b, c⟩ := hc_sel (h := hd) (n := Y.2.2.2.2.2.2.2.2.2.1.toNatClampNeg) (u := u - 1) (by rw [hl.2] at u2; omega)
    refine ⟨t, ?_, a, b, by omega⟩
    rcases Nat.eq_zero_or_pos t with e | e
    · subst e; exact absurd h0 b
    · exact e
  have hu := us_F (hd := hd) rel.1 h0 Y.2.2.2.2.2.2.2.2.2.1.toNatClampNeg (Nat.le_refl _)
  refine ⟨⟨⟨hlv, by show lv.toNatClampNeg ≤ L2; rw [hl.2]; omega⟩, ⟨hto.1, by show to.toNatClampNeg ≤ C2; rw [hto.2]; omega⟩, hLL.2.2, fun u u1 u2 => ?_, fun u u' u1 uu u2 => ?_⟩, ⟨hlv, Int32.le_refl _⟩, fun u u1 u2 => ?_, fun u u' u1 u2 v1 v2 e => ?_, fun p hp => ?_⟩
  · obtain ⟨t, t1, t2, hz, rfl⟩ := sel u u1 u2
    obtain ⟨_, ⟨d2, d3⟩, d4⟩ := hD t t1 t2 hz
    show 0 ≤ f2 _ ∧ 0 ≤ m2 _ ∧ (f2 _).toNatClampNeg + (m2 _).toNatClampNeg ≤ to.toNatClampNeg
    rw [d4, d3, hto.2]
    exact ⟨d2, (rel.1.2.2.2.1 t t1 t2).2.1, us_next (m := rMn Y) t2 hz⟩
  · have u9 : u' < lv.toNatClampNeg := u2
    obtain ⟨t, t1, t2, hz, rfl⟩ := sel u u1 (by omega)
    obtain ⟨t', t1', t2', hz', rfl⟩ := sel u' (by omega) u2
    obtain ⟨_, ⟨_, d3⟩, d4⟩ := hD t t1 t2 hz
    obtain ⟨_, ⟨_, d3'⟩, _⟩ := hD t' t1' t2' hz'
    have htt : t < t' := by
      rcases Nat.lt_or_ge t t' with q | q
      · exact q
      · have := hc_mono hd q; omega
    show (f2 _).toNatClampNeg + (m2 _).toNatClampNeg ≤ (f2 _).toNatClampNeg
    rw [d4, d3, d3']
    exact us_next (m := rMn Y) htt hz
  · obtain ⟨t, t1, t2, hz, rfl⟩ := sel u u1 u2
    exact gc_th wf rel hcl hT ht0 hl hD hC t1 t2 hz
  · obtain ⟨t, t1, t2, hz, rfl⟩ := sel u u1 u2
    obtain ⟨t', t1', t2', hz', rfl⟩ := sel u' v1 v2
    rw [gRho_at t2 hz, gRho_at t2' hz'] at e
    rw [rel.2.2.2.1 t t' t1 t2 t1' t2' e]
  · rw [hpa2 p hp]
    exact gLk hT ht0 hl (hpa p hp) (rel.2.2.2.2 p hp)
end GFin

/-! ===== marking and compacting ===== -/
abbrev updZ (f : Nat → Int32) (i : Nat) (x : Int32) : Nat → Int32 := upd f i (vp_nar .boolean x)
theorem updZ_0 {f : Nat → Int32} {i j : Nat} : updZ f i 0 j = if j = i then 0 else f j := rfl
theorem updZ_1 {f : Nat → Int32} {i j : Nat} : updZ f i 1 j = if j = i then 1 else f j := rfl
/-- how many are held below n -/
def hc (h : Nat → Int32) : Nat → Nat
  | 0 => 0
  | n + 1 => hc h n + (if h n = 0 then 0 else 1)
/-- how many cells they have -/
def us (h : Nat → Int32) (m : Nat → Nat) : Nat → Nat
  | 0 => 0
  | n + 1 => us h m n + (if h n = 0 then 0 else m n)
theorem hc_s (h : Nat → Int32) (n : Nat) : hc h (n + 1) = hc h n + (if h n = 0 then 0 else 1) := rfl
theorem us_s (h : Nat → Int32) (m : Nat → Nat) (n : Nat) : us h m (n + 1) = us h m n + (if h n = 0 then 0 else m n) := rfl
theorem hc_le (h : Nat → Int32) (n : Nat) : hc h n ≤ n := by
  induction n with
  | zero => exact Nat.le_refl _
  | succ n ih => rw [hc_s]; split <;> omega
theorem hc_mono (h : Nat → Int32) {a b : Nat} (hab : a ≤ b) : hc h a ≤ hc h b := by
  induction b with
  | zero => have : a = 0 := by omega
            subst this; exact Nat.le_refl _
  | succ b ih =>
    by_cases e : a = b + 1
    · subst e; exact Nat.le_refl _
    · have := ih (by omega)
      rw [hc_s]; omega
theorem hc_lt {h : Nat → Int32} (h0 : h 0 = 0) {n : Nat} (hn : 1 ≤ n) : hc h n + 1 ≤ n := by
  induction n with
  | zero => omega
  | succ n ih =>
    rw [hc_s]
    by_cases e : n = 0
    · subst e; rw [if_pos h0]; exact Nat.le_refl _
    · have := ih (by omega)
      split <;> omega
theorem hc_strict {h : Nat → Int32} {a b : Nat} (hab : a < b) (ha : ¬ h a = 0) : hc h a < hc h b := by
  have := hc_mono h (show a + 1 ≤ b from hab)
  rw [hc_s, if_neg ha] at this
  omega
theorem hc_same {h g : Nat → Int32} {n : Nat} (e : ∀ j, j < n → (g j = 0 ↔ h j = 0)) : hc g n = hc h n := by
  induction n with
  | zero => rfl
  | succ n ih =>
    rw [hc_s, hc_s, ih (fun j hj => e j (by omega))]
    by_cases hz : h n = 0
    · rw [if_pos hz, if_pos ((e n (by omega)).mpr hz)]
    · rw [if_neg hz, if_neg (fun q => hz ((e n (by omega)).mp q))]
theorem hc_up {h : Nat → Int32} {t n : Nat} (ht : t < n) (hz : h t = 0) : hc (updZ h t 1) n = hc h n + 1 := by
  induction n with
  | zero => omega
  | succ n ih =>
    rw [hc_s, hc_s]
    by_cases e : t = n
    · subst e
      rw [updZ_1, if_pos rfl, if_pos hz, if_neg (by decide)]
      rw [hc_same (h := h) (g := updZ h t 1)]
      intro j hj
      rw [updZ_1, if_neg (by omega)]
    · have e2 : updZ h t 1 n = h n := by rw [updZ_1, if_neg (fun q => e q.symm)]
      rw [ih (by omega), e2]
      omega
theorem us_mono (h : Nat → Int32) (m : Nat → Nat) {a b : Nat} (hab : a ≤ b) : us h m a ≤ us h m b := by
  induction b with
  | zero => have : a = 0 := by omega
            subst this; exact Nat.le_refl _
  | succ b ih =>
    by_cases e : a = b + 1
    · subst e; exact Nat.le_refl _
    · have := ih (by omega)
      rw [us_s]; omega
theorem us_next {h : Nat → Int32} {m : Nat → Nat} {a b : Nat} (hab : a < b) (ha : ¬ h a = 0) : us h m a + m a ≤ us h m b := by
  have := us_mono h m (show a + 1 ≤ b from hab)
  rw [us_s, if_neg ha] at this
  exact this
/-- the one of rank u -/
theorem hc_sel {h : Nat → Int32} {n u : Nat} (hu : u < hc h n) : ∃ t, t < n ∧ ¬ h t = 0 ∧ hc h t = u := by
  induction n with
  | zero => exact absurd hu (by show ¬ u < 0; omega)
  | succ n ih =>
    rw [hc_s] at hu
    by_cases hz : h n = 0
    · rw [if_pos hz] at hu
      obtain ⟨t, a, b, c⟩ := ih hu
      exact ⟨t, by omega, b, c⟩
    · by_cases hl : u < hc h n
      · obtain ⟨t, a, b, c⟩ := ih hl
        exact ⟨t, by omega, b, c⟩
      · rw [if_neg hz] at hu
        exact ⟨n, by omega, hz, by omega⟩
theorem hc_inj {h : Nat → Int32} {a b : Nat} (ha : ¬ h a = 0) (hb : ¬ h b = 0) (e : hc h a = hc h b) : a = b := by
  rcases Nat.lt_trichotomy a b with q | q | q
  · have := hc_strict q ha; omega
  · exact q
  · have := hc_strict q hb; omega
/-- does the cell k of the thing t hold a link -/
def rLn (Y : rY) (t : Nat) (k : Int32) : Prop := (8 ≤ Y.1 t ∧ Y.1 t ≤ 11) ∨ (12 ≤ Y.1 t ∧ Y.1 t ≤ 14 ∧ k = 1)
/-- nothing, or a thing that is held -/
def gOk (n : Int32) (hd : Nat → Int32) (v : Int32) : Prop := v = 0 ∨ (0 < v ∧ v < n ∧ ¬ hd v.toNatClampNeg = 0)
def gCl (Y : rY) (hd : Nat → Int32) (t : Nat) : Prop := ∀ k : Int32, vp_in k (rMn Y t) → rLn Y t k → gOk Y.2.2.2.2.2.2.2.2.2.1 hd (Y.2.2.2.2.2.1 (Y.2.1 t + k).toNatClampNeg).toInt32
/-- marking: those that wait are held; what is held waits, or all that it links is held, or is excepted -/
def gM (Y : rY) (E : Nat → Prop) (td hd : Nat → Int32) (wa : Int32) : Prop :=
  (0 ≤ wa ∧ wa.toNatClampNeg ≤ hc hd Y.2.2.2.2.2.2.2.2.2.1.toNatClampNeg) ∧ hd 0 = 0 ∧
  (∀ i, i < wa.toNatClampNeg → 0 < td i ∧ td i < Y.2.2.2.2.2.2.2.2.2.1 ∧ ¬ hd (td i).toNatClampNeg = 0) ∧
  (∀ t, 1 ≤ t → t < Y.2.2.2.2.2.2.2.2.2.1.toNatClampNeg → ¬ hd t = 0 → (∃ i, i < wa.toNatClampNeg ∧ (td i).toNatClampNeg = t) ∨ gCl Y hd t ∨ E t)
section GMark
variable {Y : rY} {E : Nat → Prop} {td hd : Nat → Int32} {wa v : Int32}
theorem gOk_up {n : Int32} {x : Int32} {t : Nat} (h : gOk n hd x) : gOk n (updZ hd t 1) x := by
  rcases h with h | ⟨a, b, c⟩
  · exact Or.inl h
  · refine Or.inr ⟨a, b, ?_⟩
    rw [updZ_1]
    split
    · decide
    · exact c
theorem gCl_up {t s : Nat} (h : gCl Y hd t) : gCl Y (updZ hd s 1) t := fun k hk hl => gOk_up (h k hk hl)
theorem gM_wa (hL : rLay Y) (h : gM Y E td hd wa) : vp_in wa Y.2.2.2.2.2.2.2.1 := by
  have h1 := hc_lt h.2.1 (i32_pos hL.1.1).2.2
  have h2 := h.1.2
  have h3 := hL.1.2
  exact i32_in h.1.1 (by omega)
theorem gM_w1 (hL : rLay Y) (h : gM Y E td hd wa) : (wa + 1).toNatClampNeg = wa.toNatClampNeg + 1 ∧ 0 ≤ wa + 1 := by
  have h1 := (i32_inR (gM_wa hL h)).2
  have h2 := (rl_L hL).1
  have := i32_add h.1.1 (show (0 : Int32) ≤ 1 by decide) (by show wa.toNatClampNeg + 1 < _; omega)
  exact this
theorem gM_reach (hL : rLay Y) (h : gM Y E td hd wa) (h0 : 0 < v) (h1 : v < Y.2.2.2.2.2.2.2.2.2.1) (hz : hd v.toNatClampNeg = 0) :
    gM Y E (upd td wa.toNatClampNeg v) (updZ hd v.toNatClampNeg 1) (wa + 1) ∧ gOk Y.2.2.2.2.2.2.2.2.2.1 (updZ hd v.toNatClampNeg 1) v ∧ hc (updZ hd v.toNatClampNeg 1) Y.2.2.2.2.2.2.2.2.2.1.toNatClampNeg = hc hd Y.2.2.2.2.2.2.2.2.2.1.toNatClampNeg + 1 := by
  obtain ⟨w1, w0⟩ := gM_w1 hL h
  have hv := i32_pos h0
  have hlt := i32_lt hv.1 h1
  have hcu := hc_up hlt hz
  refine ⟨⟨⟨w0, ?_⟩, ?_, ?_, ?_⟩, Or.inr ⟨h0, h1, ?_⟩, hcu⟩
  · rw [w1, hcu]; have := h.1.2; omega
  · rw [updZ_1, if_neg (by omega)]; exact h.2.1
  · intro i hi
    rw [w1] at hi
    by_cases e : i = wa.toNatClampNeg
    · subst e
      rw [upd_at', if_pos rfl]
      refine ⟨h0, h1, ?_⟩
      rw [updZ_1, if_pos rfl]; decide
    · rw [upd_at', if_neg e]
      obtain ⟨a, b, c⟩ := h.2.2.1 i (by omega)
      refine ⟨a, b, ?_⟩
      rw [updZ_1]
      split
      · decide
      · exact c
  · intro t t1 t2 ht
    by_cases e : t = v.toNatClampNeg
    · refine Or.inl ⟨wa.toNatClampNeg, by omega, ?_⟩
      rw [upd_at', if_pos rfl]; exact e.symm
    · rw [updZ_1, if_neg e] at ht
      rcases h.2.2.2 t t1 t2 ht with ⟨i, hi, ei⟩ | hcl | hE
      · refine Or.inl ⟨i, by omega, ?_⟩
        rw [upd_at', if_neg (by omega)]; exact ei
      · exact Or.inr (Or.inl (gCl_up hcl))
      · exact Or.inr (Or.inr hE)
  · rw [updZ_1, if_pos rfl]; decide
/-- taking the last that waits -/
theorem gM_pop (h : gM Y (fun _ => False) td hd wa) (hw : ¬ wa ≤ 0) : gM Y (fun t => t = (td (wa + (-1)).toNatClampNeg).toNatClampNeg) td hd (wa + (-1)) ∧ (0 < td (wa + (-1)).toNatClampNeg ∧ td (wa + (-1)).toNatClampNeg < Y.2.2.2.2.2.2.2.2.2.1 ∧ ¬ hd (td (wa + (-1)).toNatClampNeg).toNatClampNeg = 0) := by
  have e := down_eq hw
  have e0 : 0 ≤ wa + (-1) := by
    have := down_toInt hw
    rw [Int32.le_iff_toInt_le, ci_0] at hw
    rw [Int32.le_iff_toInt_le, ci_0]
    omega
  refine ⟨⟨⟨e0, by have := h.1.2; omega⟩, h.2.1, fun i hi => h.2.2.1 i (by omega), fun t t1 t2 ht => ?_⟩, h.2.2.1 _ (by omega)⟩
  rcases h.2.2.2 t t1 t2 ht with ⟨i, hi, ei⟩ | hcl | hE
  · by_cases e1 : i = (wa + (-1)).toNatClampNeg
    · rw [e1] at ei
      exact Or.inr (Or.inr (show t = (td (wa + (-1)).toNatClampNeg).toNatClampNeg from ei.symm))
    · exact Or.inl ⟨i, by omega, ei⟩
  · exact Or.inr (Or.inl hcl)
  · exact hE.elim
/-- all its links were looked at -/
theorem gM_end {t0 : Nat} (h : gM Y (fun t => t = t0) td hd wa) (hc0 : gCl Y hd t0) : gM Y (fun _ => False) td hd wa := by
  refine ⟨h.1, h.2.1, h.2.2.1, fun t t1 t2 ht => ?_⟩
  rcases h.2.2.2 t t1 t2 ht with q | q | q
  · exact Or.inl q
  · exact Or.inr (Or.inl q)
  · subst q; exact Or.inr (Or.inl hc0)
theorem gM_0 {th0 : Int32} (hL : rLay Y) (hz : ∀ j, j < Y.2.2.2.2.2.2.2.2.2.1.toNatClampNeg → hd j = 0) : gM Y (fun _ => False) td hd 0 := by
  refine ⟨⟨by decide, Nat.zero_le _⟩, hz 0 (by have := (i32_pos hL.1.1).2.2; omega), fun i hi => absurd hi (by show ¬ i < 0; omega), fun t _ t2 ht => absurd (hz t t2) ht⟩
/-- none waits any more -/
theorem gM_done (h : gM Y (fun _ => False) td hd wa) (hw : wa ≤ 0) : ∀ t, 1 ≤ t → t < Y.2.2.2.2.2.2.2.2.2.1.toNatClampNeg → ¬ hd t = 0 → gCl Y hd t := by
  intro t t1 t2 ht
  rcases h.2.2.2 t t1 t2 ht with ⟨i, hi, _⟩ | q | q
  · rw [c0_of hw] at hi; omega
  · exact q
  · exact q.elim
end GMark

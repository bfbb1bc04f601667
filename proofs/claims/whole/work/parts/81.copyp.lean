/-! ===== copied: the pure rows ===== -/
def cpB {α : Type} (f g : Nat → α) (i j lo hi : Nat) : Nat → α := fun x => if j + lo ≤ x ∧ x < j + hi then f (i + (x - j)) else g x
theorem cpB_full {α : Type} (f g : Nat → α) (i j n : Nat) : cpB f g i j 0 n = va_cpy f g i j n := by
  funext x; unfold cpB va_cpy; simp
theorem cpB_nil {α : Type} (f g : Nat → α) (i j m : Nat) : cpB f g i j m m = g := by
  funext x; unfold cpB; rw [if_neg (by omega)]
theorem cpB_up {α : Type} (f g : Nat → α) {i j lo hi : Nat} (h : lo ≤ hi) : va_up (cpB f g i j lo hi) (j + hi) (f (i + hi)) = cpB f g i j lo (hi + 1) := by
  funext x
  by_cases e : x = j + hi
  · subst e
    rw [va_up_self]
    unfold cpB
    rw [if_pos (by omega)]
    congr 1; omega
  · rw [va_up_ne _ _ e]
    unfold cpB
    by_cases q : j + lo ≤ x ∧ x < j + hi
    · rw [if_pos q, if_pos (by omega)]
    · rw [if_neg q, if_neg (by omega)]
theorem cpB_dn {α : Type} (f g : Nat → α) {i j lo hi : Nat} (h : lo < hi) : va_up (cpB f g i j (lo + 1) hi) (j + lo) (f (i + lo)) = cpB f g i j lo hi := by
  funext x
  by_cases e : x = j + lo
  · subst e
    rw [va_up_self]
    unfold cpB
    rw [if_pos (by omega)]
    congr 1; omega
  · rw [va_up_ne _ _ e]
    unfold cpB
    by_cases q : j + (lo + 1) ≤ x ∧ x < j + hi
    · rw [if_pos q, if_pos (by omega)]
    · rw [if_neg q, if_neg (by omega)]
theorem upL_up (f : Nat → Int64) (a : Nat) (v : Int64) : vp_updL f a v = va_up f a v := by
  funext x
  by_cases e : x = a
  · subst e; rw [va_up_self]; simp [vp_updL]
  · rw [va_up_ne _ _ e]; simp [vp_updL, e]
theorem cp_rd {α : Type} {L : Nat → Nat → α} {y1 y2 i j lo hi x : Nat} (h : y1 = y2 → ¬ (j + lo ≤ x ∧ x < j + hi)) : va_up L y2 (cpB (L y1) (L y2) i j lo hi) y1 x = L y1 x := by
  by_cases e : y1 = y2
  · subst e
    rw [va_up_self]
    unfold cpB
    rw [if_neg (h rfl)]
  · rw [va_up_ne _ _ e]
theorem pLc_self {P : cQ} {y : Nat} : pLc P y (P.2.2.2.2.2.2.1 y) = P := by
  have e : va_up P.2.2.2.2.2.2.1 y (P.2.2.2.2.2.2.1 y) = P.2.2.2.2.2.2.1 := by
    funext b
    by_cases hb : b = y
    · subst hb; rw [va_up_self]
    · rw [va_up_ne _ _ hb]
  show (P.1, P.2.1, P.2.2.1, P.2.2.2.1, P.2.2.2.2.1, P.2.2.2.2.2.1, va_up P.2.2.2.2.2.2.1 y (P.2.2.2.2.2.2.1 y), P.2.2.2.2.2.2.2) = P
  rw [e]
theorem pLc_pLc {P : cQ} {y : Nat} {f g : Nat → Int64} : pLc (pLc P y f) y g = pLc P y g := by
  have e : va_up (va_up P.2.2.2.2.2.2.1 y f) y g = va_up P.2.2.2.2.2.2.1 y g := by
    funext b
    by_cases hb : b = y
    · subst hb; rw [va_up_self, va_up_self]
    · rw [va_up_ne _ _ hb, va_up_ne _ _ hb, va_up_ne _ _ hb]
  show (P.1, P.2.1, P.2.2.1, P.2.2.2.1, P.2.2.2.2.1, P.2.2.2.2.2.1, va_up (va_up P.2.2.2.2.2.2.1 y f) y g, P.2.2.2.2.2.2.2) = _
  rw [e]
theorem pRc_pRc {P : cQ} {y : Nat} {f g : Nat → Option Nat} : pRc (pRc P y f) y g = pRc P y g := by
  have e : va_up (va_up P.2.2.2.2.2.2.2 y f) y g = va_up P.2.2.2.2.2.2.2 y g := by
    funext b
    by_cases hb : b = y
    · subst hb; rw [va_up_self, va_up_self]
    · rw [va_up_ne _ _ hb, va_up_ne _ _ hb, va_up_ne _ _ hb]
  show (P.1, P.2.1, P.2.2.1, P.2.2.2.1, P.2.2.2.2.1, P.2.2.2.2.2.1, P.2.2.2.2.2.2.1, va_up (va_up P.2.2.2.2.2.2.2 y f) y g) = _
  rw [e]
/-- counting down -/
theorem bd_ok {k n : Int32} (h0 : ¬ k < 0) (h : ¬ n ≤ k) : ¬ (n - 1 - k) < 0 ∧ ¬ n ≤ (n - 1 - k) ∧ (n - 1 - k).toNatClampNeg = n.toNatClampNeg - (k.toNatClampNeg + 1) := by
  rw [Int32.lt_iff_toInt_lt, ci_0] at h0
  rw [Int32.le_iff_toInt_le] at h
  have h1 := n.toInt_lt
  have e1 : (n - 1).toInt = n.toInt - 1 := by
    rw [Int32.toInt_sub, ci_1]
    exact Int.bmod_eq_of_le (by omega) (by omega)
  have e : (n - 1 - k).toInt = n.toInt - 1 - k.toInt := by
    rw [Int32.toInt_sub, e1]
    exact Int.bmod_eq_of_le (by omega) (by omega)
  refine ⟨by rw [Int32.lt_iff_toInt_lt, e, ci_0]; omega, by rw [Int32.le_iff_toInt_le, e]; omega, ?_⟩
  show (n - 1 - k).toInt.toNat = n.toInt.toNat - (k.toInt.toNat + 1)
  rw [e]; omega
/-- the spans, as the reference asks for them -/
theorem sp_by {i n m : Int32} (hi : ¬ i < 0) (hn : ¬ n < 0) (hb : i.toNatClampNeg < 128 ∧ n.toNatClampNeg < 128) (hm : 0 ≤ m) : (i + n ≤ m ↔ cSp i n m.toNatClampNeg) := by
  have e := i32_add (nn_of hi) (nn_of hn) (by omega)
  constructor
  · intro h
    have := i32_le h
    rw [e.1] at this
    exact ⟨hi, hn, this⟩
  · intro h
    have h2 := h.2.2
    rw [← e.1] at h2
    have a := e.2
    rw [Int32.le_iff_toInt_le, ci_0] at a hm
    have h2 : (i + n).toInt.toNat ≤ m.toInt.toNat := h2
    rw [Int32.le_iff_toInt_le]
    omega
theorem by_lt {x : Int32} (h : ∃ y : Int8, x = y.toInt32) : x.toNatClampNeg < 128 := by
  obtain ⟨y, rfl⟩ := h
  have h1 := y.toInt_lt
  show y.toInt32.toInt.toNat < 128
  rw [Int8.toInt_toInt32]
  omega
theorem gt_le {a b : Int32} (h : ¬ b < a) : a ≤ b := le_of h
section RCopy
variable {n : Int32} {Y : rY} {pa : Nat → Int32} {ρ : Nat → Nat} {pl : Nat → Option Nat} {P : cQ}
theorem cp_kind (wf : cWF pl P) {t1 t2 : Nat} (m1 : t1 ∈ P.1 ∧ P.2.1 t1 < 7) (m2 : t2 ∈ P.1 ∧ P.2.1 t2 < 7) {x y : Int32} (hx : x = rSt (P.2.1 t1) (P.2.2.1 t1)) (hy : y = rSt (P.2.1 t2) (P.2.2.1 t2)) :
    ((P.2.1 t1 = 5 ∧ P.2.1 t2 = 5 ∧ P.2.2.1 t1 = P.2.2.1 t2) → ¬ 12 ≤ x ∧ ¬ 12 ≤ y ∧ x < 8 ∧ y < 8 ∧ x = y) ∧ ((P.2.1 t1 = 6 ∧ P.2.1 t2 = 6) → ¬ 12 ≤ x ∧ ¬ 12 ≤ y ∧ ¬ x < 8 ∧ 8 ≤ y ∧ ¬ y < 8) ∧
    (¬ 12 ≤ x → ¬ 12 ≤ y → (x = y ∨ (¬ x < 8 ∧ 8 ≤ y)) → (P.2.1 t1 = 5 ∧ P.2.1 t2 = 5 ∧ P.2.2.1 t1 = P.2.2.1 t2) ∨ (P.2.1 t1 = 6 ∧ P.2.1 t2 = 6)) := by
  have K1 := ki_sr wf m1.1 m1.2
  have K2 := ki_sr wf m2.1 m2.2
  rw [← hx] at K1
  rw [← hy] at K2
  have e8 : (8 : Int32).toInt = 8 := by decide
  have e11 : (11 : Int32).toInt = 11 := by decide
  have e12 : (12 : Int32).toInt = 12 := by decide
  have e14 : (14 : Int32).toInt = 14 := by decide
  have e15 : (15 : Int32).toInt = 15 := by decide
  have K1e := K1.2.2.2.1
  have K2e := K2.2.2.2.1
  have v1 : P.2.1 t1 = 5 → x = P.2.2.1 t1 := fun h => by rw [hx, h]; rfl
  have v2 : P.2.1 t2 = 5 → y = P.2.2.1 t2 := fun h => by rw [hy, h]; rfl
  have i1 : ∀ a : Int32, a = 15 → a.toInt = 15 := fun a h => by rw [h]; decide
  simp only [Int32.le_iff_toInt_le, Int32.lt_iff_toInt_lt, e8, e11, e12, e14, e15] at K1 K2 ⊢
  have c1 : P.2.1 t1 < 3 ∨ P.2.1 t1 = 3 ∨ P.2.1 t1 = 4 ∨ P.2.1 t1 = 5 ∨ P.2.1 t1 = 6 := by omega
  have c2 : P.2.1 t2 < 3 ∨ P.2.1 t2 = 3 ∨ P.2.1 t2 = 4 ∨ P.2.1 t2 = 5 ∨ P.2.1 t2 = 6 := by omega
  refine ⟨fun h => ?_, fun h => ?_, fun h1 h2 h3 => ?_⟩
  · have a := K1.2.2.1 h.1
    have b := K2.2.2.1 h.2.1
    exact ⟨by omega, by omega, a, b, by rw [v1 h.1, v2 h.2.1]; exact h.2.2⟩
  · have a := K1.1 h.1
    have b := K2.1 h.2
    exact ⟨by omega, by omega, by omega, by omega, by omega⟩
  · have hx1 : P.2.1 t1 = 5 ∨ P.2.1 t1 = 6 := by
      rcases c1 with h | h | h | h | h
      · have := K1.2.1 h; omega
      · have := i1 _ (K1e h); omega
      · have := K1.2.2.2.2 h; omega
      · exact Or.inl h
      · exact Or.inr h
    have hy1 : P.2.1 t2 = 5 ∨ P.2.1 t2 = 6 := by
      rcases c2 with h | h | h | h | h
      · have := K2.2.1 h; omega
      · have := i1 _ (K2e h); omega
      · have := K2.2.2.2.2 h; omega
      · exact Or.inl h
      · exact Or.inr h
    rcases hx1 with a | a <;> rcases hy1 with b | b
    · refine Or.inl ⟨a, b, ?_⟩
      have a9 := K1.2.2.1 a
      rcases h3 with h | h
      · rw [← v1 a, ← v2 b]; exact h
      · omega
    · have a9 := K1.2.2.1 a
      have b9 := K2.1 b
      rcases h3 with h | h
      · rw [h] at a9; omega
      · omega
    · have a9 := K1.1 a
      have b9 := K2.2.2.1 b
      rcases h3 with h | h
      · rw [h] at a9; omega
      · omega
    · exact Or.inr ⟨a, b⟩
theorem ll_nz {v : Int64} {o : Option Nat} (h : rLl n ρ v o) (hv : ¬ lg_cmp v 0 = 0) : ∃ z, o = some z ∧ 0 < v.toInt32 ∧ v.toInt32 < n ∧ ρ v.toInt32.toNatClampNeg = z := by
  obtain ⟨x, rfl, hk⟩ := h
  rw [i64_32]
  rcases hk with ⟨rfl, _⟩ | ⟨a, b, c⟩
  · exact absurd (by decide) hv
  · exact ⟨_, c, a, b, rfl⟩
theorem ll_z {v : Int64} {o : Option Nat} (h : rLl n ρ v o) (hv : lg_cmp v 0 = 0) : o = none := by
  obtain ⟨x, rfl, hk⟩ := h
  rcases hk with ⟨_, e⟩ | ⟨a, b, c⟩
  · exact e
  · have := (lg_cmp_eq _ _).mp hv
    have h9 := congrArg Int64.toInt this
    rw [Int32.toInt_toInt64] at h9
    rw [Int32.lt_iff_toInt_lt, ci_0] at a
    have : (0 : Int64).toInt = 0 := by decide
    omega
theorem isv_iff (h : rR n Y pa ρ pl P) (wf : cWF pl P) {v s0 : Int32} {z : Nat} (h0 : 0 < v) (h1 : v < n) (hz : ρ v.toNatClampNeg = z) (hs : vp_in s0 16) : ((if v = 0 then 0 else rIs (Y.1 v.toNatClampNeg) s0) = 0 ↔ kOf (P.2.1 z) (P.2.2.1 z) s0 = false) := by
  subst hz
  rw [if_neg (i32_pos h0).2.1, rk_is h wf h0 h1 hs]
  by_cases hk : kOf (P.2.1 (ρ v.toNatClampNeg)) (P.2.2.1 (ρ v.toNatClampNeg)) s0 = true
  · rw [if_pos hk, hk]
    exact ⟨fun e => absurd e (by decide), fun e => by cases e⟩
  · rw [if_neg hk]
    exact ⟨fun _ => by simpa using hk, fun _ => rfl⟩
theorem rim_8 (wf : cWF pl P) {t : Nat} (ht : t ∈ P.1) (hk : P.2.1 t = 6) {x : Int32} (hx : x = rSt (P.2.1 t) (P.2.2.1 t)) : (x = 8 → P.2.2.2.1 t = 0) ∧ (x = 9 → P.2.2.2.1 t = 12) ∧ (x = 10 → P.2.2.2.1 t = 13) ∧ (¬ x = 8 → ¬ x = 9 → ¬ x = 10 → P.2.2.2.1 t = 14) := by
  have hx : x = P.2.2.1 t := by rw [hx, hk]; rfl
  rcases wf.2.2.2.2.2.1 t ht hk with ⟨a, b⟩ | ⟨a, b⟩ | ⟨a, b⟩ | ⟨a, b⟩ <;> rw [a] at hx <;> subst hx <;> refine ⟨fun h => ?_, fun h => ?_, fun h => ?_, fun h1 h2 h3 => ?_⟩ <;> first | exact b | exact absurd h (by decide) | exact absurd rfl h1 | exact absurd rfl h2 | exact absurd rfl h3
end RCopy

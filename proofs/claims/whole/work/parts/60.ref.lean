/-! ===== the reference's world ===== -/
/-- sort, from, many, todo, held, cells; where these six stand; how long they are (the first five; cells); things, top -/
abbrev rY : Type := (Nat → Int32) × (Nat → Int32) × (Nat → Int32) × (Nat → Int32) × (Nat → Int32) × (Nat → Int64) × (Nat → Nat) × Nat × Nat × Int32 × Int32
/-- what, one, two, three, fuel, thrown -/
abbrev rI : Type := (Nat → Int32) × (Nat → Int32) × (Nat → Int32) × (Nat → Int32) × Int32 × Int32
abbrev rTy (ty : Nat → ClassId) : List (ClassId × FieldType) := [(ty 0, .int), (ty 1, .object RX10), (ty 2, .long), (ty 3, .boolean)]
abbrev rV (g : Nat → Nat) (ty : Nat → ClassId) (fa : Nat → Nat) (Y : rY) (pa kp : Nat → Int32) (ks : Int32) (I : rI) (tl : Nat → Int32) (ac : Int64) (wr tw : Int32) : va_W :=
  [(g 8, .inr (14, [.ref (fa 0), .ref (fa 1), .ref (fa 2), .ref (fa 3), .ref (fa 4), .ref (fa 5), .int Y.2.2.2.2.2.2.2.2.2.1, .int Y.2.2.2.2.2.2.2.2.2.2, .ref (g 9), .ref (g 10), .ref (g 11), .ref (g 12), .ref (g 13), .long ac, .int I.2.2.2.2.1, .int I.2.2.2.2.2, .int wr, .ref (g 14), .ref (g 15), .int ks, .int tw])),
   (Y.2.2.2.2.2.2.1 0, .inl (ty 0, Y.2.2.2.2.2.2.2.1, .inl Y.1)), (Y.2.2.2.2.2.2.1 1, .inl (ty 0, Y.2.2.2.2.2.2.2.1, .inl Y.2.1)), (Y.2.2.2.2.2.2.1 2, .inl (ty 0, Y.2.2.2.2.2.2.2.1, .inl Y.2.2.1)), (Y.2.2.2.2.2.2.1 3, .inl (ty 0, Y.2.2.2.2.2.2.2.1, .inl Y.2.2.2.1)), (Y.2.2.2.2.2.2.1 4, .inl (ty 3, Y.2.2.2.2.2.2.2.1, .inl Y.2.2.2.2.1)), (Y.2.2.2.2.2.2.1 5, .inl (ty 2, Y.2.2.2.2.2.2.2.2.1, .inr (.inl Y.2.2.2.2.2.1))),
   (g 9, .inl (ty 0, 32, .inl pa)), (g 10, .inl (ty 0, 256, .inl I.1)), (g 11, .inl (ty 0, 256, .inl I.2.1)), (g 12, .inl (ty 0, 256, .inl I.2.2.1)), (g 13, .inl (ty 0, 256, .inl I.2.2.2.1)), (g 14, .inl (ty 0, 6, .inl tl)), (g 15, .inl (ty 0, 2, .inl kp))]
abbrev rW (g : Nat → Nat) (ty : Nat → ClassId) (Y : rY) (pa kp : Nat → Int32) (ks : Int32) (I : rI) (tl : Nat → Int32) (ac : Int64) (wr tw : Int32) : va_W := rV g ty Y.2.2.2.2.2.2.1 Y pa kp ks I tl ac wr tw
/-- what the reference's link says beside the mill's: 0 and nothing, or a thing below n -/
def rLk (n : Int32) (ρ : Nat → Nat) (v : Int32) (o : Option Nat) : Prop := (v = 0 ∧ o = none) ∨ (0 < v ∧ v < n ∧ o = some (ρ v.toNatClampNeg))
def rLl (n : Int32) (ρ : Nat → Nat) (v : Int64) (o : Option Nat) : Prop := ∃ x : Int32, v = x.toInt64 ∧ rLk n ρ x o
abbrev rFr (Y : rY) (t : Nat) : Nat := (Y.2.1 t).toNatClampNeg
abbrev rMn (Y : rY) (t : Nat) : Nat := (Y.2.2.1 t).toNatClampNeg
/-- the reference's sort of a thing of the mill's -/
def rSt (k : Nat) (v : Int32) : Int32 := match k with
  | 0 => 14 | 1 => 13 | 2 => 12 | 3 => 15 | 4 => 16 + v | _ => v
def rTh (n : Int32) (Y : rY) (ρ : Nat → Nat) (P : cQ) (t : Nat) : Prop :=
  (ρ t ∈ P.1 ∧ P.2.1 (ρ t) < 7 ∧ Y.1 t = rSt (P.2.1 (ρ t)) (P.2.2.1 (ρ t))) ∧
  (P.2.1 (ρ t) = 5 → ∀ r, P.2.2.2.2.1 (ρ t) = some r → rMn Y t = P.2.2.2.2.2.1 r ∧ ∀ j, j < P.2.2.2.2.2.1 r → Y.2.2.2.2.2.1 (rFr Y t + j) = P.2.2.2.2.2.2.1 r j) ∧
  (P.2.1 (ρ t) = 6 → ∀ r, P.2.2.2.2.1 (ρ t) = some r → rMn Y t = P.2.2.2.2.2.1 r ∧ ∀ j, j < P.2.2.2.2.2.1 r → rLl n ρ (Y.2.2.2.2.2.1 (rFr Y t + j)) (P.2.2.2.2.2.2.2 r j)) ∧
  (P.2.1 (ρ t) < 4 → rMn Y t = 3 ∧ Y.2.2.2.2.2.1 (rFr Y t) = (P.2.2.1 (ρ t)).toInt64) ∧
  (P.2.1 (ρ t) < 3 → rLl n ρ (Y.2.2.2.2.2.1 (rFr Y t + 1)) (P.2.2.2.2.1 (ρ t))) ∧
  (P.2.1 (ρ t) < 2 → Y.2.2.2.2.2.1 (rFr Y t + 2) = (P.2.2.2.1 (ρ t)).toInt64) ∧
  (P.2.1 (ρ t) = 4 → rMn Y t = 0)
/-- how the cells lie: one thing behind the other, below top -/
def rLay (Y : rY) : Prop :=
  (0 < Y.2.2.2.2.2.2.2.2.2.1 ∧ Y.2.2.2.2.2.2.2.2.2.1.toNatClampNeg ≤ Y.2.2.2.2.2.2.2.1) ∧ (0 ≤ Y.2.2.2.2.2.2.2.2.2.2 ∧ Y.2.2.2.2.2.2.2.2.2.2.toNatClampNeg ≤ Y.2.2.2.2.2.2.2.2.1) ∧
  (∃ i : Nat, i ≤ 6 ∧ Y.2.2.2.2.2.2.2.1 = 1500 * 2 ^ i ∧ 24000 * 2 ^ i ≤ Y.2.2.2.2.2.2.2.2.1 ∧ Y.2.2.2.2.2.2.2.2.1 + 99 ≤ 24099 * 2 ^ i) ∧
  (∀ t : Nat, 1 ≤ t → t < Y.2.2.2.2.2.2.2.2.2.1.toNatClampNeg → 0 ≤ Y.2.1 t ∧ 0 ≤ Y.2.2.1 t ∧ rFr Y t + rMn Y t ≤ Y.2.2.2.2.2.2.2.2.2.2.toNatClampNeg) ∧
  (∀ t t' : Nat, 1 ≤ t → t < t' → t' < Y.2.2.2.2.2.2.2.2.2.1.toNatClampNeg → rFr Y t + rMn Y t ≤ rFr Y t')
/-- the things below n, and the places, are the mill's -/
def rR (n : Int32) (Y : rY) (pa : Nat → Int32) (ρ : Nat → Nat) (pl : Nat → Option Nat) (P : cQ) : Prop :=
  rLay Y ∧ (0 < n ∧ n ≤ Y.2.2.2.2.2.2.2.2.2.1) ∧
  (∀ t : Nat, 1 ≤ t → t < n.toNatClampNeg → rTh n Y ρ P t) ∧
  (∀ t t' : Nat, 1 ≤ t → t < n.toNatClampNeg → 1 ≤ t' → t' < n.toNatClampNeg → ρ t = ρ t' → t = t') ∧
  (∀ p : Nat, p < 32 → rLk n ρ (pa p) (pl p))
/-! numbers -/
theorem i32_lt {a b : Int32} (h0 : 0 ≤ a) (h : a < b) : a.toNatClampNeg < b.toNatClampNeg := by
  rw [Int32.le_iff_toInt_le, ci_0] at h0
  rw [Int32.lt_iff_toInt_lt] at h
  show a.toInt.toNat < b.toInt.toNat
  omega
theorem i32_le {a b : Int32} (h : a ≤ b) : a.toNatClampNeg ≤ b.toNatClampNeg := by
  rw [Int32.le_iff_toInt_le] at h
  show a.toInt.toNat ≤ b.toInt.toNat
  omega
theorem i32_pos {a : Int32} (h : 0 < a) : 0 ≤ a ∧ ¬ a = 0 ∧ 1 ≤ a.toNatClampNeg := by
  rw [Int32.lt_iff_toInt_lt, ci_0] at h
  refine ⟨by rw [Int32.le_iff_toInt_le, ci_0]; omega, fun e => by rw [e, ci_0] at h; omega, ?_⟩
  show 1 ≤ a.toInt.toNat
  omega
theorem i32_in {a : Int32} {n : Nat} (h0 : 0 ≤ a) (h : a.toNatClampNeg < n) : vp_in a n := by
  rw [Int32.le_iff_toInt_le, ci_0] at h0
  have h : a.toInt.toNat < n := h
  rw [vp_in_iff]; omega
theorem i32_inR {a : Int32} {n : Nat} (h : vp_in a n) : 0 ≤ a ∧ a.toNatClampNeg < n := by
  rw [vp_in_iff] at h
  refine ⟨by rw [Int32.le_iff_toInt_le, ci_0]; omega, ?_⟩
  show a.toInt.toNat < n
  omega
theorem i32_add {a b : Int32} (ha : 0 ≤ a) (hb : 0 ≤ b) (h : a.toNatClampNeg + b.toNatClampNeg < 2147483648) : (a + b).toNatClampNeg = a.toNatClampNeg + b.toNatClampNeg ∧ 0 ≤ a + b := by
  rw [Int32.le_iff_toInt_le, ci_0] at ha hb
  have h : a.toInt.toNat + b.toInt.toNat < 2147483648 := h
  have e : (a + b).toInt = a.toInt + b.toInt := by
    rw [Int32.toInt_add]
    exact Int.bmod_eq_of_le (by omega) (by omega)
  refine ⟨?_, by rw [Int32.le_iff_toInt_le, ci_0, e]; omega⟩
  show (a + b).toInt.toNat = a.toInt.toNat + b.toInt.toNat
  rw [e]; omega
section RLook
variable {n : Int32} {Y : rY} {pa : Nat → Int32} {ρ : Nat → Nat} {pl : Nat → Option Nat} {P : cQ}
theorem rl_L {Y : rY} (h : rLay Y) : Y.2.2.2.2.2.2.2.1 ≤ 96000 ∧ Y.2.2.2.2.2.2.2.2.1 ≤ 1542237 := by
  obtain ⟨i, h1, h2, h3, h4⟩ := h.2.2.1
  rw [h2]
  rcases (show i = 0 ∨ i = 1 ∨ i = 2 ∨ i = 3 ∨ i = 4 ∨ i = 5 ∨ i = 6 by omega) with rfl | rfl | rfl | rfl | rfl | rfl | rfl <;> omega
theorem rk_in (h : rR n Y pa ρ pl P) {v : Int32} (h0 : 0 < v) (h1 : v < n) : vp_in v Y.2.2.2.2.2.2.2.1 ∧ 1 ≤ v.toNatClampNeg ∧ v.toNatClampNeg < n.toNatClampNeg ∧ v.toNatClampNeg < Y.2.2.2.2.2.2.2.2.2.1.toNatClampNeg := by
  obtain ⟨p0, -, p1⟩ := i32_pos h0
  have l1 := i32_lt p0 h1
  have l2 := i32_le h.2.1.2
  exact ⟨i32_in p0 (by have := h.1.1.2; omega), p1, l1, by omega⟩
theorem rk_some (h : rR n Y pa ρ pl P) {x : Int32} (hx : vp_in x 32) {t : Nat} (ht : pl x.toNatClampNeg = some t) : 0 < pa x.toNatClampNeg ∧ pa x.toNatClampNeg < n ∧ ρ (pa x.toNatClampNeg).toNatClampNeg = t := by
  rcases h.2.2.2.2 _ (i32_inR hx).2 with ⟨_, e⟩ | ⟨a, b, e⟩
  · rw [ht] at e; cases e
  · rw [ht] at e; cases e; exact ⟨a, b, rfl⟩
theorem rk_none (h : rR n Y pa ρ pl P) {x : Int32} (hx : vp_in x 32) (ht : pl x.toNatClampNeg = none) : pa x.toNatClampNeg = 0 := by
  rcases h.2.2.2.2 _ (i32_inR hx).2 with ⟨e, _⟩ | ⟨_, _, e⟩
  · exact e
  · rw [ht] at e; cases e
end RLook
/-- what 'is' answers, of a sort -/
def rIs (x s : Int32) : Int32 := if s = 9 then (if x = 9 then 1 else if x = 10 then 1 else 0) else if s = 12 then (if x < 12 then 0 else if 14 < x then 0 else 1) else if s = 13 then (if x = 13 then 1 else if x = 14 then 1 else 0)
  else if s = 14 then (if x < 13 then 0 else if 15 < x then 0 else 1) else if s = 15 then (if x < 16 then 0 else 1) else (if x = s then 1 else 0)
theorem ge_of {x y : Int32} (h : x < y) : ¬ y ≤ x := by
  rw [Int32.lt_iff_toInt_lt] at h
  rw [Int32.le_iff_toInt_le]
  omega
theorem le_of {x y : Int32} (h : ¬ x < y) : y ≤ x := by
  rw [Int32.lt_iff_toInt_lt] at h
  rw [Int32.le_iff_toInt_le]
  omega
theorem ix_lo {i : Int32} {n : Nat} (h : i < 0) : ¬ vp_in i n := cin_ng h
theorem ix_no {i m : Int32} (h : ¬ i < m) : ¬ vp_in i m.toNatClampNeg := by
  rw [Int32.lt_iff_toInt_lt] at h
  rw [vp_in_iff]
  show ¬ (0 ≤ i.toInt ∧ i.toInt < (m.toInt.toNat : Int))
  omega
theorem ix_in {i m : Int32} (h0 : ¬ i < 0) (h : i < m) : vp_in i m.toNatClampNeg := by
  rw [Int32.lt_iff_toInt_lt, ci_0] at h0
  rw [Int32.lt_iff_toInt_lt] at h
  rw [vp_in_iff]
  show 0 ≤ i.toInt ∧ i.toInt < (m.toInt.toNat : Int)
  omega


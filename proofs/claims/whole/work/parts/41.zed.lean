/-- the end, the start, the catching of the innermost block -/
def zEnd (Z : cZ) : Int32 := if Z.2.2.2.2.2.2.2.2.2.2.2 ≤ 0 then 256 else Z.2.2.2.2.2.2.2.2.1 (Z.2.2.2.2.2.2.2.2.2.2.2 - 1).toNatClampNeg
def zSta (Z : cZ) : Int32 := if Z.2.2.2.2.2.2.2.2.2.2.2 ≤ 0 then 0 else Z.2.2.2.2.2.2.2.1 (Z.2.2.2.2.2.2.2.2.2.2.2 - 1).toNatClampNeg
def zCat (Z : cZ) : Int32 := if Z.2.2.2.2.2.2.2.2.2.2.2 ≤ 0 then 8 else Z.2.2.2.2.2.2.2.2.2.2.1 (Z.2.2.2.2.2.2.2.2.2.2.2 - 1).toNatClampNeg
/-- where the next a operations end -/
def zEn (Z : cZ) (a : Int32) : Int32 := if zEnd Z - Z.2.1 ≤ (if a < 0 then 0 else a) then zEnd Z else Z.2.1 + (if a < 0 then 0 else a)
def zOpen (Z : cZ) (a b t k : Int32) : cZ := if 200 ≤ Z.2.2.2.2.2.2.2.2.2.2.2 then Z else (Z.1, Z.2.1, Z.2.2.1, Z.2.2.2.1, Z.2.2.2.2.1, Z.2.2.2.2.2.1, Z.2.2.2.2.2.2.1, (upd Z.2.2.2.2.2.2.2.1 Z.2.2.2.2.2.2.2.2.2.2.2.toNatClampNeg a), (upd Z.2.2.2.2.2.2.2.2.1 Z.2.2.2.2.2.2.2.2.2.2.2.toNatClampNeg b), (upd Z.2.2.2.2.2.2.2.2.2.1 Z.2.2.2.2.2.2.2.2.2.2.2.toNatClampNeg t), (upd Z.2.2.2.2.2.2.2.2.2.2.1 Z.2.2.2.2.2.2.2.2.2.2.2.toNatClampNeg k), (Z.2.2.2.2.2.2.2.2.2.2.2 + 1))
def zDrop (Z : cZ) : cZ := if Z.2.2.2.2.2.2.2.2.2.2.2 ≤ 0 then Z else (Z.1, Z.2.1, Z.2.2.1, Z.2.2.2.1, Z.2.2.2.2.1, Z.2.2.2.2.2.1, Z.2.2.2.2.2.2.1, Z.2.2.2.2.2.2.2.1, Z.2.2.2.2.2.2.2.2.1, Z.2.2.2.2.2.2.2.2.2.1, Z.2.2.2.2.2.2.2.2.2.2.1, (Z.2.2.2.2.2.2.2.2.2.2.2 - 1))
def zDn (Z : cZ) : cZ := (Z.1, Z.2.1, Z.2.2.1, (Z.2.2.2.1 + 1), Z.2.2.2.2.1, Z.2.2.2.2.2.1, Z.2.2.2.2.2.2.1, Z.2.2.2.2.2.2.2.1, Z.2.2.2.2.2.2.2.2.1, Z.2.2.2.2.2.2.2.2.2.1, Z.2.2.2.2.2.2.2.2.2.2.1, Z.2.2.2.2.2.2.2.2.2.2.2)
def zFin (Z : cZ) : cZ := (Z.1, Z.2.1, Z.2.2.1, Z.2.2.2.1, Z.2.2.2.2.1, (Z.2.2.2.2.2.1 + 1), Z.2.2.2.2.2.2.1, Z.2.2.2.2.2.2.2.1, Z.2.2.2.2.2.2.2.2.1, Z.2.2.2.2.2.2.2.2.2.1, Z.2.2.2.2.2.2.2.2.2.2.1, Z.2.2.2.2.2.2.2.2.2.2.2)
def zClose (Z : cZ) : cZ := if zCat Z = 6 then zDrop (zDn (zFin Z)) else zDrop (zDn Z)
def zRep (Z : cZ) (a b : Int32) : cZ := if zEn Z a ≤ Z.2.1 then (Z.1, (zEn Z a), Z.2.2.1, (Z.2.2.2.1 + 1), Z.2.2.2.2.1, Z.2.2.2.2.2.1, Z.2.2.2.2.2.2.1, Z.2.2.2.2.2.2.2.1, Z.2.2.2.2.2.2.2.2.1, Z.2.2.2.2.2.2.2.2.2.1, Z.2.2.2.2.2.2.2.2.2.2.1, Z.2.2.2.2.2.2.2.2.2.2.2) else if b ≤ 0 then (Z.1, (zEn Z a), Z.2.2.1, (Z.2.2.2.1 + 1), Z.2.2.2.2.1, Z.2.2.2.2.2.1, Z.2.2.2.2.2.2.1, Z.2.2.2.2.2.2.2.1, Z.2.2.2.2.2.2.2.2.1, Z.2.2.2.2.2.2.2.2.2.1, Z.2.2.2.2.2.2.2.2.2.2.1, Z.2.2.2.2.2.2.2.2.2.2.2) else zOpen Z Z.2.1 (zEn Z a) b 8
def zAll : Nat → cZ → cZ
  | 0, Z => Z
  | n + 1, Z => zAll n (zClose Z)
def zAt (Z : cZ) (a : Int32) : cZ := (Z.1, a, Z.2.2.1, Z.2.2.2.1, Z.2.2.2.2.1, Z.2.2.2.2.2.1, Z.2.2.2.2.2.2.1, Z.2.2.2.2.2.2.2.1, Z.2.2.2.2.2.2.2.2.1, Z.2.2.2.2.2.2.2.2.2.1, Z.2.2.2.2.2.2.2.2.2.2.1, Z.2.2.2.2.2.2.2.2.2.2.2)
def zCg (Z : cZ) : cZ := (Z.1, Z.2.1, Z.2.2.1, Z.2.2.2.1, (Z.2.2.2.2.1 + 1), Z.2.2.2.2.2.1, Z.2.2.2.2.2.2.1, Z.2.2.2.2.2.2.2.1, Z.2.2.2.2.2.2.2.2.1, Z.2.2.2.2.2.2.2.2.2.1, Z.2.2.2.2.2.2.2.2.2.2.1, Z.2.2.2.2.2.2.2.2.2.2.2)
def zDue (Z : cZ) : Bool := if Z.2.2.2.2.2.2.2.2.2.2.2 = 0 then false else decide (1 < Z.2.2.2.2.2.2.2.2.2.1 (Z.2.2.2.2.2.2.2.2.2.2.2 - 1).toNatClampNeg)
def zTurn (Z : cZ) : cZ := (Z.1, Z.2.1, Z.2.2.1, Z.2.2.2.1, Z.2.2.2.2.1, Z.2.2.2.2.2.1, Z.2.2.2.2.2.2.1, Z.2.2.2.2.2.2.2.1, Z.2.2.2.2.2.2.2.2.1, (upd Z.2.2.2.2.2.2.2.2.2.1 (Z.2.2.2.2.2.2.2.2.2.2.2 - 1).toNatClampNeg (Z.2.2.2.2.2.2.2.2.2.1 (Z.2.2.2.2.2.2.2.2.2.2.2 - 1).toNatClampNeg - 1)), Z.2.2.2.2.2.2.2.2.2.2.1, Z.2.2.2.2.2.2.2.2.2.2.2)
def zLeave : Nat → cZ → cZ
  | 0, Z => Z
  | n + 1, Z => if Z.2.1 < zEnd Z then Z else if zDue Z = true then zAt (zTurn Z) (zSta (zTurn Z)) else zLeave n (zClose Z)
def zUnw : Nat → Int64 → Int32 → cZ → Int64 × Int32 × cZ
  | 0, ac, ft, Z => (ac, ft, zAt Z 256)
  | n + 1, ac, ft, Z => if kCa (zCat Z) ft = true then ((-1) - ft.toInt64, -1, zClose (zCg (zAt Z (zEnd Z)))) else if zCat Z = 6 then zUnw n ac ft (zDrop (zFin Z)) else zUnw n ac ft (zDrop Z)
def zCtl (ac : Int64) (Z : cZ) (w a b : Int32) : Int64 × cZ :=
  if w = 40 then (ac, zDn (zAt (zAll Z.2.2.2.2.2.2.2.2.2.2.2.toNatClampNeg Z) 256))
  else if w = 41 then (a.toInt64, zDn Z)
  else if w = 42 then (ac + a.toInt64, zDn Z)
  else if w = 43 then (ac, if 0 ≤ lg_cmp ac 0 then zDn Z else zDn (zAt Z (zEn Z a)))
  else if w = 44 then (ac, zRep Z a b)
  else if w = 45 then (ac, zOpen Z Z.2.1 (zEn Z a) 1 (b &&& 7))
  else (ac, zDn Z)
theorem c0_of {n : Int32} (h : n ≤ 0) : n.toNatClampNeg = 0 := by
  rw [Int32.le_iff_toInt_le, ci_0] at h
  show n.toInt.toNat = 0
  omega
/-- what holds of the program's part wherever an operation is done -/
def zOk (Z : cZ) : Prop := (0 ≤ Z.2.2.2.2.2.2.2.2.2.2.2 ∧ Z.2.2.2.2.2.2.2.2.2.2.2 ≤ 200) ∧ (0 ≤ Z.2.1 ∧ Z.2.1 ≤ 256) ∧ ∀ k, k < Z.2.2.2.2.2.2.2.2.2.2.2.toNatClampNeg → (0 ≤ Z.2.2.2.2.2.2.2.1 k ∧ Z.2.2.2.2.2.2.2.1 k ≤ 256) ∧ (0 ≤ Z.2.2.2.2.2.2.2.2.1 k ∧ Z.2.2.2.2.2.2.2.2.1 k ≤ 256)
theorem down_toInt {n : Int32} (h : ¬ n ≤ 0) : (n + (-1)).toInt = n.toInt - 1 := by
  rw [Int32.le_iff_toInt_le, ci_0] at h
  have h2 := n.toInt_lt
  rw [Int32.toInt_add, show (-1 : Int32).toInt = -1 by decide]
  exact Int.bmod_eq_of_le (by omega) (by omega)
theorem down_eq {n : Int32} (h : ¬ n ≤ 0) : n.toNatClampNeg = (n + (-1)).toNatClampNeg + 1 := by
  show n.toInt.toNat = (n + (-1)).toInt.toNat + 1
  rw [down_toInt h]
  rw [Int32.le_iff_toInt_le, ci_0] at h
  omega
theorem down_lt {n : Int32} (h : ¬ n ≤ 0) : (n + (-1)).toNatClampNeg < n.toNatClampNeg := by
  rw [down_eq h]; omega
theorem sub1_eq {n : Int32} (h : ¬ n ≤ 0) : n - 1 = n + (-1) := Int32.toInt_inj.mp (by
  rw [down_toInt h, Int32.toInt_sub, ci_1]
  rw [Int32.le_iff_toInt_le, ci_0] at h
  have h2 := n.toInt_lt
  exact Int.bmod_eq_of_le (by omega) (by omega))
theorem zok_dep {Z Z1 : cZ} (h : zOk Z) (ha : 0 ≤ Z1.2.1 ∧ Z1.2.1 ≤ 256) (e1 : Z1.2.2.2.2.2.2.2.1 = Z.2.2.2.2.2.2.2.1) (e2 : Z1.2.2.2.2.2.2.2.2.1 = Z.2.2.2.2.2.2.2.2.1) (ed : ¬ Z.2.2.2.2.2.2.2.2.2.2.2 ≤ 0 ∧ Z1.2.2.2.2.2.2.2.2.2.2.2 = Z.2.2.2.2.2.2.2.2.2.2.2 - 1 ∨ Z1.2.2.2.2.2.2.2.2.2.2.2 = Z.2.2.2.2.2.2.2.2.2.2.2) : zOk Z1 := by
  obtain ⟨⟨h0, h1⟩, -, h3⟩ := h
  rcases ed with ⟨hd, ed⟩ | ed
  · refine ⟨?_, ha, ?_⟩
    · rw [ed, sub1_eq hd]
      rw [Int32.le_iff_toInt_le, ci_0] at hd h0
      rw [Int32.le_iff_toInt_le, ci_200] at h1
      rw [Int32.le_iff_toInt_le, Int32.le_iff_toInt_le, ci_0, ci_200, down_toInt (by rw [Int32.le_iff_toInt_le, ci_0]; exact hd)]
      omega
    · intro k hk
      rw [e1, e2]
      rw [ed, sub1_eq hd] at hk
      exact h3 k (Nat.lt_trans hk (down_lt hd))
  · refine ⟨by rw [ed]; exact ⟨h0, h1⟩, ha, fun k hk => ?_⟩
    rw [e1, e2]; rw [ed] at hk; exact h3 k hk
theorem zok_drop {Z : cZ} (h : zOk Z) : zOk (zDrop Z) := by
  unfold zDrop
  split
  · exact h
  · rename_i hd
    exact zok_dep h h.2.1 rfl rfl (Or.inl ⟨hd, rfl⟩)
theorem zok_dn {Z : cZ} (h : zOk Z) : zOk (zDn Z) := zok_dep h h.2.1 rfl rfl (Or.inr rfl)
theorem zok_fin {Z : cZ} (h : zOk Z) : zOk (zFin Z) := zok_dep h h.2.1 rfl rfl (Or.inr rfl)
theorem zok_close {Z : cZ} (h : zOk Z) : zOk (zClose Z) := by
  unfold zClose
  split
  · exact zok_drop (zok_dn (zok_fin h))
  · exact zok_drop (zok_dn h)
theorem zok_all {Z : cZ} (n : Nat) (h : zOk Z) : zOk (zAll n Z) := by
  induction n generalizing Z with
  | zero => exact h
  | succ n ih => exact ih (zok_close h)
theorem zok_end {Z : cZ} (h : zOk Z) : 0 ≤ zEnd Z ∧ zEnd Z ≤ 256 := by
  unfold zEnd
  split
  · decide
  · rename_i hd
    rw [sub1_eq hd]; exact (h.2.2 _ (down_lt hd)).2
theorem zok_sta {Z : cZ} (h : zOk Z) : 0 ≤ zSta Z ∧ zSta Z ≤ 256 := by
  unfold zSta
  split
  · decide
  · rename_i hd
    rw [sub1_eq hd]; exact (h.2.2 _ (down_lt hd)).1
theorem en_in {a e w : Int32} (ha : 0 ≤ a ∧ a ≤ 256) (he : 0 ≤ e ∧ e ≤ 256) (hw : 0 ≤ w) (h : ¬ e - a ≤ w) : (a + w).toInt = a.toInt + w.toInt ∧ a.toInt + w.toInt < e.toInt ∧ 0 ≤ a + w ∧ a + w ≤ 256 := by
  simp only [Int32.le_iff_toInt_le, ci_0, ci_256] at ha he hw
  rw [Int32.le_iff_toInt_le, Int32.toInt_sub, show (e.toInt - a.toInt).bmod (2 ^ 32) = e.toInt - a.toInt from Int.bmod_eq_of_le (by omega) (by omega)] at h
  have e1 : (a + w).toInt = a.toInt + w.toInt := by
    rw [Int32.toInt_add]
    exact Int.bmod_eq_of_le (by omega) (by omega)
  refine ⟨e1, by omega, ?_, ?_⟩
  · rw [Int32.le_iff_toInt_le, ci_0, e1]; omega
  · rw [Int32.le_iff_toInt_le, ci_256, e1]; omega
theorem max0 (a : Int32) : 0 ≤ (if a < 0 then 0 else a) := by
  split
  · decide
  · rename_i h
    rw [Int32.lt_iff_toInt_lt, ci_0] at h
    rw [Int32.le_iff_toInt_le, ci_0]; omega
theorem zok_en {Z : cZ} (h : zOk Z) (a : Int32) : 0 ≤ zEn Z a ∧ zEn Z a ≤ 256 := by
  unfold zEn
  have he := zok_end h
  have h0 := max0 a
  have ha := h.2.1
  revert he h0 ha
  generalize zEnd Z = e9
  generalize (if a < 0 then 0 else a) = w9
  intro he h0 ha
  split
  · exact he
  · rename_i hw
    exact (en_in ha he h0 hw).2.2
theorem upd_at' {f : Nat → Int32} {k : Nat} {v : Int32} {j : Nat} : upd f k v j = if j = k then v else f j := rfl
theorem zok_open {Z : cZ} (h : zOk Z) {a b t k : Int32} (ha : 0 ≤ a ∧ a ≤ 256) (hb : 0 ≤ b ∧ b ≤ 256) : zOk (zOpen Z a b t k) := by
  unfold zOpen
  split
  · exact h
  · rename_i hd
    obtain ⟨⟨h0, h1⟩, h2, h3⟩ := h
    have e : (Z.2.2.2.2.2.2.2.2.2.2.2 + 1).toInt = Z.2.2.2.2.2.2.2.2.2.2.2.toInt + 1 := by
      rw [Int32.le_iff_toInt_le, ci_0] at h0
      rw [Int32.le_iff_toInt_le, ci_200] at h1
      rw [Int32.toInt_add, ci_1]
      exact Int.bmod_eq_of_le (by omega) (by omega)
    have hn : (Z.2.2.2.2.2.2.2.2.2.2.2 + 1).toNatClampNeg = Z.2.2.2.2.2.2.2.2.2.2.2.toNatClampNeg + 1 := by
      show (Z.2.2.2.2.2.2.2.2.2.2.2 + 1).toInt.toNat = Z.2.2.2.2.2.2.2.2.2.2.2.toInt.toNat + 1
      rw [Int32.le_iff_toInt_le, ci_0] at h0
      rw [e]; omega
    refine ⟨?_, h2, fun j hj => ?_⟩
    · show 0 ≤ Z.2.2.2.2.2.2.2.2.2.2.2 + 1 ∧ Z.2.2.2.2.2.2.2.2.2.2.2 + 1 ≤ 200
      rw [Int32.le_iff_toInt_le, ci_200] at hd
      simp only [Int32.le_iff_toInt_le, ci_0, ci_200] at h0 h1 ⊢
      rw [e]; omega
    · have hj : j < (Z.2.2.2.2.2.2.2.2.2.2.2 + 1).toNatClampNeg := hj
      rw [hn] at hj
      show (0 ≤ upd Z.2.2.2.2.2.2.2.1 Z.2.2.2.2.2.2.2.2.2.2.2.toNatClampNeg a j ∧ upd Z.2.2.2.2.2.2.2.1 Z.2.2.2.2.2.2.2.2.2.2.2.toNatClampNeg a j ≤ 256) ∧ (0 ≤ upd Z.2.2.2.2.2.2.2.2.1 Z.2.2.2.2.2.2.2.2.2.2.2.toNatClampNeg b j ∧ upd Z.2.2.2.2.2.2.2.2.1 Z.2.2.2.2.2.2.2.2.2.2.2.toNatClampNeg b j ≤ 256)
      rw [upd_at', upd_at']
      split
      · exact ⟨ha, hb⟩
      · exact h3 j (by omega)
theorem zok_rep {Z : cZ} (h : zOk Z) (a b : Int32) : zOk (zRep Z a b) := by
  unfold zRep
  split
  · exact zok_dep h (zok_en h a) rfl rfl (Or.inr rfl)
  · split
    · exact zok_dep h (zok_en h a) rfl rfl (Or.inr rfl)
    · exact zok_open h h.2.1 (zok_en h a)
theorem zok_at {Z : cZ} (h : zOk Z) {a : Int32} (ha : 0 ≤ a ∧ a ≤ 256) : zOk (zAt Z a) := zok_dep h ha rfl rfl (Or.inr rfl)
theorem zok_cg {Z : cZ} (h : zOk Z) : zOk (zCg Z) := zok_dep h h.2.1 rfl rfl (Or.inr rfl)
theorem zok_turn {Z : cZ} (h : zOk Z) : zOk (zTurn Z) := zok_dep h h.2.1 rfl rfl (Or.inr rfl)
theorem zok_leave {Z : cZ} (n : Nat) (h : zOk Z) : zOk (zLeave n Z) := by
  induction n generalizing Z with
  | zero => exact h
  | succ n ih =>
    unfold zLeave
    split
    · exact h
    · split
      · exact zok_at (zok_turn h) (zok_sta (zok_turn h))
      · exact ih (zok_close h)
theorem zok_unw {Z : cZ} (n : Nat) (ac : Int64) (ft : Int32) (h : zOk Z) : zOk (zUnw n ac ft Z).2.2 := by
  induction n generalizing Z with
  | zero => exact zok_at h (by decide)
  | succ n ih =>
    unfold zUnw
    split
    · exact zok_close (zok_cg (zok_at h (zok_end h)))
    · split
      · exact ih (zok_drop (zok_fin h))
      · exact ih (zok_drop h)
theorem zok_ctl {Z : cZ} (ac : Int64) (w a b : Int32) (h : zOk Z) : zOk (zCtl ac Z w a b).2 := by
  unfold zCtl
  by_cases h0 : w = 40
  · rw [if_pos h0]; exact zok_dn (zok_at (zok_all _ h) (by decide))
  rw [if_neg h0]
  by_cases h1 : w = 41
  · rw [if_pos h1]; exact zok_dn h
  rw [if_neg h1]
  by_cases h2 : w = 42
  · rw [if_pos h2]; exact zok_dn h
  rw [if_neg h2]
  by_cases h3 : w = 43
  · rw [if_pos h3]
    show zOk (if 0 ≤ lg_cmp ac 0 then zDn Z else zDn (zAt Z (zEn Z a)))
    split
    · exact zok_dn h
    · exact zok_dn (zok_at h (zok_en h a))
  rw [if_neg h3]
  by_cases h4 : w = 44
  · rw [if_pos h4]; exact zok_rep h a b
  rw [if_neg h4]
  by_cases h5 : w = 45
  · rw [if_pos h5]; exact zok_open h h.2.1 (zok_en h a)
  rw [if_neg h5]; exact zok_dn h
theorem zAll_s (k : Nat) (Z : cZ) : zAll (k + 1) Z = zAll k (zClose Z) := rfl
theorem zLeave_s (k : Nat) (Z : cZ) : zLeave (k + 1) Z = if Z.2.1 < zEnd Z then Z else if zDue Z = true then zAt (zTurn Z) (zSta (zTurn Z)) else zLeave k (zClose Z) := rfl
theorem zUnw_s (k : Nat) (ac : Int64) (ft : Int32) (Z : cZ) : zUnw (k + 1) ac ft Z = if kCa (zCat Z) ft = true then ((-1) - ft.toInt64, -1, zClose (zCg (zAt Z (zEnd Z)))) else if zCat Z = 6 then zUnw k ac ft (zDrop (zFin Z)) else zUnw k ac ft (zDrop Z) := rfl
theorem zAll_endK {k : Nat} {Z X : cZ} (hk : k = 0) (e : zAll k Z = X) : X = Z := by
  subst hk; exact e.symm
theorem zAll_end {n : Int32} {Z X : cZ} (h : n ≤ 0) (e : zAll n.toNatClampNeg Z = X) : X = Z := zAll_endK (c0_of h) e
theorem zAll_stepK {k j : Nat} {Z X : cZ} (hk : k = j + 1) (e : zAll k Z = X) : zAll j (zClose Z) = X := by
  subst hk; exact e
theorem zAll_step {n : Int32} {Z X : cZ} (h : ¬ n ≤ 0) (e : zAll n.toNatClampNeg Z = X) : zAll (n + (-1)).toNatClampNeg (zClose Z) = X := zAll_stepK (down_eq h) e
theorem zLeave_endK {k : Nat} {Z X : cZ} (hk : k = 0) (e : zLeave k Z = X) : X = Z := by
  subst hk; exact e.symm
theorem zLeave_end {n : Int32} {Z X : cZ} (h : n ≤ 0) (e : zLeave n.toNatClampNeg Z = X) : X = Z := zLeave_endK (c0_of h) e
theorem zLeave_noK {k j : Nat} {Z X : cZ} (hk : k = j + 1) (h1 : Z.2.1 < zEnd Z) (e : zLeave k Z = X) : X = Z := by
  subst hk; rw [zLeave_s, if_pos h1] at e; exact e.symm
theorem zLeave_no {n : Int32} {Z X : cZ} (h : ¬ n ≤ 0) (h1 : Z.2.1 < zEnd Z) (e : zLeave n.toNatClampNeg Z = X) : X = Z := zLeave_noK (down_eq h) h1 e
theorem zLeave_dueK {k j : Nat} {Z X : cZ} (hk : k = j + 1) (h1 : ¬ Z.2.1 < zEnd Z) (h2 : zDue Z = true) (e : zLeave k Z = X) : X = zAt (zTurn Z) (zSta (zTurn Z)) := by
  subst hk; rw [zLeave_s, if_neg h1, if_pos h2] at e; exact e.symm
theorem zLeave_due {n : Int32} {Z X : cZ} (h : ¬ n ≤ 0) (h1 : ¬ Z.2.1 < zEnd Z) (h2 : zDue Z = true) (e : zLeave n.toNatClampNeg Z = X) : X = zAt (zTurn Z) (zSta (zTurn Z)) := zLeave_dueK (down_eq h) h1 h2 e
theorem zLeave_stepK {k j : Nat} {Z X : cZ} (hk : k = j + 1) (h1 : ¬ Z.2.1 < zEnd Z) (h2 : zDue Z = false) (e : zLeave k Z = X) : zLeave j (zClose Z) = X := by
  subst hk; rw [zLeave_s, if_neg h1, if_neg (by rw [h2]; decide)] at e; exact e
theorem zLeave_step {n : Int32} {Z X : cZ} (h : ¬ n ≤ 0) (h1 : ¬ Z.2.1 < zEnd Z) (h2 : zDue Z = false) (e : zLeave n.toNatClampNeg Z = X) : zLeave (n + (-1)).toNatClampNeg (zClose Z) = X := zLeave_stepK (down_eq h) h1 h2 e
theorem zUnw_endK {k : Nat} {ac : Int64} {ft : Int32} {Z : cZ} {X : Int64 × Int32 × cZ} (hk : k = 0) (e : zUnw k ac ft Z = X) : (X.1, X.2.1, X.2.2) = (ac, ft, zAt Z 256) := by
  subst hk; exact e.symm
theorem zUnw_end {n : Int32} {ac : Int64} {ft : Int32} {Z : cZ} {X : Int64 × Int32 × cZ} (h : n ≤ 0) (e : zUnw n.toNatClampNeg ac ft Z = X) : (X.1, X.2.1, X.2.2) = (ac, ft, zAt Z 256) := zUnw_endK (c0_of h) e
theorem zUnw_gotK {k j : Nat} {ac : Int64} {ft : Int32} {Z : cZ} {X : Int64 × Int32 × cZ} (hk : k = j + 1) (h1 : kCa (zCat Z) ft = true) (e : zUnw k ac ft Z = X) : (X.1, X.2.1, X.2.2) = ((-1) - ft.toInt64, -1, zClose (zCg (zAt Z (zEnd Z)))) := by
  subst hk; rw [zUnw_s, if_pos h1] at e; exact e.symm
theorem zUnw_got {n : Int32} {ac : Int64} {ft : Int32} {Z : cZ} {X : Int64 × Int32 × cZ} (h : ¬ n ≤ 0) (h1 : kCa (zCat Z) ft = true) (e : zUnw n.toNatClampNeg ac ft Z = X) : (X.1, X.2.1, X.2.2) = ((-1) - ft.toInt64, -1, zClose (zCg (zAt Z (zEnd Z)))) := zUnw_gotK (down_eq h) h1 e
theorem zUnw_finK {k j : Nat} {ac : Int64} {ft : Int32} {Z : cZ} {X : Int64 × Int32 × cZ} (hk : k = j + 1) (h1 : kCa (zCat Z) ft = false) (h2 : zCat Z = 6) (e : zUnw k ac ft Z = X) : zUnw j ac ft (zDrop (zFin Z)) = X := by
  subst hk; rw [zUnw_s, if_neg (by rw [h1]; decide), if_pos h2] at e; exact e
theorem zUnw_fin {n : Int32} {ac : Int64} {ft : Int32} {Z : cZ} {X : Int64 × Int32 × cZ} (h : ¬ n ≤ 0) (h1 : kCa (zCat Z) ft = false) (h2 : zCat Z = 6) (e : zUnw n.toNatClampNeg ac ft Z = X) : zUnw (n + (-1)).toNatClampNeg ac ft (zDrop (zFin Z)) = X := zUnw_finK (down_eq h) h1 h2 e
theorem zUnw_stepK {k j : Nat} {ac : Int64} {ft : Int32} {Z : cZ} {X : Int64 × Int32 × cZ} (hk : k = j + 1) (h1 : kCa (zCat Z) ft = false) (h2 : ¬ zCat Z = 6) (e : zUnw k ac ft Z = X) : zUnw j ac ft (zDrop Z) = X := by
  subst hk; rw [zUnw_s, if_neg (by rw [h1]; decide), if_neg h2] at e; exact e
theorem zUnw_step {n : Int32} {ac : Int64} {ft : Int32} {Z : cZ} {X : Int64 × Int32 × cZ} (h : ¬ n ≤ 0) (h1 : kCa (zCat Z) ft = false) (h2 : ¬ zCat Z = 6) (e : zUnw n.toNatClampNeg ac ft Z = X) : zUnw (n + (-1)).toNatClampNeg ac ft (zDrop Z) = X := zUnw_stepK (down_eq h) h1 h2 e

theorem nn_pre {Q : Nat → Prop} : ∀ t : Nat, (none : Option Nat) = some t → Q t := fun _ h => by cases h
theorem i64_ne {b : Int32} (h : ¬ b = 0) : ¬ b.toInt64 = 0 := by
  intro e
  apply h
  have e2 := congrArg Int64.toInt e
  rw [Int32.toInt_toInt64] at e2
  exact Int32.toInt_inj.mp (by rw [e2]; decide)
/-- whether the operation makes something -/
def kMk (w a b c md : Int32) : Prop := md < 6000 ∧ vp_in a 32 ∧ (w = 0 ∧ 0 ≤ c - c / 100 * 100 ∨ w = 4 ∧ 0 ≤ b - b / 9 * 9 ∧ 0 ≤ c - c / 9 * 9 ∨ w = 9 ∧ 0 ≤ c - c / 40 * 40 ∨ w = 13 ∨ w = 14)
def q_X11_makeRow (a0 : Int32) (b0 : Int32) (c0 : Int32) (pl : Nat → Option Nat) (ac : Int64) (ft : Int32) (md : Int32) (Z : cZ) (P : cQ) (rz : Int64) (u : (Nat → Option Nat) × Int32 × Int32 × cQ) : Prop := (0 = rz ∧ (pl, 6, md, P) = u ∧ ¬ md < 6000) ∨ (0 = rz ∧ (pl, 2, md, P) = u ∧ md < 6000 ∧ ¬ vp_in a0 32) ∨ (0 = rz ∧ (pl, 4, md, P) = u ∧ md < 6000 ∧ vp_in a0 32 ∧ ¬ 0 ≤ (c0 - c0 / 100 * 100)) ∨ (∃ q y : Nat, ((c0 - c0 / 100 * 100).toInt64) = rz ∧ (va_up pl a0.toNatClampNeg (some q), ft, (md + 1), pRow P q y (b0 &&& 7) (c0 - c0 / 100 * 100).toNatClampNeg) = u ∧ md < 6000 ∧ vp_in a0 32 ∧ 0 ≤ (c0 - c0 / 100 * 100) ∧ q ∉ P.1 ∧ y ∉ P.1 ∧ y ≠ q)
def q_X11_rowCell (a0 : Int32) (b0 : Int32) (c0 : Int32) (pl : Nat → Option Nat) (ac : Int64) (ft : Int32) (md : Int32) (Z : cZ) (P : cQ) (rz : Int64) (u : Int32) : Prop := (0 = rz ∧ 2 = u ∧ ¬ vp_in a0 32) ∨ (∃ t : Nat, 0 = rz ∧ 3 = u ∧ vp_in a0 32 ∧ pl a0.toNatClampNeg = some t ∧ kOf (P.2.1 t) (P.2.2.1 t) (b0 &&& 7) = false) ∨ (0 = rz ∧ 1 = u ∧ vp_in a0 32 ∧ pl a0.toNatClampNeg = none) ∨ (∃ t r : Nat, 0 = rz ∧ 2 = u ∧ vp_in a0 32 ∧ pl a0.toNatClampNeg = some t ∧ kOf (P.2.1 t) (P.2.2.1 t) (b0 &&& 7) = true ∧ P.2.2.2.2.1 t = some r ∧ ¬ vp_in c0 (P.2.2.2.2.2.1 r)) ∨ (∃ t r : Nat, (P.2.2.2.2.2.2.1 r c0.toNatClampNeg) = rz ∧ ft = u ∧ vp_in a0 32 ∧ pl a0.toNatClampNeg = some t ∧ kOf (P.2.1 t) (P.2.2.1 t) (b0 &&& 7) = true ∧ P.2.2.2.2.1 t = some r ∧ vp_in c0 (P.2.2.2.2.2.1 r))
def q_X11_setRowCell (a0 : Int32) (b0 : Int32) (c0 : Int32) (pl : Nat → Option Nat) (ac : Int64) (ft : Int32) (md : Int32) (Z : cZ) (P : cQ) (rz : Int64) (u : Int32 × cQ) : Prop := (0 = rz ∧ (2, P) = u ∧ ¬ vp_in a0 32) ∨ (∃ t : Nat, 0 = rz ∧ (3, P) = u ∧ vp_in a0 32 ∧ pl a0.toNatClampNeg = some t ∧ kOf (P.2.1 t) (P.2.2.1 t) (b0 &&& 7) = false) ∨ (0 = rz ∧ (1, P) = u ∧ vp_in a0 32 ∧ pl a0.toNatClampNeg = none) ∨ (∃ t r : Nat, 0 = rz ∧ (2, P) = u ∧ vp_in a0 32 ∧ pl a0.toNatClampNeg = some t ∧ kOf (P.2.1 t) (P.2.2.1 t) (b0 &&& 7) = true ∧ P.2.2.2.2.1 t = some r ∧ ¬ vp_in c0 (P.2.2.2.2.2.1 r)) ∨ (∃ t r : Nat, ac = rz ∧ (ft, pLc P r (vp_updL (P.2.2.2.2.2.2.1 r) c0.toNatClampNeg (aCell (P.2.2.1 t) ac))) = u ∧ vp_in a0 32 ∧ pl a0.toNatClampNeg = some t ∧ kOf (P.2.1 t) (P.2.2.1 t) (b0 &&& 7) = true ∧ P.2.2.2.2.1 t = some r ∧ vp_in c0 (P.2.2.2.2.2.1 r))
def q_X11_rowLength (a0 : Int32) (b0 : Int32) (pl : Nat → Option Nat) (ac : Int64) (ft : Int32) (md : Int32) (Z : cZ) (P : cQ) (rz : Int64) (u : Int32) : Prop := (0 = rz ∧ 2 = u ∧ ¬ vp_in a0 32) ∨ (∃ t : Nat, 0 = rz ∧ 3 = u ∧ vp_in a0 32 ∧ pl a0.toNatClampNeg = some t ∧ kOf (P.2.1 t) (P.2.2.1 t) (b0 &&& 7) = false) ∨ (0 = rz ∧ 1 = u ∧ vp_in a0 32 ∧ pl a0.toNatClampNeg = none) ∨ (∃ t r : Nat, ((Int32.ofNat (P.2.2.2.2.2.1 r)).toInt64) = rz ∧ ft = u ∧ vp_in a0 32 ∧ pl a0.toNatClampNeg = some t ∧ kOf (P.2.1 t) (P.2.2.1 t) (b0 &&& 7) = true ∧ P.2.2.2.2.1 t = some r)
def q_X11_makeSheet (a0 : Int32) (b0 : Int32) (c0 : Int32) (pl : Nat → Option Nat) (ac : Int64) (ft : Int32) (md : Int32) (Z : cZ) (P : cQ) (rz : Int64) (u : (Nat → Option Nat) × Int32 × Int32 × cQ) : Prop := (0 = rz ∧ (pl, 6, md, P) = u ∧ ¬ md < 6000) ∨ (0 = rz ∧ (pl, 2, md, P) = u ∧ md < 6000 ∧ ¬ vp_in a0 32) ∨ (0 = rz ∧ (pl, 4, md, P) = u ∧ md < 6000 ∧ vp_in a0 32 ∧ ¬ 0 ≤ (b0 - b0 / 9 * 9)) ∨ (0 = rz ∧ (pl, 4, md, P) = u ∧ md < 6000 ∧ vp_in a0 32 ∧ 0 ≤ (b0 - b0 / 9 * 9) ∧ ¬ 0 ≤ (c0 - c0 / 9 * 9)) ∨ (∃ (q y : Nat) (P9 : cQ), 0 = rz ∧ (va_up pl a0.toNatClampNeg (some q), ft, (md + 1), P9) = u ∧ md < 6000 ∧ vp_in a0 32 ∧ 0 ≤ (b0 - b0 / 9 * 9) ∧ 0 ≤ (c0 - c0 / 9 * 9) ∧ q ∉ P.1 ∧ y ∉ P.1 ∧ y ≠ q ∧ cSh y (c0 - c0 / 9 * 9).toNatClampNeg (b0 - b0 / 9 * 9).toNatClampNeg (pShelf P q y 8 0 (b0 - b0 / 9 * 9).toNatClampNeg) P9)
def q_X11_takeOut (s1 : Int32) (a0 : Int32) (b0 : Int32) (c0 : Int32) (pl : Nat → Option Nat) (ac : Int64) (ft : Int32) (md : Int32) (Z : cZ) (P : cQ) (rz : Int64) (u : (Nat → Option Nat) × Int32) : Prop := (0 = rz ∧ (pl, 2) = u ∧ ¬ vp_in c0 32) ∨ (0 = rz ∧ (pl, 2) = u ∧ vp_in c0 32 ∧ ¬ vp_in a0 32) ∨ (∃ t : Nat, 0 = rz ∧ (pl, 3) = u ∧ vp_in c0 32 ∧ vp_in a0 32 ∧ pl a0.toNatClampNeg = some t ∧ kOf (P.2.1 t) (P.2.2.1 t) s1 = false) ∨ (0 = rz ∧ (pl, 1) = u ∧ vp_in c0 32 ∧ vp_in a0 32 ∧ pl a0.toNatClampNeg = none) ∨ (∃ t y : Nat, 0 = rz ∧ (pl, 2) = u ∧ vp_in c0 32 ∧ vp_in a0 32 ∧ pl a0.toNatClampNeg = some t ∧ kOf (P.2.1 t) (P.2.2.1 t) s1 = true ∧ P.2.2.2.2.1 t = some y ∧ ¬ vp_in b0 (P.2.2.2.2.2.1 y)) ∨ (∃ (t y : Nat) (o : Option Nat), 0 = rz ∧ (va_up pl c0.toNatClampNeg o, ft) = u ∧ vp_in c0 32 ∧ vp_in a0 32 ∧ pl a0.toNatClampNeg = some t ∧ kOf (P.2.1 t) (P.2.2.1 t) s1 = true ∧ P.2.2.2.2.1 t = some y ∧ vp_in b0 (P.2.2.2.2.2.1 y) ∧ P.2.2.2.2.2.2.2 y b0.toNatClampNeg = o)
def q_X11_putIn (s1 : Int32) (s2 : Int32) (a0 : Int32) (b0 : Int32) (c0 : Int32) (pl : Nat → Option Nat) (ac : Int64) (ft : Int32) (md : Int32) (Z : cZ) (P : cQ) (rz : Int64) (u : Int32 × cQ) : Prop := (0 = rz ∧ (2, P) = u ∧ ¬ vp_in a0 32) ∨ (∃ t : Nat, 0 = rz ∧ (3, P) = u ∧ vp_in a0 32 ∧ pl a0.toNatClampNeg = some t ∧ kOf (P.2.1 t) (P.2.2.1 t) s1 = false) ∨ (0 = rz ∧ (2, P) = u ∧ vp_in a0 32 ∧ (pl a0.toNatClampNeg = none ∨ ∃ q, pl a0.toNatClampNeg = some q ∧ kOf (P.2.1 q) (P.2.2.1 q) s1 = true) ∧ ¬ vp_in c0 32) ∨ (∃ t : Nat, 0 = rz ∧ (3, P) = u ∧ vp_in a0 32 ∧ (pl a0.toNatClampNeg = none ∨ ∃ q, pl a0.toNatClampNeg = some q ∧ kOf (P.2.1 q) (P.2.2.1 q) s1 = true) ∧ vp_in c0 32 ∧ pl c0.toNatClampNeg = some t ∧ kOf (P.2.1 t) (P.2.2.1 t) s2 = false) ∨ (0 = rz ∧ (1, P) = u ∧ vp_in a0 32 ∧ pl a0.toNatClampNeg = none ∧ vp_in c0 32 ∧ (pl c0.toNatClampNeg = none ∨ ∃ q, pl c0.toNatClampNeg = some q ∧ kOf (P.2.1 q) (P.2.2.1 q) s2 = true)) ∨ (∃ t y : Nat, 0 = rz ∧ (2, P) = u ∧ vp_in a0 32 ∧ pl a0.toNatClampNeg = some t ∧ kOf (P.2.1 t) (P.2.2.1 t) s1 = true ∧ vp_in c0 32 ∧ (pl c0.toNatClampNeg = none ∨ ∃ q, pl c0.toNatClampNeg = some q ∧ kOf (P.2.1 q) (P.2.2.1 q) s2 = true) ∧ P.2.2.2.2.1 t = some y ∧ ¬ vp_in b0 (P.2.2.2.2.2.1 y)) ∨ (∃ t y q : Nat, 0 = rz ∧ (5, P) = u ∧ vp_in a0 32 ∧ pl a0.toNatClampNeg = some t ∧ kOf (P.2.1 t) (P.2.2.1 t) s1 = true ∧ vp_in c0 32 ∧ P.2.2.2.2.1 t = some y ∧ vp_in b0 (P.2.2.2.2.2.1 y) ∧ pl c0.toNatClampNeg = some q ∧ kOf (P.2.1 q) (P.2.2.1 q) s2 = true ∧ kOf (P.2.1 q) (P.2.2.1 q) (P.2.2.2.1 t) = false) ∨ (∃ (t y : Nat) (o : Option Nat), 0 = rz ∧ (ft, pRc P y (va_up (P.2.2.2.2.2.2.2 y) b0.toNatClampNeg o)) = u ∧ vp_in a0 32 ∧ pl a0.toNatClampNeg = some t ∧ kOf (P.2.1 t) (P.2.2.1 t) s1 = true ∧ vp_in c0 32 ∧ P.2.2.2.2.1 t = some y ∧ vp_in b0 (P.2.2.2.2.2.1 y) ∧ pl c0.toNatClampNeg = o ∧ (o = none ∨ ∃ q, o = some q ∧ kOf (P.2.1 q) (P.2.2.1 q) s2 = true ∧ kOf (P.2.1 q) (P.2.2.1 q) (P.2.2.2.1 t) = true))
def q_X11_makeCase (a0 : Int32) (b0 : Int32) (c0 : Int32) (pl : Nat → Option Nat) (ac : Int64) (ft : Int32) (md : Int32) (Z : cZ) (P : cQ) (rz : Int64) (u : (Nat → Option Nat) × Int32 × Int32 × cQ) : Prop := (0 = rz ∧ (pl, 6, md, P) = u ∧ ¬ md < 6000) ∨ (0 = rz ∧ (pl, 2, md, P) = u ∧ md < 6000 ∧ ¬ vp_in a0 32) ∨ (0 = rz ∧ (pl, 4, md, P) = u ∧ md < 6000 ∧ vp_in a0 32 ∧ ¬ 0 ≤ (c0 - c0 / 40 * 40)) ∨ (∃ q y : Nat, ((c0 - c0 / 40 * 40).toInt64) = rz ∧ (va_up pl a0.toNatClampNeg (some q), ft, (md + 1), pShelf P q y 9 12 (c0 - c0 / 40 * 40).toNatClampNeg) = u ∧ md < 6000 ∧ vp_in a0 32 ∧ 0 ≤ (c0 - c0 / 40 * 40) ∧ (b0 &&& 3) = 0 ∧ q ∉ P.1 ∧ y ∉ P.1 ∧ y ≠ q) ∨ (∃ q y : Nat, ((c0 - c0 / 40 * 40).toInt64) = rz ∧ (va_up pl a0.toNatClampNeg (some q), ft, (md + 1), pShelf P q y 10 13 (c0 - c0 / 40 * 40).toNatClampNeg) = u ∧ md < 6000 ∧ vp_in a0 32 ∧ 0 ≤ (c0 - c0 / 40 * 40) ∧ (b0 &&& 3) = 1 ∧ q ∉ P.1 ∧ y ∉ P.1 ∧ y ≠ q) ∨ (∃ q y : Nat, ((c0 - c0 / 40 * 40).toInt64) = rz ∧ (va_up pl a0.toNatClampNeg (some q), ft, (md + 1), pShelf P q y 11 14 (c0 - c0 / 40 * 40).toNatClampNeg) = u ∧ md < 6000 ∧ vp_in a0 32 ∧ 0 ≤ (c0 - c0 / 40 * 40) ∧ ¬ (b0 &&& 3) = 0 ∧ ¬ (b0 &&& 3) = 1 ∧ q ∉ P.1 ∧ y ∉ P.1 ∧ y ≠ q)
def q_X11_makeBox (a0 : Int32) (b0 : Int32) (pl : Nat → Option Nat) (ac : Int64) (ft : Int32) (md : Int32) (Z : cZ) (P : cQ) (rz : Int64) (u : (Nat → Option Nat) × Int32 × Int32 × cQ) : Prop := (0 = rz ∧ (pl, 6, md, P) = u ∧ ¬ md < 6000) ∨ (0 = rz ∧ (pl, 2, md, P) = u ∧ md < 6000 ∧ ¬ vp_in a0 32) ∨ (∃ q : Nat, 0 = rz ∧ (va_up pl a0.toNatClampNeg (some q), ft, (md + 1), pBox P q 2 ac.toInt32 0) = u ∧ md < 6000 ∧ vp_in a0 32 ∧ (b0 &&& 3) = 0 ∧ q ∉ P.1) ∨ (∃ q : Nat, 0 = rz ∧ (va_up pl a0.toNatClampNeg (some q), ft, (md + 1), pBox P q 1 ac.toInt32 ac.toInt32) = u ∧ md < 6000 ∧ vp_in a0 32 ∧ (b0 &&& 3) = 1 ∧ q ∉ P.1) ∨ (∃ q : Nat, 0 = rz ∧ (va_up pl a0.toNatClampNeg (some q), ft, (md + 1), pBox P q 0 ac.toInt32 ac.toInt32) = u ∧ md < 6000 ∧ vp_in a0 32 ∧ (b0 &&& 3) = 2 ∧ q ∉ P.1) ∨ (∃ q : Nat, 0 = rz ∧ (va_up pl a0.toNatClampNeg (some q), ft, (md + 1), pBox P q 3 ac.toInt32 0) = u ∧ md < 6000 ∧ vp_in a0 32 ∧ ¬ (b0 &&& 3) = 0 ∧ ¬ (b0 &&& 3) = 1 ∧ ¬ (b0 &&& 3) = 2 ∧ q ∉ P.1)
def q_X11_makeLetter (a0 : Int32) (b0 : Int32) (pl : Nat → Option Nat) (ac : Int64) (ft : Int32) (md : Int32) (Z : cZ) (P : cQ) (rz : Int64) (u : (Nat → Option Nat) × Int32 × Int32 × cQ) : Prop := (0 = rz ∧ (pl, 6, md, P) = u ∧ ¬ md < 6000) ∨ (0 = rz ∧ (pl, 2, md, P) = u ∧ md < 6000 ∧ ¬ vp_in a0 32) ∨ (∃ (q : Nat) (z : Int32), 0 = rz ∧ (va_up pl a0.toNatClampNeg (some q), ft, (md + 1), pBox P q 4 z 0) = u ∧ md < 6000 ∧ vp_in a0 32 ∧ q ∉ P.1 ∧ z = if b0 = -2147483648 then 0 else (if 0 ≤ b0 then b0 else 0 - b0) - (if 0 ≤ b0 then b0 else 0 - b0) / 7 * 7)
def q_X11_boxValue (a0 : Int32) (pl : Nat → Option Nat) (ac : Int64) (ft : Int32) (md : Int32) (Z : cZ) (P : cQ) (rz : Int64) (u : Int32) : Prop := (0 = rz ∧ 2 = u ∧ ¬ vp_in a0 32) ∨ (∃ t : Nat, 0 = rz ∧ 3 = u ∧ vp_in a0 32 ∧ pl a0.toNatClampNeg = some t ∧ kOf (P.2.1 t) (P.2.2.1 t) 12 = false) ∨ (0 = rz ∧ 1 = u ∧ vp_in a0 32 ∧ pl a0.toNatClampNeg = none) ∨ (∃ t : Nat, ((P.2.2.1 t).toInt64) = rz ∧ ft = u ∧ vp_in a0 32 ∧ pl a0.toNatClampNeg = some t ∧ kOf (P.2.1 t) (P.2.2.1 t) 12 = true)
def q_X11_changeBox (a0 : Int32) (pl : Nat → Option Nat) (ac : Int64) (ft : Int32) (md : Int32) (Z : cZ) (P : cQ) (rz : Int64) (u : Int32 × cQ) : Prop := (0 = rz ∧ (2, P) = u ∧ ¬ vp_in a0 32) ∨ (∃ t : Nat, 0 = rz ∧ (3, P) = u ∧ vp_in a0 32 ∧ pl a0.toNatClampNeg = some t ∧ kOf (P.2.1 t) (P.2.2.1 t) 12 = false) ∨ (0 = rz ∧ (1, P) = u ∧ vp_in a0 32 ∧ pl a0.toNatClampNeg = none) ∨ (∃ t : Nat, ((P.2.2.1 t).toInt64) = rz ∧ (ft, pVa P t ac.toInt32) = u ∧ vp_in a0 32 ∧ pl a0.toNatClampNeg = some t ∧ kOf (P.2.1 t) (P.2.2.1 t) 12 = true)
def q_X11_linkBox (a0 : Int32) (b0 : Int32) (pl : Nat → Option Nat) (ac : Int64) (ft : Int32) (md : Int32) (Z : cZ) (P : cQ) (rz : Int64) (u : Int32 × cQ) : Prop := (0 = rz ∧ (2, P) = u ∧ ¬ vp_in a0 32) ∨ (∃ t : Nat, 0 = rz ∧ (3, P) = u ∧ vp_in a0 32 ∧ pl a0.toNatClampNeg = some t ∧ kOf (P.2.1 t) (P.2.2.1 t) 12 = false) ∨ (0 = rz ∧ (2, P) = u ∧ vp_in a0 32 ∧ (pl a0.toNatClampNeg = none ∨ ∃ q, pl a0.toNatClampNeg = some q ∧ kOf (P.2.1 q) (P.2.2.1 q) 12 = true) ∧ ¬ vp_in b0 32) ∨ (∃ t : Nat, 0 = rz ∧ (3, P) = u ∧ vp_in a0 32 ∧ (pl a0.toNatClampNeg = none ∨ ∃ q, pl a0.toNatClampNeg = some q ∧ kOf (P.2.1 q) (P.2.2.1 q) 12 = true) ∧ vp_in b0 32 ∧ pl b0.toNatClampNeg = some t ∧ kOf (P.2.1 t) (P.2.2.1 t) 12 = false) ∨ (0 = rz ∧ (1, P) = u ∧ vp_in a0 32 ∧ pl a0.toNatClampNeg = none ∧ vp_in b0 32 ∧ (pl b0.toNatClampNeg = none ∨ ∃ q, pl b0.toNatClampNeg = some q ∧ kOf (P.2.1 q) (P.2.2.1 q) 12 = true)) ∨ (∃ (t : Nat) (o : Option Nat), 0 = rz ∧ (ft, pNx P t o) = u ∧ vp_in a0 32 ∧ pl a0.toNatClampNeg = some t ∧ kOf (P.2.1 t) (P.2.2.1 t) 12 = true ∧ vp_in b0 32 ∧ pl b0.toNatClampNeg = o ∧ (o = none ∨ ∃ q, o = some q ∧ kOf (P.2.1 q) (P.2.2.1 q) 12 = true))
def q_X11_followBox (a0 : Int32) (b0 : Int32) (pl : Nat → Option Nat) (ac : Int64) (ft : Int32) (md : Int32) (Z : cZ) (P : cQ) (rz : Int64) (u : (Nat → Option Nat) × Int32) : Prop := (0 = rz ∧ (pl, 2) = u ∧ ¬ vp_in b0 32) ∨ (0 = rz ∧ (pl, 2) = u ∧ vp_in b0 32 ∧ ¬ vp_in a0 32) ∨ (∃ t : Nat, 0 = rz ∧ (pl, 3) = u ∧ vp_in b0 32 ∧ vp_in a0 32 ∧ pl a0.toNatClampNeg = some t ∧ kOf (P.2.1 t) (P.2.2.1 t) 12 = false) ∨ (0 = rz ∧ (pl, 1) = u ∧ vp_in b0 32 ∧ vp_in a0 32 ∧ pl a0.toNatClampNeg = none) ∨ (∃ (t : Nat) (o : Option Nat), 0 = rz ∧ (va_up pl b0.toNatClampNeg o, ft) = u ∧ vp_in b0 32 ∧ vp_in a0 32 ∧ pl a0.toNatClampNeg = some t ∧ kOf (P.2.1 t) (P.2.2.1 t) 12 = true ∧ P.2.2.2.2.1 t = o)
def q_X11_weigh (a0 : Int32) (b0 : Int32) (pl : Nat → Option Nat) (ac : Int64) (ft : Int32) (md : Int32) (Z : cZ) (P : cQ) (rz : Int64) (u : Int32) : Prop := (0 = rz ∧ 2 = u ∧ ¬ vp_in a0 32) ∨ (∃ t : Nat, 0 = rz ∧ 3 = u ∧ vp_in a0 32 ∧ pl a0.toNatClampNeg = some t ∧ kOf (P.2.1 t) (P.2.2.1 t) 12 = false) ∨ (0 = rz ∧ 1 = u ∧ vp_in a0 32 ∧ pl a0.toNatClampNeg = none) ∨ (∃ t : Nat, ((kWt (P.2.1 t) (P.2.2.1 t) b0).toInt64) = rz ∧ ft = u ∧ vp_in a0 32 ∧ pl a0.toNatClampNeg = some t ∧ kOf (P.2.1 t) (P.2.2.1 t) 12 = true)
def q_X11_roll (a0 : Int32) (b0 : Int32) (pl : Nat → Option Nat) (ac : Int64) (ft : Int32) (md : Int32) (Z : cZ) (P : cQ) (rz : Int64) (u : Int32) : Prop := (0 = rz ∧ 2 = u ∧ ¬ vp_in a0 32) ∨ (∃ t : Nat, 0 = rz ∧ 3 = u ∧ vp_in a0 32 ∧ pl a0.toNatClampNeg = some t ∧ kOf (P.2.1 t) (P.2.2.1 t) 14 = false) ∨ (0 = rz ∧ 1 = u ∧ vp_in a0 32 ∧ pl a0.toNatClampNeg = none) ∨ (∃ t : Nat, ((kRo (P.2.1 t) (P.2.2.1 t) b0).toInt64) = rz ∧ ft = u ∧ vp_in a0 32 ∧ pl a0.toNatClampNeg = some t ∧ kOf (P.2.1 t) (P.2.2.1 t) 14 = true)
def q_X11_rim (a0 : Int32) (pl : Nat → Option Nat) (ac : Int64) (ft : Int32) (md : Int32) (Z : cZ) (P : cQ) (rz : Int64) (u : Int32) : Prop := (0 = rz ∧ 2 = u ∧ ¬ vp_in a0 32) ∨ (∃ t : Nat, 0 = rz ∧ 3 = u ∧ vp_in a0 32 ∧ pl a0.toNatClampNeg = some t ∧ kOf (P.2.1 t) (P.2.2.1 t) 13 = false) ∨ (0 = rz ∧ 1 = u ∧ vp_in a0 32 ∧ pl a0.toNatClampNeg = none) ∨ (∃ t : Nat, ((P.2.2.2.1 t).toInt64) = rz ∧ ft = u ∧ vp_in a0 32 ∧ pl a0.toNatClampNeg = some t ∧ kOf (P.2.1 t) (P.2.2.1 t) 13 = true)
def q_X11_raise (a0 : Int32) (pl : Nat → Option Nat) (ac : Int64) (ft : Int32) (md : Int32) (Z : cZ) (P : cQ) (rz : Int64) (u : Int32) : Prop := (0 = rz ∧ 2 = u ∧ ¬ vp_in a0 32) ∨ (∃ t : Nat, 0 = rz ∧ 3 = u ∧ vp_in a0 32 ∧ pl a0.toNatClampNeg = some t ∧ kOf (P.2.1 t) (P.2.2.1 t) 15 = false) ∨ (0 = rz ∧ 1 = u ∧ vp_in a0 32 ∧ pl a0.toNatClampNeg = none) ∨ (∃ t : Nat, 0 = rz ∧ (P.2.2.1 t) = u ∧ vp_in a0 32 ∧ pl a0.toNatClampNeg = some t ∧ kOf (P.2.1 t) (P.2.2.1 t) 15 = true)
def q_X11_holdsSort (x0 : Int32) (s0 : Int32) (pl : Nat → Option Nat) (ac : Int64) (ft : Int32) (md : Int32) (Z : cZ) (P : cQ) (rz : Int64) (u : Int32) : Prop := (0 = rz ∧ 2 = u ∧ ¬ vp_in x0 32) ∨ (0 = rz ∧ ft = u ∧ vp_in x0 32 ∧ pl x0.toNatClampNeg = none) ∨ (∃ t : Nat, 1 = rz ∧ ft = u ∧ vp_in x0 32 ∧ pl x0.toNatClampNeg = some t ∧ kOf (P.2.1 t) (P.2.2.1 t) (s0 &&& 15) = true) ∨ (∃ t : Nat, 0 = rz ∧ ft = u ∧ vp_in x0 32 ∧ pl x0.toNatClampNeg = some t ∧ kOf (P.2.1 t) (P.2.2.1 t) (s0 &&& 15) = false)
def q_X11_clear (x0 : Int32) (pl : Nat → Option Nat) (ac : Int64) (ft : Int32) (md : Int32) (Z : cZ) (P : cQ) (rz : Int64) (u : (Nat → Option Nat) × Int32) : Prop := (0 = rz ∧ (pl, 2) = u ∧ ¬ vp_in x0 32) ∨ (0 = rz ∧ (va_up pl x0.toNatClampNeg none, ft) = u ∧ vp_in x0 32)
def q_X11_move (x0 : Int32) (y0 : Int32) (pl : Nat → Option Nat) (ac : Int64) (ft : Int32) (md : Int32) (Z : cZ) (P : cQ) (rz : Int64) (u : (Nat → Option Nat) × Int32) : Prop := (0 = rz ∧ (pl, 2) = u ∧ ¬ vp_in y0 32) ∨ (0 = rz ∧ (pl, 2) = u ∧ vp_in y0 32 ∧ ¬ vp_in x0 32) ∨ (0 = rz ∧ (va_up pl y0.toNatClampNeg (pl x0.toNatClampNeg), ft) = u ∧ vp_in y0 32 ∧ vp_in x0 32)
def q_X11_holdSame (x0 : Int32) (y0 : Int32) (pl : Nat → Option Nat) (ac : Int64) (ft : Int32) (md : Int32) (Z : cZ) (P : cQ) (rz : Int64) (u : Int32) : Prop := (0 = rz ∧ 2 = u ∧ ¬ vp_in x0 32) ∨ (0 = rz ∧ 2 = u ∧ vp_in x0 32 ∧ ¬ vp_in y0 32) ∨ (1 = rz ∧ ft = u ∧ vp_in x0 32 ∧ vp_in y0 32 ∧ pl x0.toNatClampNeg = pl y0.toNatClampNeg) ∨ (0 = rz ∧ ft = u ∧ vp_in x0 32 ∧ vp_in y0 32 ∧ ¬ pl x0.toNatClampNeg = pl y0.toNatClampNeg)
def q_X11_copy (a0 : Int32) (b0 : Int32) (c0 : Int32) (pl : Nat → Option Nat) (ac : Int64) (ft : Int32) (md : Int32) (Z : cZ) (P : cQ) (rz : Int64) (u : Int32 × cQ) : Prop := (0 = rz ∧ (2, P) = u ∧ ¬ vp_in a0 32) ∨ (0 = rz ∧ (2, P) = u ∧ vp_in a0 32 ∧ ¬ vp_in b0 32) ∨ (0 = rz ∧ (1, P) = u ∧ vp_in a0 32 ∧ vp_in b0 32 ∧ pl a0.toNatClampNeg = none) ∨ (∃ t1 : Nat, 0 = rz ∧ (1, P) = u ∧ vp_in a0 32 ∧ vp_in b0 32 ∧ pl a0.toNatClampNeg = some t1 ∧ pl b0.toNatClampNeg = none) ∨ (∃ (t1 t2 : Nat) (u9 : Int32 × cQ), 0 = rz ∧ (u9.1, u9.2) = u ∧ vp_in a0 32 ∧ vp_in b0 32 ∧ pl a0.toNatClampNeg = some t1 ∧ pl b0.toNatClampNeg = some t2 ∧ P.2.1 t1 = 5 ∧ P.2.1 t2 = 5 ∧ P.2.2.1 t1 = P.2.2.1 t2 ∧ q_X11_copyCells t1 ((c0 >>> (16 &&& 31)).toInt8.toInt32) t2 ((c0 >>> (8 &&& 31)).toInt8.toInt32) c0.toInt8.toInt32 pl ac ft md Z P u9) ∨ (∃ (t1 t2 : Nat) (u9 : Int32 × cQ), 0 = rz ∧ (u9.1, u9.2) = u ∧ vp_in a0 32 ∧ vp_in b0 32 ∧ pl a0.toNatClampNeg = some t1 ∧ pl b0.toNatClampNeg = some t2 ∧ P.2.1 t1 = 6 ∧ P.2.1 t2 = 6 ∧ q_X11_copyThings t1 ((c0 >>> (16 &&& 31)).toInt8.toInt32) t2 ((c0 >>> (8 &&& 31)).toInt8.toInt32) c0.toInt8.toInt32 pl ac ft md Z P u9) ∨ (∃ t1 t2 : Nat, 0 = rz ∧ (5, P) = u ∧ vp_in a0 32 ∧ vp_in b0 32 ∧ pl a0.toNatClampNeg = some t1 ∧ pl b0.toNatClampNeg = some t2 ∧ ¬ (P.2.1 t1 = 5 ∧ P.2.1 t2 = 5 ∧ P.2.2.1 t1 = P.2.2.1 t2) ∧ ¬ (P.2.1 t1 = 6 ∧ P.2.1 t2 = 6))
def q_X11_answerOf (w0 : Int32) (a0 : Int32) (b0 : Int32) (c0 : Int32) (pl : Nat → Option Nat) (ac : Int64) (ft : Int32) (md : Int32) (Z : cZ) (P : cQ) (rz : Int64) (u : (Nat → Option Nat) × Int32 × Int32 × cQ) : Prop := (∃ (r9 : Int64) (u9 : (Nat → Option Nat) × Int32 × Int32 × cQ), r9 = rz ∧ (u9.1, u9.2.1, u9.2.2.1, u9.2.2.2) = u ∧ w0 = 0 ∧ q_X11_makeRow a0 b0 c0 pl ac ft md Z P r9 u9) ∨ (∃ (r9 : Int64) (u9 : Int32), r9 = rz ∧ (pl, u9, md, P) = u ∧ w0 = 1 ∧ q_X11_rowCell a0 b0 c0 pl ac ft md Z P r9 u9) ∨ (∃ (r9 : Int64) (u9 : Int32 × cQ), r9 = rz ∧ (pl, u9.1, md, u9.2) = u ∧ w0 = 2 ∧ q_X11_setRowCell a0 b0 c0 pl ac ft md Z P r9 u9) ∨ (∃ (r9 : Int64) (u9 : Int32), r9 = rz ∧ (pl, u9, md, P) = u ∧ w0 = 3 ∧ q_X11_rowLength a0 b0 pl ac ft md Z P r9 u9) ∨ (∃ (r9 : Int64) (u9 : (Nat → Option Nat) × Int32 × Int32 × cQ), r9 = rz ∧ (u9.1, u9.2.1, u9.2.2.1, u9.2.2.2) = u ∧ w0 = 4 ∧ q_X11_makeSheet a0 b0 c0 pl ac ft md Z P r9 u9) ∨ (0 = rz ∧ (pl, 2, md, P) = u ∧ w0 = 5 ∧ ¬ vp_in a0 32) ∨ (∃ t : Nat, 0 = rz ∧ (pl, 3, md, P) = u ∧ w0 = 5 ∧ vp_in a0 32 ∧ pl a0.toNatClampNeg = some t ∧ kOf (P.2.1 t) (P.2.2.1 t) 8 = false) ∨ (0 = rz ∧ (pl, 1, md, P) = u ∧ w0 = 5 ∧ vp_in a0 32 ∧ pl a0.toNatClampNeg = none) ∨ (∃ t y : Nat, 0 = rz ∧ (pl, 2, md, P) = u ∧ w0 = 5 ∧ vp_in a0 32 ∧ pl a0.toNatClampNeg = some t ∧ kOf (P.2.1 t) (P.2.2.1 t) 8 = true ∧ P.2.2.2.2.1 t = some y ∧ ¬ vp_in b0 (P.2.2.2.2.2.1 y)) ∨ (∃ t y : Nat, 0 = rz ∧ (pl, 1, md, P) = u ∧ w0 = 5 ∧ vp_in a0 32 ∧ pl a0.toNatClampNeg = some t ∧ kOf (P.2.1 t) (P.2.2.1 t) 8 = true ∧ P.2.2.2.2.1 t = some y ∧ vp_in b0 (P.2.2.2.2.2.1 y) ∧ P.2.2.2.2.2.2.2 y b0.toNatClampNeg = none) ∨ (∃ t y q z : Nat, 0 = rz ∧ (pl, 2, md, P) = u ∧ w0 = 5 ∧ vp_in a0 32 ∧ pl a0.toNatClampNeg = some t ∧ kOf (P.2.1 t) (P.2.2.1 t) 8 = true ∧ P.2.2.2.2.1 t = some y ∧ vp_in b0 (P.2.2.2.2.2.1 y) ∧ P.2.2.2.2.2.2.2 y b0.toNatClampNeg = some q ∧ P.2.2.2.2.1 q = some z ∧ ¬ vp_in c0 (P.2.2.2.2.2.1 z)) ∨ (∃ t y q z : Nat, (P.2.2.2.2.2.2.1 z c0.toNatClampNeg) = rz ∧ (pl, ft, md, P) = u ∧ w0 = 5 ∧ vp_in a0 32 ∧ pl a0.toNatClampNeg = some t ∧ kOf (P.2.1 t) (P.2.2.1 t) 8 = true ∧ P.2.2.2.2.1 t = some y ∧ vp_in b0 (P.2.2.2.2.2.1 y) ∧ P.2.2.2.2.2.2.2 y b0.toNatClampNeg = some q ∧ P.2.2.2.2.1 q = some z ∧ vp_in c0 (P.2.2.2.2.2.1 z) ∧ q ∈ P.1 ∧ P.2.1 q = 5) ∨ (0 = rz ∧ (pl, 2, md, P) = u ∧ w0 = 6 ∧ ¬ vp_in a0 32) ∨ (∃ t : Nat, 0 = rz ∧ (pl, 3, md, P) = u ∧ w0 = 6 ∧ vp_in a0 32 ∧ pl a0.toNatClampNeg = some t ∧ kOf (P.2.1 t) (P.2.2.1 t) 8 = false) ∨ (0 = rz ∧ (pl, 1, md, P) = u ∧ w0 = 6 ∧ vp_in a0 32 ∧ pl a0.toNatClampNeg = none) ∨ (∃ t y : Nat, 0 = rz ∧ (pl, 2, md, P) = u ∧ w0 = 6 ∧ vp_in a0 32 ∧ pl a0.toNatClampNeg = some t ∧ kOf (P.2.1 t) (P.2.2.1 t) 8 = true ∧ P.2.2.2.2.1 t = some y ∧ ¬ vp_in b0 (P.2.2.2.2.2.1 y)) ∨ (∃ t y : Nat, 0 = rz ∧ (pl, 1, md, P) = u ∧ w0 = 6 ∧ vp_in a0 32 ∧ pl a0.toNatClampNeg = some t ∧ kOf (P.2.1 t) (P.2.2.1 t) 8 = true ∧ P.2.2.2.2.1 t = some y ∧ vp_in b0 (P.2.2.2.2.2.1 y) ∧ P.2.2.2.2.2.2.2 y b0.toNatClampNeg = none) ∨ (∃ t y q z : Nat, 0 = rz ∧ (pl, 2, md, P) = u ∧ w0 = 6 ∧ vp_in a0 32 ∧ pl a0.toNatClampNeg = some t ∧ kOf (P.2.1 t) (P.2.2.1 t) 8 = true ∧ P.2.2.2.2.1 t = some y ∧ vp_in b0 (P.2.2.2.2.2.1 y) ∧ P.2.2.2.2.2.2.2 y b0.toNatClampNeg = some q ∧ P.2.2.2.2.1 q = some z ∧ ¬ vp_in c0 (P.2.2.2.2.2.1 z)) ∨ (∃ t y q z : Nat, 0 = rz ∧ (pl, ft, md, pLc P z (vp_updL (P.2.2.2.2.2.2.1 z) c0.toNatClampNeg (aCell (P.2.2.1 q) ac))) = u ∧ w0 = 6 ∧ vp_in a0 32 ∧ pl a0.toNatClampNeg = some t ∧ kOf (P.2.1 t) (P.2.2.1 t) 8 = true ∧ P.2.2.2.2.1 t = some y ∧ vp_in b0 (P.2.2.2.2.2.1 y) ∧ P.2.2.2.2.2.2.2 y b0.toNatClampNeg = some q ∧ P.2.2.2.2.1 q = some z ∧ vp_in c0 (P.2.2.2.2.2.1 z) ∧ q ∈ P.1 ∧ P.2.1 q = 5) ∨ (∃ (r9 : Int64) (u9 : (Nat → Option Nat) × Int32), r9 = rz ∧ (u9.1, u9.2, md, P) = u ∧ w0 = 7 ∧ q_X11_takeOut 8 a0 b0 c0 pl ac ft md Z P r9 u9) ∨ (∃ (r9 : Int64) (u9 : Int32 × cQ), r9 = rz ∧ (pl, u9.1, md, u9.2) = u ∧ w0 = 8 ∧ q_X11_putIn 8 0 a0 b0 c0 pl ac ft md Z P r9 u9) ∨ (∃ (r9 : Int64) (u9 : (Nat → Option Nat) × Int32 × Int32 × cQ), r9 = rz ∧ (u9.1, u9.2.1, u9.2.2.1, u9.2.2.2) = u ∧ w0 = 9 ∧ q_X11_makeCase a0 b0 c0 pl ac ft md Z P r9 u9) ∨ (∃ (r9 : Int64) (u9 : Int32 × cQ), r9 = rz ∧ (pl, u9.1, md, u9.2) = u ∧ w0 = 10 ∧ q_X11_putIn 9 12 a0 b0 c0 pl ac ft md Z P r9 u9) ∨ (∃ (r9 : Int64) (u9 : Int32 × cQ), r9 = rz ∧ (pl, u9.1, md, u9.2) = u ∧ w0 = 11 ∧ q_X11_putIn 11 14 a0 b0 c0 pl ac ft md Z P r9 u9) ∨ (∃ (r9 : Int64) (u9 : (Nat → Option Nat) × Int32), r9 = rz ∧ (u9.1, u9.2, md, P) = u ∧ w0 = 12 ∧ q_X11_takeOut 9 a0 b0 c0 pl ac ft md Z P r9 u9) ∨ (∃ (r9 : Int64) (u9 : (Nat → Option Nat) × Int32 × Int32 × cQ), r9 = rz ∧ (u9.1, u9.2.1, u9.2.2.1, u9.2.2.2) = u ∧ w0 = 13 ∧ q_X11_makeBox a0 b0 pl ac ft md Z P r9 u9) ∨ (∃ (r9 : Int64) (u9 : (Nat → Option Nat) × Int32 × Int32 × cQ), r9 = rz ∧ (u9.1, u9.2.1, u9.2.2.1, u9.2.2.2) = u ∧ w0 = 14 ∧ q_X11_makeLetter a0 b0 pl ac ft md Z P r9 u9) ∨ (∃ (r9 : Int64) (u9 : Int32), r9 = rz ∧ (pl, u9, md, P) = u ∧ w0 = 15 ∧ q_X11_boxValue a0 pl ac ft md Z P r9 u9) ∨ (∃ (r9 : Int64) (u9 : Int32 × cQ), r9 = rz ∧ (pl, u9.1, md, u9.2) = u ∧ w0 = 16 ∧ q_X11_changeBox a0 pl ac ft md Z P r9 u9) ∨ (∃ (r9 : Int64) (u9 : Int32 × cQ), r9 = rz ∧ (pl, u9.1, md, u9.2) = u ∧ w0 = 17 ∧ q_X11_linkBox a0 b0 pl ac ft md Z P r9 u9) ∨ (∃ (r9 : Int64) (u9 : (Nat → Option Nat) × Int32), r9 = rz ∧ (u9.1, u9.2, md, P) = u ∧ w0 = 18 ∧ q_X11_followBox a0 b0 pl ac ft md Z P r9 u9) ∨ (∃ (r9 : Int64) (u9 : Int32), r9 = rz ∧ (pl, u9, md, P) = u ∧ w0 = 19 ∧ q_X11_weigh a0 b0 pl ac ft md Z P r9 u9) ∨ (∃ (r9 : Int64) (u9 : Int32), r9 = rz ∧ (pl, u9, md, P) = u ∧ w0 = 20 ∧ q_X11_roll a0 b0 pl ac ft md Z P r9 u9) ∨ (∃ (r9 : Int64) (u9 : Int32), r9 = rz ∧ (pl, u9, md, P) = u ∧ w0 = 21 ∧ q_X11_rim a0 pl ac ft md Z P r9 u9) ∨ (0 = rz ∧ (pl, 0, md, P) = u ∧ w0 = 22 ∧ b0 = 0) ∨ (((ac.toInt32 / b0).toInt64) = rz ∧ (pl, ft, md, P) = u ∧ w0 = 22 ∧ ¬ b0 = 0) ∨ (0 = rz ∧ (pl, 0, md, P) = u ∧ w0 = 23 ∧ b0 = 0) ∨ (((ac.toInt32 - ac.toInt32 / b0 * b0).toInt64) = rz ∧ (pl, ft, md, P) = u ∧ w0 = 23 ∧ ¬ b0 = 0) ∨ (0 = rz ∧ (pl, 0, md, P) = u ∧ w0 = 24 ∧ b0 = 0) ∨ ((ac / b0.toInt64) = rz ∧ (pl, ft, md, P) = u ∧ w0 = 24 ∧ ¬ b0 = 0) ∨ (0 = rz ∧ (pl, 0, md, P) = u ∧ w0 = 25 ∧ b0 = 0) ∨ ((ac - ac / b0.toInt64 * b0.toInt64) = rz ∧ (pl, ft, md, P) = u ∧ w0 = 25 ∧ ¬ b0 = 0) ∨ (∃ (r9 : Int64) (u9 : Int32), r9 = rz ∧ (pl, u9, md, P) = u ∧ w0 = 26 ∧ q_X11_raise a0 pl ac ft md Z P r9 u9) ∨ (∃ (r9 : Int64) (u9 : Int32), r9 = rz ∧ (pl, u9, md, P) = u ∧ w0 = 27 ∧ q_X11_holdsSort a0 b0 pl ac ft md Z P r9 u9) ∨ (∃ (r9 : Int64) (u9 : (Nat → Option Nat) × Int32), r9 = rz ∧ (u9.1, u9.2, md, P) = u ∧ w0 = 28 ∧ q_X11_clear a0 pl ac ft md Z P r9 u9) ∨ (∃ (r9 : Int64) (u9 : (Nat → Option Nat) × Int32), r9 = rz ∧ (u9.1, u9.2, md, P) = u ∧ w0 = 29 ∧ q_X11_move a0 b0 pl ac ft md Z P r9 u9) ∨ (∃ (r9 : Int64) (u9 : Int32), r9 = rz ∧ (pl, u9, md, P) = u ∧ w0 = 30 ∧ q_X11_holdSame a0 b0 pl ac ft md Z P r9 u9) ∨ (∃ (r9 : Int64) (u9 : Int32 × cQ), r9 = rz ∧ (pl, u9.1, md, u9.2) = u ∧ w0 = 31 ∧ q_X11_copy a0 b0 c0 pl ac ft md Z P r9 u9) ∨ ((-1) = rz ∧ (pl, ft, md, P) = u ∧ ¬ w0 = 0 ∧ ¬ w0 = 1 ∧ ¬ w0 = 2 ∧ ¬ w0 = 3 ∧ ¬ w0 = 4 ∧ ¬ w0 = 5 ∧ ¬ w0 = 6 ∧ ¬ w0 = 7 ∧ ¬ w0 = 8 ∧ ¬ w0 = 9 ∧ ¬ w0 = 10 ∧ ¬ w0 = 11 ∧ ¬ w0 = 12 ∧ ¬ w0 = 13 ∧ ¬ w0 = 14 ∧ ¬ w0 = 15 ∧ ¬ w0 = 16 ∧ ¬ w0 = 17 ∧ ¬ w0 = 18 ∧ ¬ w0 = 19 ∧ ¬ w0 = 20 ∧ ¬ w0 = 21 ∧ ¬ w0 = 22 ∧ ¬ w0 = 23 ∧ ¬ w0 = 24 ∧ ¬ w0 = 25 ∧ ¬ w0 = 26 ∧ ¬ w0 = 27 ∧ ¬ w0 = 28 ∧ ¬ w0 = 29 ∧ ¬ w0 = 30 ∧ ¬ w0 = 31)
set_option maxHeartbeats 800000 in
set_option maxRecDepth 100000 in
theorem c_X11_answerOf (l : Launch) (dC : Nat → ClassId) (dI : Nat → Nat → Nat) (g : Nat → Nat) (ty : Nat → ClassId) (sz : Nat) (pl : Nat → Option Nat) (ac : Int64) (ft : Int32) (md : Int32) (Z : cZ) (P : cQ) (k0 : Nat) (w0 : Int32) (a0 : Int32) (b0 : Int32) (c0 : Int32) (wf : cWF pl P) (pre0 : kMk w0 a0 b0 c0 md → 1 ≤ k0) : Met l yX11_answerOf (Cond.code yX11_answerOf cX11_answerOf 5 (some .long) :: gT) ({ frames := 8, cells := 18 * k0, slots := 101 * k0, locals := 359 }) (cP (dC, dI) (cTy ty) (cW g ty pl ac ft md Z P) sz [.ref (g 0), .int w0, .int a0, .int b0, .int c0]) (va_Ql (fun (rz : Int64) (u : (Nat → Option Nat) × Int32 × Int32 × cQ) => q_X11_answerOf w0 a0 b0 c0 pl ac ft md Z P rz u) (cB (dC, dI) (fun u : (Nat → Option Nat) × Int32 × Int32 × cQ => cW g ty u.1 ac u.2.1 u.2.2.1 Z u.2.2.2) (va_A (cW g ty pl ac ft md Z P) sz)) (va_A (cW g ty pl ac ft md Z P) sz)) (18 * k0) (101 * k0) (va_A (cW g ty pl ac ft md Z P) sz) := by
  refine cc_of (Qa := fun A => va_Ql (fun (rz : Int64) (u : (Nat → Option Nat) × Int32 × Int32 × cQ) => q_X11_answerOf w0 a0 b0 c0 pl ac ft md Z P rz u) (cB (dC, dI) (fun u : (Nat → Option Nat) × Int32 × Int32 × cQ => cW g ty u.1 ac u.2.1 u.2.2.1 Z u.2.2.2) A) A) (by decide) (Nat.le_of_ble_eq_true rfl) ?_
  intro p e s m below meth c A hx hb hr hml hown hg hlk hmn hP hK hD hT hS hA hsz ls hl
  have hown : s.vm.findClass RX11 = some m.cls := hown
  have hl : lv_has ls 5 [(0, .ref (g 0)), (1, .int w0), (2, .int a0), (3, .int b0), (4, .int c0)] := hl
  refine lv_iload_n hx hb dX11_answerOf_0 rfl (lv_at hl 1 rfl) ?_
  by_cases e_1 : w0 = 0
  · show _
    refine lv_tableIn (off := 143) (tgt := 144) hx hb dX11_answerOf_1 (by rw [e_1]; decide) (by rw [e_1]; decide) (by rw [e_1]; decide) (by decide) ?_
    refine lv_aload_n hx hb dX11_answerOf_144 rfl (lv_at hl 0 rfl) ?_
    refine lv_iload_n hx hb dX11_answerOf_145 rfl (lv_at hl 2 rfl) ?_
    refine lv_iload_n hx hb dX11_answerOf_146 rfl (lv_at hl 3 rfl) ?_
    refine lv_iload hx hb dX11_answerOf_147 (lv_at hl 4 rfl) ?_
    refine cV_l (C := RX11) (n := 3) (rest := []) hx hb hml hown hg hT (c_X11_makeRow l dC dI g ty s.heap.size pl ac ft md Z P k0 a0 b0 c0 (by exact fun h1 h2 h3 => pre0 ⟨h1, h2, Or.inl ⟨by assumption, h3⟩⟩)) (cv_of hg wM_X11_158 wN_X11_makeRow wL_X11_X11_makeRow wK_X11_makeRow wI_X11 (by decide +kernel) ⟨Nat.le_of_ble_eq_true rfl, Nat.le_of_ble_eq_true rfl⟩) hK hP hD hS hA (va_recv hK hP (ci := 13) (q0 := 0) rfl rfl) rfl hl.1 rfl (Nat.le_of_ble_eq_true rfl) dX11_answerOf_149 ⟨by show 0 + 18 * k0 ≤ 18 * k0; omega, by show 0 + 101 * k0 ≤ 101 * k0; omega⟩ (fun r_3 u_4 H locs q_2 hP hD hS => ?_)
    have hP : va_P (dC, dI) vwCl (cW g ty u_4.1 ac u_4.2.1 u_4.2.2.1 Z u_4.2.2.2) H := hP
    have hD : va_D A (cW g ty u_4.1 ac u_4.2.1 u_4.2.2.1 Z u_4.2.2.2) := hD
    have hq := q_2
    refine W.widen (k := 18 * k0) (n := 101 * k0) (by show 0 + 18 * k0 ≤ 18 * k0; omega) (by show 0 + 101 * k0 ≤ 101 * k0; omega) ?_
    refine cr_l (wo := fun u : (Nat → Option Nat) × Int32 × Int32 × cQ => cW g ty u.1 ac u.2.1 u.2.2.1 Z u.2.2.2) ((u_4.1, u_4.2.1, u_4.2.2.1, u_4.2.2.2)) hx hb hr hlk hS hP hD ?_ dX11_answerOf_152
    exact Or.inl ⟨r_3, u_4, rfl, rfl, (by assumption), (by exact hq)⟩
  · show _
    by_cases e_5 : w0 = 1
    · show _
      refine lv_tableIn (off := 152) (tgt := 153) hx hb dX11_answerOf_1 (by rw [e_5]; decide) (by rw [e_5]; decide) (by rw [e_5]; decide) (by decide) ?_
      refine lv_aload_n hx hb dX11_answerOf_153 rfl (lv_at hl 0 rfl) ?_
      refine lv_iload_n hx hb dX11_answerOf_154 rfl (lv_at hl 2 rfl) ?_
      refine lv_iload_n hx hb dX11_answerOf_155 rfl (lv_at hl 3 rfl) ?_
      refine lv_iload hx hb dX11_answerOf_156 (lv_at hl 4 rfl) ?_
      refine cV_l (C := RX11) (n := 3) (rest := []) hx hb hml hown hg hT (c_X11_rowCell l dC dI g ty s.heap.size pl ac ft md Z P a0 b0 c0 wf ) (cv_of hg wM_X11_162 wN_X11_rowCell wL_X11_X11_rowCell wK_X11_rowCell wI_X11 (by decide +kernel) ⟨Nat.le_of_ble_eq_true rfl, Nat.le_of_ble_eq_true rfl⟩) hK hP hD hS hA (va_recv hK hP (ci := 13) (q0 := 0) rfl rfl) rfl hl.1 rfl (Nat.le_of_ble_eq_true rfl) dX11_answerOf_158 ⟨by show 0 + 0 ≤ 18 * k0; omega, by show 0 + 0 ≤ 101 * k0; omega⟩ (fun r_7 u_8 H locs q_6 hP hD hS => ?_)
      have hP : va_P (dC, dI) vwCl (cW g ty pl ac u_8 md Z P) H := hP
      have hD : va_D A (cW g ty pl ac u_8 md Z P) := hD
      have hq := q_6
      refine W.widen (k := 18 * k0) (n := 101 * k0) (by show 0 + 0 ≤ 18 * k0; omega) (by show 0 + 0 ≤ 101 * k0; omega) ?_
      refine cr_l (wo := fun u : (Nat → Option Nat) × Int32 × Int32 × cQ => cW g ty u.1 ac u.2.1 u.2.2.1 Z u.2.2.2) ((pl, u_8, md, P)) hx hb hr hlk hS hP hD ?_ dX11_answerOf_161
      exact Or.inr (Or.inl ⟨r_7, u_8, rfl, rfl, (by assumption), (by exact hq)⟩)
    · show _
      by_cases e_9 : w0 = 2
      · show _
        refine lv_tableIn (off := 161) (tgt := 162) hx hb dX11_answerOf_1 (by rw [e_9]; decide) (by rw [e_9]; decide) (by rw [e_9]; decide) (by decide) ?_
        refine lv_aload_n hx hb dX11_answerOf_162 rfl (lv_at hl 0 rfl) ?_
        refine lv_iload_n hx hb dX11_answerOf_163 rfl (lv_at hl 2 rfl) ?_
        refine lv_iload_n hx hb dX11_answerOf_164 rfl (lv_at hl 3 rfl) ?_
        refine lv_iload hx hb dX11_answerOf_165 (lv_at hl 4 rfl) ?_
        refine cV_l (C := RX11) (n := 3) (rest := []) hx hb hml hown hg hT (c_X11_setRowCell l dC dI g ty s.heap.size pl ac ft md Z P a0 b0 c0 wf ) (cv_of hg wM_X11_165 wN_X11_setRowCell wL_X11_X11_setRowCell wK_X11_setRowCell wI_X11 (by decide +kernel) ⟨Nat.le_of_ble_eq_true rfl, Nat.le_of_ble_eq_true rfl⟩) hK hP hD hS hA (va_recv hK hP (ci := 13) (q0 := 0) rfl rfl) rfl hl.1 rfl (Nat.le_of_ble_eq_true rfl) dX11_answerOf_167 ⟨by show 0 + 0 ≤ 18 * k0; omega, by show 0 + 0 ≤ 101 * k0; omega⟩ (fun r_11 u_12 H locs q_10 hP hD hS => ?_)
        have hP : va_P (dC, dI) vwCl (cW g ty pl ac u_12.1 md Z u_12.2) H := hP
        have hD : va_D A (cW g ty pl ac u_12.1 md Z u_12.2) := hD
        have hq := q_10
        refine W.widen (k := 18 * k0) (n := 101 * k0) (by show 0 + 0 ≤ 18 * k0; omega) (by show 0 + 0 ≤ 101 * k0; omega) ?_
        refine cr_l (wo := fun u : (Nat → Option Nat) × Int32 × Int32 × cQ => cW g ty u.1 ac u.2.1 u.2.2.1 Z u.2.2.2) ((pl, u_12.1, md, u_12.2)) hx hb hr hlk hS hP hD ?_ dX11_answerOf_170
        exact Or.inr (Or.inr (Or.inl ⟨r_11, u_12, rfl, rfl, (by assumption), (by exact hq)⟩))
      · show _
        by_cases e_13 : w0 = 3
        · show _
          refine lv_tableIn (off := 170) (tgt := 171) hx hb dX11_answerOf_1 (by rw [e_13]; decide) (by rw [e_13]; decide) (by rw [e_13]; decide) (by decide) ?_
          refine lv_aload_n hx hb dX11_answerOf_171 rfl (lv_at hl 0 rfl) ?_
          refine lv_iload_n hx hb dX11_answerOf_172 rfl (lv_at hl 2 rfl) ?_
          refine lv_iload_n hx hb dX11_answerOf_173 rfl (lv_at hl 3 rfl) ?_
          refine cV_l (C := RX11) (n := 2) (rest := []) hx hb hml hown hg hT (c_X11_rowLength l dC dI g ty s.heap.size pl ac ft md Z P a0 b0 wf ) (cv_of hg wM_X11_168 wN_X11_rowLength wL_X11_X11_rowLength wK_X11_rowLength wI_X11 (by decide +kernel) ⟨Nat.le_of_ble_eq_true rfl, Nat.le_of_ble_eq_true rfl⟩) hK hP hD hS hA (va_recv hK hP (ci := 13) (q0 := 0) rfl rfl) rfl hl.1 rfl (Nat.le_of_ble_eq_true rfl) dX11_answerOf_174 ⟨by show 0 + 0 ≤ 18 * k0; omega, by show 0 + 0 ≤ 101 * k0; omega⟩ (fun r_15 u_16 H locs q_14 hP hD hS => ?_)
          have hP : va_P (dC, dI) vwCl (cW g ty pl ac u_16 md Z P) H := hP
          have hD : va_D A (cW g ty pl ac u_16 md Z P) := hD
          have hq := q_14
          refine W.widen (k := 18 * k0) (n := 101 * k0) (by show 0 + 0 ≤ 18 * k0; omega) (by show 0 + 0 ≤ 101 * k0; omega) ?_
          refine cr_l (wo := fun u : (Nat → Option Nat) × Int32 × Int32 × cQ => cW g ty u.1 ac u.2.1 u.2.2.1 Z u.2.2.2) ((pl, u_16, md, P)) hx hb hr hlk hS hP hD ?_ dX11_answerOf_177
          exact Or.inr (Or.inr (Or.inr (Or.inl ⟨r_15, u_16, rfl, rfl, (by assumption), (by exact hq)⟩)))
        · show _
          by_cases e_17 : w0 = 4
          · show _
            refine lv_tableIn (off := 177) (tgt := 178) hx hb dX11_answerOf_1 (by rw [e_17]; decide) (by rw [e_17]; decide) (by rw [e_17]; decide) (by decide) ?_
            refine lv_aload_n hx hb dX11_answerOf_178 rfl (lv_at hl 0 rfl) ?_
            refine lv_iload_n hx hb dX11_answerOf_179 rfl (lv_at hl 2 rfl) ?_
            refine lv_iload_n hx hb dX11_answerOf_180 rfl (lv_at hl 3 rfl) ?_
            refine lv_iload hx hb dX11_answerOf_181 (lv_at hl 4 rfl) ?_
            refine cV_l (C := RX11) (n := 3) (rest := []) hx hb hml hown hg hT (c_X11_makeSheet l dC dI g ty s.heap.size pl ac ft md Z P k0 a0 b0 c0 wf (by exact fun h1 h2 h3 h4 => pre0 ⟨h1, h2, Or.inr (Or.inl ⟨by assumption, h3, h4⟩)⟩)) (cv_of hg wM_X11_172 wN_X11_makeSheet wL_X11_X11_makeSheet wK_X11_makeSheet wI_X11 (by decide +kernel) ⟨Nat.le_of_ble_eq_true rfl, Nat.le_of_ble_eq_true rfl⟩) hK hP hD hS hA (va_recv hK hP (ci := 13) (q0 := 0) rfl rfl) rfl hl.1 rfl (Nat.le_of_ble_eq_true rfl) dX11_answerOf_183 ⟨by show 0 + 18 * k0 ≤ 18 * k0; omega, by show 0 + 101 * k0 ≤ 101 * k0; omega⟩ (fun r_19 u_20 H locs q_18 hP hD hS => ?_)
            have hP : va_P (dC, dI) vwCl (cW g ty u_20.1 ac u_20.2.1 u_20.2.2.1 Z u_20.2.2.2) H := hP
            have hD : va_D A (cW g ty u_20.1 ac u_20.2.1 u_20.2.2.1 Z u_20.2.2.2) := hD
            have hq := q_18
            refine W.widen (k := 18 * k0) (n := 101 * k0) (by show 0 + 18 * k0 ≤ 18 * k0; omega) (by show 0 + 101 * k0 ≤ 101 * k0; omega) ?_
            refine cr_l (wo := fun u : (Nat → Option Nat) × Int32 × Int32 × cQ => cW g ty u.1 ac u.2.1 u.2.2.1 Z u.2.2.2) ((u_20.1, u_20.2.1, u_20.2.2.1, u_20.2.2.2)) hx hb hr hlk hS hP hD ?_ dX11_answerOf_186
            exact Or.inr (Or.inr (Or.inr (Or.inr (Or.inl ⟨r_19, u_20, rfl, rfl, (by assumption), (by exact hq)⟩))))
          · show _
            by_cases e_21 : w0 = 5
            · show _
              refine lv_tableIn (off := 186) (tgt := 187) hx hb dX11_answerOf_1 (by rw [e_21]; decide) (by rw [e_21]; decide) (by rw [e_21]; decide) (by decide) ?_
              refine lv_aload_n hx hb dX11_answerOf_187 rfl (lv_at hl 0 rfl) ?_
              refine lv_iload_n hx hb dX11_answerOf_188 rfl (lv_at hl 2 rfl) ?_
              refine lv_iload_n hx hb dX11_answerOf_189 rfl (lv_at hl 3 rfl) ?_
              refine lv_iload hx hb dX11_answerOf_190 (lv_at hl 4 rfl) ?_
              refine cV_q (C := RX11) (n := 3) (rest := []) hx hb hml hown hg hT (c_X11_sheetRow l dC dI g ty s.heap.size pl ac ft md Z P a0 b0 c0 wf ) (cv_of hg wM_X11_175 wN_X11_sheetRow wL_X11_X11_sheetRow wK_X11_sheetRow wI_X11 (by decide +kernel) ⟨Nat.le_of_ble_eq_true rfl, Nat.le_of_ble_eq_true rfl⟩) hK hP hD hS hA (va_recv hK hP (ci := 13) (q0 := 0) rfl rfl) rfl hl.1 rfl (Nat.le_of_ble_eq_true rfl) dX11_answerOf_192 ⟨by show 0 + 0 ≤ 18 * k0; omega, by show 0 + 0 ≤ 101 * k0; omega⟩ (fun r_23 u_24 H locs q_22 hP hD hS => ?_)
              rcases q_22 with ⟨rfl, rfl, f_25⟩ | ⟨t_26, rfl, rfl, f_27, f_28, f_29⟩ | ⟨rfl, rfl, f_30, f_31⟩ | ⟨t_32, y_33, rfl, rfl, f_34, f_35, f_36, f_37, f_38⟩ | ⟨t_39, y_40, rfl, rfl, f_41, f_42, f_43, f_44, f_45, f_46⟩ | ⟨t_47, y_48, q_49, z_50, rfl, rfl, f_51, f_52, f_53, f_54, f_55, f_56, f_57, f_58⟩ | ⟨t_59, y_60, q_61, z_62, rfl, rfl, f_63, f_64, f_65, f_66, f_67, f_68, f_69, f_70, f_71, f_72⟩
              · show _
                have hP : va_P (dC, dI) vwCl (cW g ty pl ac 2 md Z P) H := hP
                have hD : va_D A (cW g ty pl ac 2 md Z P) := hD
                refine lv_iload hx hb dX11_answerOf_195 (lv_at hl 4 rfl) ?_
                refine cS_l (n := 2) (rest := []) hx hb hml hown hg hT (c_X11_readCell l dC dI g ty H.size pl ac 2 md Z P none c0 wf (by first | exact nn_pre | exact (fun _ h9 => (Option.some.inj h9) ▸ ⟨by assumption, by assumption⟩))) (cb_of hg wM_X11_179 wK_X11_readCell wI_X11 (by decide +kernel) ⟨Nat.le_of_ble_eq_true rfl, Nat.le_of_ble_eq_true rfl⟩) wS_X11_readCell hK hP hD hS hA rfl hl.1 rfl (Nat.le_of_ble_eq_true rfl) dX11_answerOf_197 ⟨by show 0 + 0 + 0 ≤ 18 * k0; omega, by show 0 + 0 + 0 ≤ 101 * k0; omega⟩ (fun r_74 u_75 H locs q_73 hP hD hS => ?_)
                rcases q_73 with ⟨rfl, f_76⟩ | ⟨q_77, rfl, f_78, f_79⟩ | ⟨q_80, z_81, rfl, f_82, f_83, f_84⟩ | ⟨q_85, z_86, rfl, f_87, f_88, f_89⟩
                · show _
                  have hP : va_P (dC, dI) vwCl (cW g ty pl ac 2 md Z P) H := hP
                  have hD : va_D A (cW g ty pl ac 2 md Z P) := hD
                  refine W.widen (k := 18 * k0) (n := 101 * k0) (by show 0 + 0 + 0 ≤ 18 * k0; omega) (by show 0 + 0 + 0 ≤ 101 * k0; omega) ?_
                  refine cr_l (wo := fun u : (Nat → Option Nat) × Int32 × Int32 × cQ => cW g ty u.1 ac u.2.1 u.2.2.1 Z u.2.2.2) ((pl, 2, md, P)) hx hb hr hlk hS hP hD ?_ dX11_answerOf_200
                  first | exact Or.inr (Or.inr (Or.inr (Or.inr (Or.inr (Or.inl ⟨rfl, rfl, (by first | assumption | rfl | exact i64_ne (by assumption)), (by first | assumption | rfl | exact i64_ne (by assumption))⟩))))) | exact Or.inr (Or.inr (Or.inr (Or.inr (Or.inr (Or.inr (Or.inr (Or.inr (Or.inl ⟨_, _, rfl, rfl, (by first | assumption | rfl | exact i64_ne (by assumption)), (by first | assumption | rfl | exact i64_ne (by assumption)), (by first | assumption | rfl | exact i64_ne (by assumption)), (by first | assumption | rfl | exact i64_ne (by assumption)), (by first | assumption | rfl | exact i64_ne (by assumption)), (by first | assumption | rfl | exact i64_ne (by assumption))⟩)))))))) | exact Or.inr (Or.inr (Or.inr (Or.inr (Or.inr (Or.inr (Or.inr (Or.inr (Or.inr (Or.inr (Or.inl ⟨_, _, _, _, rfl, rfl, (by first | assumption | rfl | exact i64_ne (by assumption)), (by first | assumption | rfl | exact i64_ne (by assumption)), (by first | assumption | rfl | exact i64_ne (by assumption)), (by first | assumption | rfl | exact i64_ne (by assumption)), (by first | assumption | rfl | exact i64_ne (by assumption)), (by first | assumption | rfl | exact i64_ne (by assumption)), (by first | assumption | rfl | exact i64_ne (by assumption)), (by first | assumption | rfl | exact i64_ne (by assumption)), (by first | assumption | rfl | exact i64_ne (by assumption))⟩))))))))))
                · show _
                  cases f_78
                · show _
                  cases f_82
                · show _
                  cases f_87
              · show _
                have hP : va_P (dC, dI) vwCl (cW g ty pl ac 3 md Z P) H := hP
                have hD : va_D A (cW g ty pl ac 3 md Z P) := hD
                have th_90 := wf.1 _ _ f_28
                refine lv_iload hx hb dX11_answerOf_195 (lv_at hl 4 rfl) ?_
                refine cS_l (n := 2) (rest := []) hx hb hml hown hg hT (c_X11_readCell l dC dI g ty H.size pl ac 3 md Z P none c0 wf (by first | exact nn_pre | exact (fun _ h9 => (Option.some.inj h9) ▸ ⟨by assumption, by assumption⟩))) (cb_of hg wM_X11_179 wK_X11_readCell wI_X11 (by decide +kernel) ⟨Nat.le_of_ble_eq_true rfl, Nat.le_of_ble_eq_true rfl⟩) wS_X11_readCell hK hP hD hS hA rfl hl.1 rfl (Nat.le_of_ble_eq_true rfl) dX11_answerOf_197 ⟨by show 0 + 0 + 0 ≤ 18 * k0; omega, by show 0 + 0 + 0 ≤ 101 * k0; omega⟩ (fun r_92 u_93 H locs q_91 hP hD hS => ?_)
                rcases q_91 with ⟨rfl, f_94⟩ | ⟨q_95, rfl, f_96, f_97⟩ | ⟨q_98, z_99, rfl, f_100, f_101, f_102⟩ | ⟨q_103, z_104, rfl, f_105, f_106, f_107⟩
                · show _
                  have hP : va_P (dC, dI) vwCl (cW g ty pl ac 3 md Z P) H := hP
                  have hD : va_D A (cW g ty pl ac 3 md Z P) := hD
                  refine W.widen (k := 18 * k0) (n := 101 * k0) (by show 0 + 0 + 0 ≤ 18 * k0; omega) (by show 0 + 0 + 0 ≤ 101 * k0; omega) ?_
                  refine cr_l (wo := fun u : (Nat → Option Nat) × Int32 × Int32 × cQ => cW g ty u.1 ac u.2.1 u.2.2.1 Z u.2.2.2) ((pl, 3, md, P)) hx hb hr hlk hS hP hD ?_ dX11_answerOf_200
                  exact Or.inr (Or.inr (Or.inr (Or.inr (Or.inr (Or.inr (Or.inl ⟨_, rfl, rfl, (by first | assumption | rfl | exact i64_ne (by assumption)), (by first | assumption | rfl | exact i64_ne (by assumption)), (by first | assumption | rfl | exact i64_ne (by assumption)), (by first | assumption | rfl | exact i64_ne (by assumption))⟩))))))
                · show _
                  cases f_96
                · show _
                  cases f_100
                · show _
                  cases f_105
              · show _
                have hP : va_P (dC, dI) vwCl (cW g ty pl ac 1 md Z P) H := hP
                have hD : va_D A (cW g ty pl ac 1 md Z P) := hD
                refine lv_iload hx hb dX11_answerOf_195 (lv_at hl 4 rfl) ?_
                refine cS_l (n := 2) (rest := []) hx hb hml hown hg hT (c_X11_readCell l dC dI g ty H.size pl ac 1 md Z P none c0 wf (by first | exact nn_pre | exact (fun _ h9 => (Option.some.inj h9) ▸ ⟨by assumption, by assumption⟩))) (cb_of hg wM_X11_179 wK_X11_readCell wI_X11 (by decide +kernel) ⟨Nat.le_of_ble_eq_true rfl, Nat.le_of_ble_eq_true rfl⟩) wS_X11_readCell hK hP hD hS hA rfl hl.1 rfl (Nat.le_of_ble_eq_true rfl) dX11_answerOf_197 ⟨by show 0 + 0 + 0 ≤ 18 * k0; omega, by show 0 + 0 + 0 ≤ 101 * k0; omega⟩ (fun r_109 u_110 H locs q_108 hP hD hS => ?_)
                rcases q_108 with ⟨rfl, f_111⟩ | ⟨q_112, rfl, f_113, f_114⟩ | ⟨q_115, z_116, rfl, f_117, f_118, f_119⟩ | ⟨q_120, z_121, rfl, f_122, f_123, f_124⟩
                · show _
                  have hP : va_P (dC, dI) vwCl (cW g ty pl ac 1 md Z P) H := hP
                  have hD : va_D A (cW g ty pl ac 1 md Z P) := hD
                  refine W.widen (k := 18 * k0) (n := 101 * k0) (by show 0 + 0 + 0 ≤ 18 * k0; omega) (by show 0 + 0 + 0 ≤ 101 * k0; omega) ?_
                  refine cr_l (wo := fun u : (Nat → Option Nat) × Int32 × Int32 × cQ => cW g ty u.1 ac u.2.1 u.2.2.1 Z u.2.2.2) ((pl, 1, md, P)) hx hb hr hlk hS hP hD ?_ dX11_answerOf_200
                  first | exact Or.inr (Or.inr (Or.inr (Or.inr (Or.inr (Or.inr (Or.inr (Or.inl ⟨rfl, rfl, (by first | assumption | rfl | exact i64_ne (by assumption)), (by first | assumption | rfl | exact i64_ne (by assumption)), (by first | assumption | rfl | exact i64_ne (by assumption))⟩))))))) | exact Or.inr (Or.inr (Or.inr (Or.inr (Or.inr (Or.inr (Or.inr (Or.inr (Or.inr (Or.inl ⟨_, _, rfl, rfl, (by first | assumption | rfl | exact i64_ne (by assumption)), (by first | assumption | rfl | exact i64_ne (by assumption)), (by first | assumption | rfl | exact i64_ne (by assumption)), (by first | assumption | rfl | exact i64_ne (by assumption)), (by first | assumption | rfl | exact i64_ne (by assumption)), (by first | assumption | rfl | exact i64_ne (by assumption)), (by first | assumption | rfl | exact i64_ne (by assumption))⟩)))))))))
                · show _
                  cases f_113
                · show _
                  cases f_117
                · show _
                  cases f_122
              · show _
                have hP : va_P (dC, dI) vwCl (cW g ty pl ac 2 md Z P) H := hP
                have hD : va_D A (cW g ty pl ac 2 md Z P) := hD
                have th_125 := wf.1 _ _ f_35
                refine lv_iload hx hb dX11_answerOf_195 (lv_at hl 4 rfl) ?_
                refine cS_l (n := 2) (rest := []) hx hb hml hown hg hT (c_X11_readCell l dC dI g ty H.size pl ac 2 md Z P none c0 wf (by first | exact nn_pre | exact (fun _ h9 => (Option.some.inj h9) ▸ ⟨by assumption, by assumption⟩))) (cb_of hg wM_X11_179 wK_X11_readCell wI_X11 (by decide +kernel) ⟨Nat.le_of_ble_eq_true rfl, Nat.le_of_ble_eq_true rfl⟩) wS_X11_readCell hK hP hD hS hA rfl hl.1 rfl (Nat.le_of_ble_eq_true rfl) dX11_answerOf_197 ⟨by show 0 + 0 + 0 ≤ 18 * k0; omega, by show 0 + 0 + 0 ≤ 101 * k0; omega⟩ (fun r_127 u_128 H locs q_126 hP hD hS => ?_)
                rcases q_126 with ⟨rfl, f_129⟩ | ⟨q_130, rfl, f_131, f_132⟩ | ⟨q_133, z_134, rfl, f_135, f_136, f_137⟩ | ⟨q_138, z_139, rfl, f_140, f_141, f_142⟩
                · show _
                  have hP : va_P (dC, dI) vwCl (cW g ty pl ac 2 md Z P) H := hP
                  have hD : va_D A (cW g ty pl ac 2 md Z P) := hD
                  refine W.widen (k := 18 * k0) (n := 101 * k0) (by show 0 + 0 + 0 ≤ 18 * k0; omega) (by show 0 + 0 + 0 ≤ 101 * k0; omega) ?_
                  refine cr_l (wo := fun u : (Nat → Option Nat) × Int32 × Int32 × cQ => cW g ty u.1 ac u.2.1 u.2.2.1 Z u.2.2.2) ((pl, 2, md, P)) hx hb hr hlk hS hP hD ?_ dX11_answerOf_200
                  first | exact Or.inr (Or.inr (Or.inr (Or.inr (Or.inr (Or.inl ⟨rfl, rfl, (by first | assumption | rfl | exact i64_ne (by assumption)), (by first | assumption | rfl | exact i64_ne (by assumption))⟩))))) | exact Or.inr (Or.inr (Or.inr (Or.inr (Or.inr (Or.inr (Or.inr (Or.inr (Or.inl ⟨_, _, rfl, rfl, (by first | assumption | rfl | exact i64_ne (by assumption)), (by first | assumption | rfl | exact i64_ne (by assumption)), (by first | assumption | rfl | exact i64_ne (by assumption)), (by first | assumption | rfl | exact i64_ne (by assumption)), (by first | assumption | rfl | exact i64_ne (by assumption)), (by first | assumption | rfl | exact i64_ne (by assumption))⟩)))))))) | exact Or.inr (Or.inr (Or.inr (Or.inr (Or.inr (Or.inr (Or.inr (Or.inr (Or.inr (Or.inr (Or.inl ⟨_, _, _, _, rfl, rfl, (by first | assumption | rfl | exact i64_ne (by assumption)), (by first | assumption | rfl | exact i64_ne (by assumption)), (by first | assumption | rfl | exact i64_ne (by assumption)), (by first | assumption | rfl | exact i64_ne (by assumption)), (by first | assumption | rfl | exact i64_ne (by assumption)), (by first | assumption | rfl | exact i64_ne (by assumption)), (by first | assumption | rfl | exact i64_ne (by assumption)), (by first | assumption | rfl | exact i64_ne (by assumption)), (by first | assumption | rfl | exact i64_ne (by assumption))⟩))))))))))
                · show _
                  cases f_131
                · show _
                  cases f_135
                · show _
                  cases f_140
              · show _
                have hP : va_P (dC, dI) vwCl (cW g ty pl ac 1 md Z P) H := hP
                have hD : va_D A (cW g ty pl ac 1 md Z P) := hD
                have th_143 := wf.1 _ _ f_42
                refine lv_iload hx hb dX11_answerOf_195 (lv_at hl 4 rfl) ?_
                refine cS_l (n := 2) (rest := []) hx hb hml hown hg hT (c_X11_readCell l dC dI g ty H.size pl ac 1 md Z P none c0 wf (by first | exact nn_pre | exact (fun _ h9 => (Option.some.inj h9) ▸ ⟨by assumption, by assumption⟩))) (cb_of hg wM_X11_179 wK_X11_readCell wI_X11 (by decide +kernel) ⟨Nat.le_of_ble_eq_true rfl, Nat.le_of_ble_eq_true rfl⟩) wS_X11_readCell hK hP hD hS hA rfl hl.1 rfl (Nat.le_of_ble_eq_true rfl) dX11_answerOf_197 ⟨by show 0 + 0 + 0 ≤ 18 * k0; omega, by show 0 + 0 + 0 ≤ 101 * k0; omega⟩ (fun r_145 u_146 H locs q_144 hP hD hS => ?_)
                rcases q_144 with ⟨rfl, f_147⟩ | ⟨q_148, rfl, f_149, f_150⟩ | ⟨q_151, z_152, rfl, f_153, f_154, f_155⟩ | ⟨q_156, z_157, rfl, f_158, f_159, f_160⟩
                · show _
                  have hP : va_P (dC, dI) vwCl (cW g ty pl ac 1 md Z P) H := hP
                  have hD : va_D A (cW g ty pl ac 1 md Z P) := hD
                  refine W.widen (k := 18 * k0) (n := 101 * k0) (by show 0 + 0 + 0 ≤ 18 * k0; omega) (by show 0 + 0 + 0 ≤ 101 * k0; omega) ?_
                  refine cr_l (wo := fun u : (Nat → Option Nat) × Int32 × Int32 × cQ => cW g ty u.1 ac u.2.1 u.2.2.1 Z u.2.2.2) ((pl, 1, md, P)) hx hb hr hlk hS hP hD ?_ dX11_answerOf_200
                  first | exact Or.inr (Or.inr (Or.inr (Or.inr (Or.inr (Or.inr (Or.inr (Or.inl ⟨rfl, rfl, (by first | assumption | rfl | exact i64_ne (by assumption)), (by first | assumption | rfl | exact i64_ne (by assumption)), (by first | assumption | rfl | exact i64_ne (by assumption))⟩))))))) | exact Or.inr (Or.inr (Or.inr (Or.inr (Or.inr (Or.inr (Or.inr (Or.inr (Or.inr (Or.inl ⟨_, _, rfl, rfl, (by first | assumption | rfl | exact i64_ne (by assumption)), (by first | assumption | rfl | exact i64_ne (by assumption)), (by first | assumption | rfl | exact i64_ne (by assumption)), (by first | assumption | rfl | exact i64_ne (by assumption)), (by first | assumption | rfl | exact i64_ne (by assumption)), (by first | assumption | rfl | exact i64_ne (by assumption)), (by first | assumption | rfl | exact i64_ne (by assumption))⟩)))))))))
                · show _
                  cases f_149
                · show _
                  cases f_153
                · show _
                  cases f_158
              · show _
                have hP : va_P (dC, dI) vwCl (cW g ty pl ac 2 md Z P) H := hP
                have hD : va_D A (cW g ty pl ac 2 md Z P) := hD
                have th_161 := wf.1 _ _ f_52
                refine lv_iload hx hb dX11_answerOf_195 (lv_at hl 4 rfl) ?_
                refine cS_l (n := 2) (rest := []) hx hb hml hown hg hT (c_X11_readCell l dC dI g ty H.size pl ac 2 md Z P none c0 wf (by first | exact nn_pre | exact (fun _ h9 => (Option.some.inj h9) ▸ ⟨by assumption, by assumption⟩))) (cb_of hg wM_X11_179 wK_X11_readCell wI_X11 (by decide +kernel) ⟨Nat.le_of_ble_eq_true rfl, Nat.le_of_ble_eq_true rfl⟩) wS_X11_readCell hK hP hD hS hA rfl hl.1 rfl (Nat.le_of_ble_eq_true rfl) dX11_answerOf_197 ⟨by show 0 + 0 + 0 ≤ 18 * k0; omega, by show 0 + 0 + 0 ≤ 101 * k0; omega⟩ (fun r_163 u_164 H locs q_162 hP hD hS => ?_)
                rcases q_162 with ⟨rfl, f_165⟩ | ⟨q_166, rfl, f_167, f_168⟩ | ⟨q_169, z_170, rfl, f_171, f_172, f_173⟩ | ⟨q_174, z_175, rfl, f_176, f_177, f_178⟩
                · show _
                  have hP : va_P (dC, dI) vwCl (cW g ty pl ac 2 md Z P) H := hP
                  have hD : va_D A (cW g ty pl ac 2 md Z P) := hD
                  refine W.widen (k := 18 * k0) (n := 101 * k0) (by show 0 + 0 + 0 ≤ 18 * k0; omega) (by show 0 + 0 + 0 ≤ 101 * k0; omega) ?_
                  refine cr_l (wo := fun u : (Nat → Option Nat) × Int32 × Int32 × cQ => cW g ty u.1 ac u.2.1 u.2.2.1 Z u.2.2.2) ((pl, 2, md, P)) hx hb hr hlk hS hP hD ?_ dX11_answerOf_200
                  first | exact Or.inr (Or.inr (Or.inr (Or.inr (Or.inr (Or.inl ⟨rfl, rfl, (by first | assumption | rfl | exact i64_ne (by assumption)), (by first | assumption | rfl | exact i64_ne (by assumption))⟩))))) | exact Or.inr (Or.inr (Or.inr (Or.inr (Or.inr (Or.inr (Or.inr (Or.inr (Or.inl ⟨_, _, rfl, rfl, (by first | assumption | rfl | exact i64_ne (by assumption)), (by first | assumption | rfl | exact i64_ne (by assumption)), (by first | assumption | rfl | exact i64_ne (by assumption)), (by first | assumption | rfl | exact i64_ne (by assumption)), (by first | assumption | rfl | exact i64_ne (by assumption)), (by first | assumption | rfl | exact i64_ne (by assumption))⟩)))))))) | exact Or.inr (Or.inr (Or.inr (Or.inr (Or.inr (Or.inr (Or.inr (Or.inr (Or.inr (Or.inr (Or.inl ⟨_, _, _, _, rfl, rfl, (by first | assumption | rfl | exact i64_ne (by assumption)), (by first | assumption | rfl | exact i64_ne (by assumption)), (by first | assumption | rfl | exact i64_ne (by assumption)), (by first | assumption | rfl | exact i64_ne (by assumption)), (by first | assumption | rfl | exact i64_ne (by assumption)), (by first | assumption | rfl | exact i64_ne (by assumption)), (by first | assumption | rfl | exact i64_ne (by assumption)), (by first | assumption | rfl | exact i64_ne (by assumption)), (by first | assumption | rfl | exact i64_ne (by assumption))⟩))))))))))
                · show _
                  cases f_167
                · show _
                  cases f_171
                · show _
                  cases f_176
              · show _
                have hP : va_P (dC, dI) vwCl (cW g ty pl ac ft md Z P) H := hP
                have hD : va_D A (cW g ty pl ac ft md Z P) := hD
                have th_179 := wf.1 _ _ f_64
                refine lv_iload hx hb dX11_answerOf_195 (lv_at hl 4 rfl) ?_
                refine cS_l (n := 2) (rest := []) hx hb hml hown hg hT (c_X11_readCell l dC dI g ty H.size pl ac ft md Z P (some q_61) c0 wf (by first | exact nn_pre | exact (fun _ h9 => (Option.some.inj h9) ▸ ⟨by assumption, by assumption⟩))) (cb_of hg wM_X11_179 wK_X11_readCell wI_X11 (by decide +kernel) ⟨Nat.le_of_ble_eq_true rfl, Nat.le_of_ble_eq_true rfl⟩) wS_X11_readCell hK hP hD hS hA rfl hl.1 rfl (Nat.le_of_ble_eq_true rfl) dX11_answerOf_197 ⟨by show 0 + 0 + 0 ≤ 18 * k0; omega, by show 0 + 0 + 0 ≤ 101 * k0; omega⟩ (fun r_181 u_182 H locs q_180 hP hD hS => ?_)
                rcases q_180 with ⟨rfl, f_183⟩ | ⟨q_184, rfl, f_185, f_186⟩ | ⟨q_187, z_188, rfl, f_189, f_190, f_191⟩ | ⟨q_192, z_193, rfl, f_194, f_195, f_196⟩
                · show _
                  cases f_183
                · show _
                  exact absurd (by assumption) (cin_ng f_186)
                · show _
                  obtain rfl := Option.some.inj f_189; obtain rfl := Option.some.inj (f_69.symm.trans f_190); exact absurd (by assumption) f_191
                · show _
                  obtain rfl := Option.some.inj f_194
                  have hP : va_P (dC, dI) vwCl (cW g ty pl ac ft md Z P) H := hP
                  have hD : va_D A (cW g ty pl ac ft md Z P) := hD
                  refine W.widen (k := 18 * k0) (n := 101 * k0) (by show 0 + 0 + 0 ≤ 18 * k0; omega) (by show 0 + 0 + 0 ≤ 101 * k0; omega) ?_
                  refine cr_l (wo := fun u : (Nat → Option Nat) × Int32 × Int32 × cQ => cW g ty u.1 ac u.2.1 u.2.2.1 Z u.2.2.2) ((pl, ft, md, P)) hx hb hr hlk hS hP hD ?_ dX11_answerOf_200
                  exact Or.inr (Or.inr (Or.inr (Or.inr (Or.inr (Or.inr (Or.inr (Or.inr (Or.inr (Or.inr (Or.inr (Or.inl ⟨_, _, _, _, rfl, rfl, (by first | assumption | rfl | exact i64_ne (by assumption)), (by first | assumption | rfl | exact i64_ne (by assumption)), (by first | assumption | rfl | exact i64_ne (by assumption)), (by first | assumption | rfl | exact i64_ne (by assumption)), (by first | assumption | rfl | exact i64_ne (by assumption)), (by first | assumption | rfl | exact i64_ne (by assumption)), (by first | assumption | rfl | exact i64_ne (by assumption)), (by first | assumption | rfl | exact i64_ne (by assumption)), (by first | assumption | rfl | exact i64_ne (by assumption)), (by first | assumption | rfl | exact i64_ne (by assumption)), (by first | assumption | rfl | exact i64_ne (by assumption))⟩)))))))))))
            · show _
              by_cases e_197 : w0 = 6
              · show _
                refine lv_tableIn (off := 200) (tgt := 201) hx hb dX11_answerOf_1 (by rw [e_197]; decide) (by rw [e_197]; decide) (by rw [e_197]; decide) (by decide) ?_
                refine lv_aload_n hx hb dX11_answerOf_201 rfl (lv_at hl 0 rfl) ?_
                refine lv_aload_n hx hb dX11_answerOf_202 rfl (lv_at hl 0 rfl) ?_
                refine lv_iload_n hx hb dX11_answerOf_203 rfl (lv_at hl 2 rfl) ?_
                refine lv_iload_n hx hb dX11_answerOf_204 rfl (lv_at hl 3 rfl) ?_
                refine lv_iload hx hb dX11_answerOf_205 (lv_at hl 4 rfl) ?_
                refine cV_q (C := RX11) (n := 3) (rest := [.ref (g 0)]) hx hb hml hown hg hT (c_X11_sheetRow l dC dI g ty s.heap.size pl ac ft md Z P a0 b0 c0 wf ) (cv_of hg wM_X11_175 wN_X11_sheetRow wL_X11_X11_sheetRow wK_X11_sheetRow wI_X11 (by decide +kernel) ⟨Nat.le_of_ble_eq_true rfl, Nat.le_of_ble_eq_true rfl⟩) hK hP hD hS hA (va_recv hK hP (ci := 13) (q0 := 0) rfl rfl) rfl hl.1 rfl (Nat.le_of_ble_eq_true rfl) dX11_answerOf_207 ⟨by show 0 + 0 ≤ 18 * k0; omega, by show 0 + 0 ≤ 101 * k0; omega⟩ (fun r_199 u_200 H locs q_198 hP hD hS => ?_)
                rcases q_198 with ⟨rfl, rfl, f_201⟩ | ⟨t_202, rfl, rfl, f_203, f_204, f_205⟩ | ⟨rfl, rfl, f_206, f_207⟩ | ⟨t_208, y_209, rfl, rfl, f_210, f_211, f_212, f_213, f_214⟩ | ⟨t_215, y_216, rfl, rfl, f_217, f_218, f_219, f_220, f_221, f_222⟩ | ⟨t_223, y_224, q_225, z_226, rfl, rfl, f_227, f_228, f_229, f_230, f_231, f_232, f_233, f_234⟩ | ⟨t_235, y_236, q_237, z_238, rfl, rfl, f_239, f_240, f_241, f_242, f_243, f_244, f_245, f_246, f_247, f_248⟩
                · show _
                  have hP : va_P (dC, dI) vwCl (cW g ty pl ac 2 md Z P) H := hP
                  have hD : va_D A (cW g ty pl ac 2 md Z P) := hD
                  refine lv_iload hx hb dX11_answerOf_210 (lv_at hl 4 rfl) ?_
                  refine cV_l (C := RX11) (n := 2) (rest := []) hx hb hml hown hg hT (c_X11_markCell l dC dI g ty H.size pl ac 2 md Z P none c0 wf (by first | exact nn_pre | exact (fun _ h9 => (Option.some.inj h9) ▸ ⟨by assumption, by assumption⟩))) (cv_of hg wM_X11_183 wN_X11_markCell wL_X11_X11_markCell wK_X11_markCell wI_X11 (by decide +kernel) ⟨Nat.le_of_ble_eq_true rfl, Nat.le_of_ble_eq_true rfl⟩) hK hP hD hS hA (va_recv hK hP (ci := 13) (q0 := 0) rfl rfl) rfl hl.1 rfl (Nat.le_of_ble_eq_true rfl) dX11_answerOf_212 ⟨by show 0 + 0 + 0 ≤ 18 * k0; omega, by show 0 + 0 + 0 ≤ 101 * k0; omega⟩ (fun r_250 u_251 H locs q_249 hP hD hS => ?_)
                  rcases q_249 with ⟨rfl, rfl, f_252⟩ | ⟨q_253, rfl, rfl, f_254, f_255⟩ | ⟨q_256, z_257, rfl, rfl, f_258, f_259, f_260⟩ | ⟨q_261, z_262, rfl, rfl, f_263, f_264, f_265⟩
                  · show _
                    have hP : va_P (dC, dI) vwCl (cW g ty pl ac 2 md Z P) H := hP
                    have hD : va_D A (cW g ty pl ac 2 md Z P) := hD
                    refine W.widen (k := 18 * k0) (n := 101 * k0) (by show 0 + 0 + 0 ≤ 18 * k0; omega) (by show 0 + 0 + 0 ≤ 101 * k0; omega) ?_
                    refine cr_l (wo := fun u : (Nat → Option Nat) × Int32 × Int32 × cQ => cW g ty u.1 ac u.2.1 u.2.2.1 Z u.2.2.2) ((pl, 2, md, P)) hx hb hr hlk hS hP hD ?_ dX11_answerOf_215
                    first | exact Or.inr (Or.inr (Or.inr (Or.inr (Or.inr (Or.inr (Or.inr (Or.inr (Or.inr (Or.inr (Or.inr (Or.inr (Or.inl ⟨rfl, rfl, (by first | assumption | rfl | exact i64_ne (by assumption)), (by first | assumption | rfl | exact i64_ne (by assumption))⟩)))))))))))) | exact Or.inr (Or.inr (Or.inr (Or.inr (Or.inr (Or.inr (Or.inr (Or.inr (Or.inr (Or.inr (Or.inr (Or.inr (Or.inr (Or.inr (Or.inr (Or.inl ⟨_, _, rfl, rfl, (by first | assumption | rfl | exact i64_ne (by assumption)), (by first | assumption | rfl | exact i64_ne (by assumption)), (by first | assumption | rfl | exact i64_ne (by assumption)), (by first | assumption | rfl | exact i64_ne (by assumption)), (by first | assumption | rfl | exact i64_ne (by assumption)), (by first | assumption | rfl | exact i64_ne (by assumption))⟩))))))))))))))) | exact Or.inr (Or.inr (Or.inr (Or.inr (Or.inr (Or.inr (Or.inr (Or.inr (Or.inr (Or.inr (Or.inr (Or.inr (Or.inr (Or.inr (Or.inr (Or.inr (Or.inr (Or.inl ⟨_, _, _, _, rfl, rfl, (by first | assumption | rfl | exact i64_ne (by assumption)), (by first | assumption | rfl | exact i64_ne (by assumption)), (by first | assumption | rfl | exact i64_ne (by assumption)), (by first | assumption | rfl | exact i64_ne (by assumption)), (by first | assumption | rfl | exact i64_ne (by assumption)), (by first | assumption | rfl | exact i64_ne (by assumption)), (by first | assumption | rfl | exact i64_ne (by assumption)), (by first | assumption | rfl | exact i64_ne (by assumption)), (by first | assumption | rfl | exact i64_ne (by assumption))⟩)))))))))))))))))
                  · show _
                    cases f_254
                  · show _
                    cases f_258
                  · show _
                    cases f_263
                · show _
                  have hP : va_P (dC, dI) vwCl (cW g ty pl ac 3 md Z P) H := hP
                  have hD : va_D A (cW g ty pl ac 3 md Z P) := hD
                  have th_266 := wf.1 _ _ f_204
                  refine lv_iload hx hb dX11_answerOf_210 (lv_at hl 4 rfl) ?_
                  refine cV_l (C := RX11) (n := 2) (rest := []) hx hb hml hown hg hT (c_X11_markCell l dC dI g ty H.size pl ac 3 md Z P none c0 wf (by first | exact nn_pre | exact (fun _ h9 => (Option.some.inj h9) ▸ ⟨by assumption, by assumption⟩))) (cv_of hg wM_X11_183 wN_X11_markCell wL_X11_X11_markCell wK_X11_markCell wI_X11 (by decide +kernel) ⟨Nat.le_of_ble_eq_true rfl, Nat.le_of_ble_eq_true rfl⟩) hK hP hD hS hA (va_recv hK hP (ci := 13) (q0 := 0) rfl rfl) rfl hl.1 rfl (Nat.le_of_ble_eq_true rfl) dX11_answerOf_212 ⟨by show 0 + 0 + 0 ≤ 18 * k0; omega, by show 0 + 0 + 0 ≤ 101 * k0; omega⟩ (fun r_268 u_269 H locs q_267 hP hD hS => ?_)
                  rcases q_267 with ⟨rfl, rfl, f_270⟩ | ⟨q_271, rfl, rfl, f_272, f_273⟩ | ⟨q_274, z_275, rfl, rfl, f_276, f_277, f_278⟩ | ⟨q_279, z_280, rfl, rfl, f_281, f_282, f_283⟩
                  · show _
                    have hP : va_P (dC, dI) vwCl (cW g ty pl ac 3 md Z P) H := hP
                    have hD : va_D A (cW g ty pl ac 3 md Z P) := hD
                    refine W.widen (k := 18 * k0) (n := 101 * k0) (by show 0 + 0 + 0 ≤ 18 * k0; omega) (by show 0 + 0 + 0 ≤ 101 * k0; omega) ?_
                    refine cr_l (wo := fun u : (Nat → Option Nat) × Int32 × Int32 × cQ => cW g ty u.1 ac u.2.1 u.2.2.1 Z u.2.2.2) ((pl, 3, md, P)) hx hb hr hlk hS hP hD ?_ dX11_answerOf_215
                    exact Or.inr (Or.inr (Or.inr (Or.inr (Or.inr (Or.inr (Or.inr (Or.inr (Or.inr (Or.inr (Or.inr (Or.inr (Or.inr (Or.inl ⟨_, rfl, rfl, (by first | assumption | rfl | exact i64_ne (by assumption)), (by first | assumption | rfl | exact i64_ne (by assumption)), (by first | assumption | rfl | exact i64_ne (by assumption)), (by first | assumption | rfl | exact i64_ne (by assumption))⟩)))))))))))))
                  · show _
                    cases f_272
                  · show _
                    cases f_276
                  · show _
                    cases f_281
                · show _
                  have hP : va_P (dC, dI) vwCl (cW g ty pl ac 1 md Z P) H := hP
                  have hD : va_D A (cW g ty pl ac 1 md Z P) := hD
                  refine lv_iload hx hb dX11_answerOf_210 (lv_at hl 4 rfl) ?_
                  refine cV_l (C := RX11) (n := 2) (rest := []) hx hb hml hown hg hT (c_X11_markCell l dC dI g ty H.size pl ac 1 md Z P none c0 wf (by first | exact nn_pre | exact (fun _ h9 => (Option.some.inj h9) ▸ ⟨by assumption, by assumption⟩))) (cv_of hg wM_X11_183 wN_X11_markCell wL_X11_X11_markCell wK_X11_markCell wI_X11 (by decide +kernel) ⟨Nat.le_of_ble_eq_true rfl, Nat.le_of_ble_eq_true rfl⟩) hK hP hD hS hA (va_recv hK hP (ci := 13) (q0 := 0) rfl rfl) rfl hl.1 rfl (Nat.le_of_ble_eq_true rfl) dX11_answerOf_212 ⟨by show 0 + 0 + 0 ≤ 18 * k0; omega, by show 0 + 0 + 0 ≤ 101 * k0; omega⟩ (fun r_285 u_286 H locs q_284 hP hD hS => ?_)
                  rcases q_284 with ⟨rfl, rfl, f_287⟩ | ⟨q_288, rfl, rfl, f_289, f_290⟩ | ⟨q_291, z_292, rfl, rfl, f_293, f_294, f_295⟩ | ⟨q_296, z_297, rfl, rfl, f_298, f_299, f_300⟩
                  · show _
                    have hP : va_P (dC, dI) vwCl (cW g ty pl ac 1 md Z P) H := hP
                    have hD : va_D A (cW g ty pl ac 1 md Z P) := hD
                    refine W.widen (k := 18 * k0) (n := 101 * k0) (by show 0 + 0 + 0 ≤ 18 * k0; omega) (by show 0 + 0 + 0 ≤ 101 * k0; omega) ?_
                    refine cr_l (wo := fun u : (Nat → Option Nat) × Int32 × Int32 × cQ => cW g ty u.1 ac u.2.1 u.2.2.1 Z u.2.2.2) ((pl, 1, md, P)) hx hb hr hlk hS hP hD ?_ dX11_answerOf_215
                    first | exact Or.inr (Or.inr (Or.inr (Or.inr (Or.inr (Or.inr (Or.inr (Or.inr (Or.inr (Or.inr (Or.inr (Or.inr (Or.inr (Or.inr (Or.inl ⟨rfl, rfl, (by first | assumption | rfl | exact i64_ne (by assumption)), (by first | assumption | rfl | exact i64_ne (by assumption)), (by first | assumption | rfl | exact i64_ne (by assumption))⟩)))))))))))))) | exact Or.inr (Or.inr (Or.inr (Or.inr (Or.inr (Or.inr (Or.inr (Or.inr (Or.inr (Or.inr (Or.inr (Or.inr (Or.inr (Or.inr (Or.inr (Or.inr (Or.inl ⟨_, _, rfl, rfl, (by first | assumption | rfl | exact i64_ne (by assumption)), (by first | assumption | rfl | exact i64_ne (by assumption)), (by first | assumption | rfl | exact i64_ne (by assumption)), (by first | assumption | rfl | exact i64_ne (by assumption)), (by first | assumption | rfl | exact i64_ne (by assumption)), (by first | assumption | rfl | exact i64_ne (by assumption)), (by first | assumption | rfl | exact i64_ne (by assumption))⟩))))))))))))))))
                  · show _
                    cases f_289
                  · show _
                    cases f_293
                  · show _
                    cases f_298
                · show _
                  have hP : va_P (dC, dI) vwCl (cW g ty pl ac 2 md Z P) H := hP
                  have hD : va_D A (cW g ty pl ac 2 md Z P) := hD
                  have th_301 := wf.1 _ _ f_211
                  refine lv_iload hx hb dX11_answerOf_210 (lv_at hl 4 rfl) ?_
                  refine cV_l (C := RX11) (n := 2) (rest := []) hx hb hml hown hg hT (c_X11_markCell l dC dI g ty H.size pl ac 2 md Z P none c0 wf (by first | exact nn_pre | exact (fun _ h9 => (Option.some.inj h9) ▸ ⟨by assumption, by assumption⟩))) (cv_of hg wM_X11_183 wN_X11_markCell wL_X11_X11_markCell wK_X11_markCell wI_X11 (by decide +kernel) ⟨Nat.le_of_ble_eq_true rfl, Nat.le_of_ble_eq_true rfl⟩) hK hP hD hS hA (va_recv hK hP (ci := 13) (q0 := 0) rfl rfl) rfl hl.1 rfl (Nat.le_of_ble_eq_true rfl) dX11_answerOf_212 ⟨by show 0 + 0 + 0 ≤ 18 * k0; omega, by show 0 + 0 + 0 ≤ 101 * k0; omega⟩ (fun r_303 u_304 H locs q_302 hP hD hS => ?_)
                  rcases q_302 with ⟨rfl, rfl, f_305⟩ | ⟨q_306, rfl, rfl, f_307, f_308⟩ | ⟨q_309, z_310, rfl, rfl, f_311, f_312, f_313⟩ | ⟨q_314, z_315, rfl, rfl, f_316, f_317, f_318⟩
                  · show _
                    have hP : va_P (dC, dI) vwCl (cW g ty pl ac 2 md Z P) H := hP
                    have hD : va_D A (cW g ty pl ac 2 md Z P) := hD
                    refine W.widen (k := 18 * k0) (n := 101 * k0) (by show 0 + 0 + 0 ≤ 18 * k0; omega) (by show 0 + 0 + 0 ≤ 101 * k0; omega) ?_
                    refine cr_l (wo := fun u : (Nat → Option Nat) × Int32 × Int32 × cQ => cW g ty u.1 ac u.2.1 u.2.2.1 Z u.2.2.2) ((pl, 2, md, P)) hx hb hr hlk hS hP hD ?_ dX11_answerOf_215
                    first | exact Or.inr (Or.inr (Or.inr (Or.inr (Or.inr (Or.inr (Or.inr (Or.inr (Or.inr (Or.inr (Or.inr (Or.inr (Or.inl ⟨rfl, rfl, (by first | assumption | rfl | exact i64_ne (by assumption)), (by first | assumption | rfl | exact i64_ne (by assumption))⟩)))))))))))) | exact Or.inr (Or.inr (Or.inr (Or.inr (Or.inr (Or.inr (Or.inr (Or.inr (Or.inr (Or.inr (Or.inr (Or.inr (Or.inr (Or.inr (Or.inr (Or.inl ⟨_, _, rfl, rfl, (by first | assumption | rfl | exact i64_ne (by assumption)), (by first | assumption | rfl | exact i64_ne (by assumption)), (by first | assumption | rfl | exact i64_ne (by assumption)), (by first | assumption | rfl | exact i64_ne (by assumption)), (by first | assumption | rfl | exact i64_ne (by assumption)), (by first | assumption | rfl | exact i64_ne (by assumption))⟩))))))))))))))) | exact Or.inr (Or.inr (Or.inr (Or.inr (Or.inr (Or.inr (Or.inr (Or.inr (Or.inr (Or.inr (Or.inr (Or.inr (Or.inr (Or.inr (Or.inr (Or.inr (Or.inr (Or.inl ⟨_, _, _, _, rfl, rfl, (by first | assumption | rfl | exact i64_ne (by assumption)), (by first | assumption | rfl | exact i64_ne (by assumption)), (by first | assumption | rfl | exact i64_ne (by assumption)), (by first | assumption | rfl | exact i64_ne (by assumption)), (by first | assumption | rfl | exact i64_ne (by assumption)), (by first | assumption | rfl | exact i64_ne (by assumption)), (by first | assumption | rfl | exact i64_ne (by assumption)), (by first | assumption | rfl | exact i64_ne (by assumption)), (by first | assumption | rfl | exact i64_ne (by assumption))⟩)))))))))))))))))
                  · show _
                    cases f_307
                  · show _
                    cases f_311
                  · show _
                    cases f_316
                · show _
                  have hP : va_P (dC, dI) vwCl (cW g ty pl ac 1 md Z P) H := hP
                  have hD : va_D A (cW g ty pl ac 1 md Z P) := hD
                  have th_319 := wf.1 _ _ f_218
                  refine lv_iload hx hb dX11_answerOf_210 (lv_at hl 4 rfl) ?_
                  refine cV_l (C := RX11) (n := 2) (rest := []) hx hb hml hown hg hT (c_X11_markCell l dC dI g ty H.size pl ac 1 md Z P none c0 wf (by first | exact nn_pre | exact (fun _ h9 => (Option.some.inj h9) ▸ ⟨by assumption, by assumption⟩))) (cv_of hg wM_X11_183 wN_X11_markCell wL_X11_X11_markCell wK_X11_markCell wI_X11 (by decide +kernel) ⟨Nat.le_of_ble_eq_true rfl, Nat.le_of_ble_eq_true rfl⟩) hK hP hD hS hA (va_recv hK hP (ci := 13) (q0 := 0) rfl rfl) rfl hl.1 rfl (Nat.le_of_ble_eq_true rfl) dX11_answerOf_212 ⟨by show 0 + 0 + 0 ≤ 18 * k0; omega, by show 0 + 0 + 0 ≤ 101 * k0; omega⟩ (fun r_321 u_322 H locs q_320 hP hD hS => ?_)
                  rcases q_320 with ⟨rfl, rfl, f_323⟩ | ⟨q_324, rfl, rfl, f_325, f_326⟩ | ⟨q_327, z_328, rfl, rfl, f_329, f_330, f_331⟩ | ⟨q_332, z_333, rfl, rfl, f_334, f_335, f_336⟩
                  · show _
                    have hP : va_P (dC, dI) vwCl (cW g ty pl ac 1 md Z P) H := hP
                    have hD : va_D A (cW g ty pl ac 1 md Z P) := hD
                    refine W.widen (k := 18 * k0) (n := 101 * k0) (by show 0 + 0 + 0 ≤ 18 * k0; omega) (by show 0 + 0 + 0 ≤ 101 * k0; omega) ?_
                    refine cr_l (wo := fun u : (Nat → Option Nat) × Int32 × Int32 × cQ => cW g ty u.1 ac u.2.1 u.2.2.1 Z u.2.2.2) ((pl, 1, md, P)) hx hb hr hlk hS hP hD ?_ dX11_answerOf_215
                    first | exact Or.inr (Or.inr (Or.inr (Or.inr (Or.inr (Or.inr (Or.inr (Or.inr (Or.inr (Or.inr (Or.inr (Or.inr (Or.inr (Or.inr (Or.inl ⟨rfl, rfl, (by first | assumption | rfl | exact i64_ne (by assumption)), (by first | assumption | rfl | exact i64_ne (by assumption)), (by first | assumption | rfl | exact i64_ne (by assumption))⟩)))))))))))))) | exact Or.inr (Or.inr (Or.inr (Or.inr (Or.inr (Or.inr (Or.inr (Or.inr (Or.inr (Or.inr (Or.inr (Or.inr (Or.inr (Or.inr (Or.inr (Or.inr (Or.inl ⟨_, _, rfl, rfl, (by first | assumption | rfl | exact i64_ne (by assumption)), (by first | assumption | rfl | exact i64_ne (by assumption)), (by first | assumption | rfl | exact i64_ne (by assumption)), (by first | assumption | rfl | exact i64_ne (by assumption)), (by first | assumption | rfl | exact i64_ne (by assumption)), (by first | assumption | rfl | exact i64_ne (by assumption)), (by first | assumption | rfl | exact i64_ne (by assumption))⟩))))))))))))))))
                  · show _
                    cases f_325
                  · show _
                    cases f_329
                  · show _
                    cases f_334
                · show _
                  have hP : va_P (dC, dI) vwCl (cW g ty pl ac 2 md Z P) H := hP
                  have hD : va_D A (cW g ty pl ac 2 md Z P) := hD
                  have th_337 := wf.1 _ _ f_228
                  refine lv_iload hx hb dX11_answerOf_210 (lv_at hl 4 rfl) ?_
                  refine cV_l (C := RX11) (n := 2) (rest := []) hx hb hml hown hg hT (c_X11_markCell l dC dI g ty H.size pl ac 2 md Z P none c0 wf (by first | exact nn_pre | exact (fun _ h9 => (Option.some.inj h9) ▸ ⟨by assumption, by assumption⟩))) (cv_of hg wM_X11_183 wN_X11_markCell wL_X11_X11_markCell wK_X11_markCell wI_X11 (by decide +kernel) ⟨Nat.le_of_ble_eq_true rfl, Nat.le_of_ble_eq_true rfl⟩) hK hP hD hS hA (va_recv hK hP (ci := 13) (q0 := 0) rfl rfl) rfl hl.1 rfl (Nat.le_of_ble_eq_true rfl) dX11_answerOf_212 ⟨by show 0 + 0 + 0 ≤ 18 * k0; omega, by show 0 + 0 + 0 ≤ 101 * k0; omega⟩ (fun r_339 u_340 H locs q_338 hP hD hS => ?_)
                  rcases q_338 with ⟨rfl, rfl, f_341⟩ | ⟨q_342, rfl, rfl, f_343, f_344⟩ | ⟨q_345, z_346, rfl, rfl, f_347, f_348, f_349⟩ | ⟨q_350, z_351, rfl, rfl, f_352, f_353, f_354⟩
                  · show _
                    have hP : va_P (dC, dI) vwCl (cW g ty pl ac 2 md Z P) H := hP
                    have hD : va_D A (cW g ty pl ac 2 md Z P) := hD
                    refine W.widen (k := 18 * k0) (n := 101 * k0) (by show 0 + 0 + 0 ≤ 18 * k0; omega) (by show 0 + 0 + 0 ≤ 101 * k0; omega) ?_
                    refine cr_l (wo := fun u : (Nat → Option Nat) × Int32 × Int32 × cQ => cW g ty u.1 ac u.2.1 u.2.2.1 Z u.2.2.2) ((pl, 2, md, P)) hx hb hr hlk hS hP hD ?_ dX11_answerOf_215
                    first | exact Or.inr (Or.inr (Or.inr (Or.inr (Or.inr (Or.inr (Or.inr (Or.inr (Or.inr (Or.inr (Or.inr (Or.inr (Or.inl ⟨rfl, rfl, (by first | assumption | rfl | exact i64_ne (by assumption)), (by first | assumption | rfl | exact i64_ne (by assumption))⟩)))))))))))) | exact Or.inr (Or.inr (Or.inr (Or.inr (Or.inr (Or.inr (Or.inr (Or.inr (Or.inr (Or.inr (Or.inr (Or.inr (Or.inr (Or.inr (Or.inr (Or.inl ⟨_, _, rfl, rfl, (by first | assumption | rfl | exact i64_ne (by assumption)), (by first | assumption | rfl | exact i64_ne (by assumption)), (by first | assumption | rfl | exact i64_ne (by assumption)), (by first | assumption | rfl | exact i64_ne (by assumption)), (by first | assumption | rfl | exact i64_ne (by assumption)), (by first | assumption | rfl | exact i64_ne (by assumption))⟩))))))))))))))) | exact Or.inr (Or.inr (Or.inr (Or.inr (Or.inr (Or.inr (Or.inr (Or.inr (Or.inr (Or.inr (Or.inr (Or.inr (Or.inr (Or.inr (Or.inr (Or.inr (Or.inr (Or.inl ⟨_, _, _, _, rfl, rfl, (by first | assumption | rfl | exact i64_ne (by assumption)), (by first | assumption | rfl | exact i64_ne (by assumption)), (by first | assumption | rfl | exact i64_ne (by assumption)), (by first | assumption | rfl | exact i64_ne (by assumption)), (by first | assumption | rfl | exact i64_ne (by assumption)), (by first | assumption | rfl | exact i64_ne (by assumption)), (by first | assumption | rfl | exact i64_ne (by assumption)), (by first | assumption | rfl | exact i64_ne (by assumption)), (by first | assumption | rfl | exact i64_ne (by assumption))⟩)))))))))))))))))
                  · show _
                    cases f_343
                  · show _
                    cases f_347
                  · show _
                    cases f_352
                · show _
                  have hP : va_P (dC, dI) vwCl (cW g ty pl ac ft md Z P) H := hP
                  have hD : va_D A (cW g ty pl ac ft md Z P) := hD
                  have th_355 := wf.1 _ _ f_240
                  refine lv_iload hx hb dX11_answerOf_210 (lv_at hl 4 rfl) ?_
                  refine cV_l (C := RX11) (n := 2) (rest := []) hx hb hml hown hg hT (c_X11_markCell l dC dI g ty H.size pl ac ft md Z P (some q_237) c0 wf (by first | exact nn_pre | exact (fun _ h9 => (Option.some.inj h9) ▸ ⟨by assumption, by assumption⟩))) (cv_of hg wM_X11_183 wN_X11_markCell wL_X11_X11_markCell wK_X11_markCell wI_X11 (by decide +kernel) ⟨Nat.le_of_ble_eq_true rfl, Nat.le_of_ble_eq_true rfl⟩) hK hP hD hS hA (va_recv hK hP (ci := 13) (q0 := 0) rfl rfl) rfl hl.1 rfl (Nat.le_of_ble_eq_true rfl) dX11_answerOf_212 ⟨by show 0 + 0 + 0 ≤ 18 * k0; omega, by show 0 + 0 + 0 ≤ 101 * k0; omega⟩ (fun r_357 u_358 H locs q_356 hP hD hS => ?_)
                  rcases q_356 with ⟨rfl, rfl, f_359⟩ | ⟨q_360, rfl, rfl, f_361, f_362⟩ | ⟨q_363, z_364, rfl, rfl, f_365, f_366, f_367⟩ | ⟨q_368, z_369, rfl, rfl, f_370, f_371, f_372⟩
                  · show _
                    cases f_359
                  · show _
                    exact absurd (by assumption) (cin_ng f_362)
                  · show _
                    obtain rfl := Option.some.inj f_365; obtain rfl := Option.some.inj (f_245.symm.trans f_366); exact absurd (by assumption) f_367
                  · show _
                    obtain rfl := Option.some.inj f_370
                    have hP : va_P (dC, dI) vwCl (cW g ty pl ac ft md Z (pLc P z_369 (vp_updL (P.2.2.2.2.2.2.1 z_369) c0.toNatClampNeg (aCell (P.2.2.1 q_237) ac)))) H := hP
                    have hD : va_D A (cW g ty pl ac ft md Z (pLc P z_369 (vp_updL (P.2.2.2.2.2.2.1 z_369) c0.toNatClampNeg (aCell (P.2.2.1 q_237) ac)))) := hD
                    refine W.widen (k := 18 * k0) (n := 101 * k0) (by show 0 + 0 + 0 ≤ 18 * k0; omega) (by show 0 + 0 + 0 ≤ 101 * k0; omega) ?_
                    refine cr_l (wo := fun u : (Nat → Option Nat) × Int32 × Int32 × cQ => cW g ty u.1 ac u.2.1 u.2.2.1 Z u.2.2.2) ((pl, ft, md, pLc P z_369 (vp_updL (P.2.2.2.2.2.2.1 z_369) c0.toNatClampNeg (aCell (P.2.2.1 q_237) ac)))) hx hb hr hlk hS hP hD ?_ dX11_answerOf_215
                    exact Or.inr (Or.inr (Or.inr (Or.inr (Or.inr (Or.inr (Or.inr (Or.inr (Or.inr (Or.inr (Or.inr (Or.inr (Or.inr (Or.inr (Or.inr (Or.inr (Or.inr (Or.inr (Or.inl ⟨_, _, _, _, rfl, rfl, (by first | assumption | rfl | exact i64_ne (by assumption)), (by first | assumption | rfl | exact i64_ne (by assumption)), (by first | assumption | rfl | exact i64_ne (by assumption)), (by first | assumption | rfl | exact i64_ne (by assumption)), (by first | assumption | rfl | exact i64_ne (by assumption)), (by first | assumption | rfl | exact i64_ne (by assumption)), (by first | assumption | rfl | exact i64_ne (by assumption)), (by first | assumption | rfl | exact i64_ne (by assumption)), (by first | assumption | rfl | exact i64_ne (by assumption)), (by first | assumption | rfl | exact i64_ne (by assumption)), (by first | assumption | rfl | exact i64_ne (by assumption))⟩))))))))))))))))))
              · show _
                by_cases e_373 : w0 = 7
                · show _
                  refine lv_tableIn (off := 215) (tgt := 216) hx hb dX11_answerOf_1 (by rw [e_373]; decide) (by rw [e_373]; decide) (by rw [e_373]; decide) (by decide) ?_
                  refine lv_aload_n hx hb dX11_answerOf_216 rfl (lv_at hl 0 rfl) ?_
                  refine lv_bipush (v := 8) hx hb dX11_answerOf_217 (by decide) ?_
                  refine lv_iload_n hx hb dX11_answerOf_219 rfl (lv_at hl 2 rfl) ?_
                  refine lv_iload_n hx hb dX11_answerOf_220 rfl (lv_at hl 3 rfl) ?_
                  refine lv_iload hx hb dX11_answerOf_221 (lv_at hl 4 rfl) ?_
                  refine cV_l (C := RX11) (n := 4) (rest := []) hx hb hml hown hg hT (c_X11_takeOut l dC dI g ty s.heap.size pl ac ft md Z P 8 a0 b0 c0 wf (by decide)) (cv_of hg wM_X11_186 wN_X11_takeOut wL_X11_X11_takeOut wK_X11_takeOut wI_X11 (by decide +kernel) ⟨Nat.le_of_ble_eq_true rfl, Nat.le_of_ble_eq_true rfl⟩) hK hP hD hS hA (va_recv hK hP (ci := 13) (q0 := 0) rfl rfl) rfl hl.1 rfl (Nat.le_of_ble_eq_true rfl) dX11_answerOf_223 ⟨by show 0 + 0 ≤ 18 * k0; omega, by show 0 + 0 ≤ 101 * k0; omega⟩ (fun r_375 u_376 H locs q_374 hP hD hS => ?_)
                  have hP : va_P (dC, dI) vwCl (cW g ty u_376.1 ac u_376.2 md Z P) H := hP
                  have hD : va_D A (cW g ty u_376.1 ac u_376.2 md Z P) := hD
                  have hq := q_374
                  refine W.widen (k := 18 * k0) (n := 101 * k0) (by show 0 + 0 ≤ 18 * k0; omega) (by show 0 + 0 ≤ 101 * k0; omega) ?_
                  refine cr_l (wo := fun u : (Nat → Option Nat) × Int32 × Int32 × cQ => cW g ty u.1 ac u.2.1 u.2.2.1 Z u.2.2.2) ((u_376.1, u_376.2, md, P)) hx hb hr hlk hS hP hD ?_ dX11_answerOf_226
                  exact Or.inr (Or.inr (Or.inr (Or.inr (Or.inr (Or.inr (Or.inr (Or.inr (Or.inr (Or.inr (Or.inr (Or.inr (Or.inr (Or.inr (Or.inr (Or.inr (Or.inr (Or.inr (Or.inr (Or.inl ⟨r_375, u_376, rfl, rfl, (by assumption), (by exact hq)⟩)))))))))))))))))))
                · show _
                  by_cases e_377 : w0 = 8
                  · show _
                    refine lv_tableIn (off := 226) (tgt := 227) hx hb dX11_answerOf_1 (by rw [e_377]; decide) (by rw [e_377]; decide) (by rw [e_377]; decide) (by decide) ?_
                    refine lv_aload_n hx hb dX11_answerOf_227 rfl (lv_at hl 0 rfl) ?_
                    refine lv_bipush (v := 8) hx hb dX11_answerOf_228 (by decide) ?_
                    refine lv_iconst (v := 0) hx hb dX11_answerOf_230 (by decide) ?_
                    refine lv_iload_n hx hb dX11_answerOf_231 rfl (lv_at hl 2 rfl) ?_
                    refine lv_iload_n hx hb dX11_answerOf_232 rfl (lv_at hl 3 rfl) ?_
                    refine lv_iload hx hb dX11_answerOf_233 (lv_at hl 4 rfl) ?_
                    refine cV_l (C := RX11) (n := 5) (rest := []) hx hb hml hown hg hT (c_X11_putIn l dC dI g ty s.heap.size pl ac ft md Z P 8 0 a0 b0 c0 wf (by decide)) (cv_of hg wM_X11_189 wN_X11_putIn wL_X11_X11_putIn wK_X11_putIn wI_X11 (by decide +kernel) ⟨Nat.le_of_ble_eq_true rfl, Nat.le_of_ble_eq_true rfl⟩) hK hP hD hS hA (va_recv hK hP (ci := 13) (q0 := 0) rfl rfl) rfl hl.1 rfl (Nat.le_of_ble_eq_true rfl) dX11_answerOf_235 ⟨by show 0 + 0 ≤ 18 * k0; omega, by show 0 + 0 ≤ 101 * k0; omega⟩ (fun r_379 u_380 H locs q_378 hP hD hS => ?_)
                    have hP : va_P (dC, dI) vwCl (cW g ty pl ac u_380.1 md Z u_380.2) H := hP
                    have hD : va_D A (cW g ty pl ac u_380.1 md Z u_380.2) := hD
                    have hq := q_378
                    refine W.widen (k := 18 * k0) (n := 101 * k0) (by show 0 + 0 ≤ 18 * k0; omega) (by show 0 + 0 ≤ 101 * k0; omega) ?_
                    refine cr_l (wo := fun u : (Nat → Option Nat) × Int32 × Int32 × cQ => cW g ty u.1 ac u.2.1 u.2.2.1 Z u.2.2.2) ((pl, u_380.1, md, u_380.2)) hx hb hr hlk hS hP hD ?_ dX11_answerOf_238
                    exact Or.inr (Or.inr (Or.inr (Or.inr (Or.inr (Or.inr (Or.inr (Or.inr (Or.inr (Or.inr (Or.inr (Or.inr (Or.inr (Or.inr (Or.inr (Or.inr (Or.inr (Or.inr (Or.inr (Or.inr (Or.inl ⟨r_379, u_380, rfl, rfl, (by assumption), (by exact hq)⟩))))))))))))))))))))
                  · show _
                    by_cases e_381 : w0 = 9
                    · show _
                      refine lv_tableIn (off := 238) (tgt := 239) hx hb dX11_answerOf_1 (by rw [e_381]; decide) (by rw [e_381]; decide) (by rw [e_381]; decide) (by decide) ?_
                      refine lv_aload_n hx hb dX11_answerOf_239 rfl (lv_at hl 0 rfl) ?_
                      refine lv_iload_n hx hb dX11_answerOf_240 rfl (lv_at hl 2 rfl) ?_
                      refine lv_iload_n hx hb dX11_answerOf_241 rfl (lv_at hl 3 rfl) ?_
                      refine lv_iload hx hb dX11_answerOf_242 (lv_at hl 4 rfl) ?_
                      refine cV_l (C := RX11) (n := 3) (rest := []) hx hb hml hown hg hT (c_X11_makeCase l dC dI g ty s.heap.size pl ac ft md Z P k0 a0 b0 c0 (by exact fun h1 h2 h3 => pre0 ⟨h1, h2, Or.inr (Or.inr (Or.inl ⟨by assumption, h3⟩))⟩)) (cv_of hg wM_X11_193 wN_X11_makeCase wL_X11_X11_makeCase wK_X11_makeCase wI_X11 (by decide +kernel) ⟨Nat.le_of_ble_eq_true rfl, Nat.le_of_ble_eq_true rfl⟩) hK hP hD hS hA (va_recv hK hP (ci := 13) (q0 := 0) rfl rfl) rfl hl.1 rfl (Nat.le_of_ble_eq_true rfl) dX11_answerOf_244 ⟨by show 0 + 18 * k0 ≤ 18 * k0; omega, by show 0 + 101 * k0 ≤ 101 * k0; omega⟩ (fun r_383 u_384 H locs q_382 hP hD hS => ?_)
                      have hP : va_P (dC, dI) vwCl (cW g ty u_384.1 ac u_384.2.1 u_384.2.2.1 Z u_384.2.2.2) H := hP
                      have hD : va_D A (cW g ty u_384.1 ac u_384.2.1 u_384.2.2.1 Z u_384.2.2.2) := hD
                      have hq := q_382
                      refine W.widen (k := 18 * k0) (n := 101 * k0) (by show 0 + 18 * k0 ≤ 18 * k0; omega) (by show 0 + 101 * k0 ≤ 101 * k0; omega) ?_
                      refine cr_l (wo := fun u : (Nat → Option Nat) × Int32 × Int32 × cQ => cW g ty u.1 ac u.2.1 u.2.2.1 Z u.2.2.2) ((u_384.1, u_384.2.1, u_384.2.2.1, u_384.2.2.2)) hx hb hr hlk hS hP hD ?_ dX11_answerOf_247
                      exact Or.inr (Or.inr (Or.inr (Or.inr (Or.inr (Or.inr (Or.inr (Or.inr (Or.inr (Or.inr (Or.inr (Or.inr (Or.inr (Or.inr (Or.inr (Or.inr (Or.inr (Or.inr (Or.inr (Or.inr (Or.inr (Or.inl ⟨r_383, u_384, rfl, rfl, (by assumption), (by exact hq)⟩)))))))))))))))))))))
                    · show _
                      by_cases e_385 : w0 = 10
                      · show _
                        refine lv_tableIn (off := 247) (tgt := 248) hx hb dX11_answerOf_1 (by rw [e_385]; decide) (by rw [e_385]; decide) (by rw [e_385]; decide) (by decide) ?_
                        refine lv_aload_n hx hb dX11_answerOf_248 rfl (lv_at hl 0 rfl) ?_
                        refine lv_bipush (v := 9) hx hb dX11_answerOf_249 (by decide) ?_
                        refine lv_bipush (v := 12) hx hb dX11_answerOf_251 (by decide) ?_
                        refine lv_iload_n hx hb dX11_answerOf_253 rfl (lv_at hl 2 rfl) ?_
                        refine lv_iload_n hx hb dX11_answerOf_254 rfl (lv_at hl 3 rfl) ?_
                        refine lv_iload hx hb dX11_answerOf_255 (lv_at hl 4 rfl) ?_
                        refine cV_l (C := RX11) (n := 5) (rest := []) hx hb hml hown hg hT (c_X11_putIn l dC dI g ty s.heap.size pl ac ft md Z P 9 12 a0 b0 c0 wf (by decide)) (cv_of hg wM_X11_189 wN_X11_putIn wL_X11_X11_putIn wK_X11_putIn wI_X11 (by decide +kernel) ⟨Nat.le_of_ble_eq_true rfl, Nat.le_of_ble_eq_true rfl⟩) hK hP hD hS hA (va_recv hK hP (ci := 13) (q0 := 0) rfl rfl) rfl hl.1 rfl (Nat.le_of_ble_eq_true rfl) dX11_answerOf_257 ⟨by show 0 + 0 ≤ 18 * k0; omega, by show 0 + 0 ≤ 101 * k0; omega⟩ (fun r_387 u_388 H locs q_386 hP hD hS => ?_)
                        have hP : va_P (dC, dI) vwCl (cW g ty pl ac u_388.1 md Z u_388.2) H := hP
                        have hD : va_D A (cW g ty pl ac u_388.1 md Z u_388.2) := hD
                        have hq := q_386
                        refine W.widen (k := 18 * k0) (n := 101 * k0) (by show 0 + 0 ≤ 18 * k0; omega) (by show 0 + 0 ≤ 101 * k0; omega) ?_
                        refine cr_l (wo := fun u : (Nat → Option Nat) × Int32 × Int32 × cQ => cW g ty u.1 ac u.2.1 u.2.2.1 Z u.2.2.2) ((pl, u_388.1, md, u_388.2)) hx hb hr hlk hS hP hD ?_ dX11_answerOf_260
                        exact Or.inr (Or.inr (Or.inr (Or.inr (Or.inr (Or.inr (Or.inr (Or.inr (Or.inr (Or.inr (Or.inr (Or.inr (Or.inr (Or.inr (Or.inr (Or.inr (Or.inr (Or.inr (Or.inr (Or.inr (Or.inr (Or.inr (Or.inl ⟨r_387, u_388, rfl, rfl, (by assumption), (by exact hq)⟩))))))))))))))))))))))
                      · show _
                        by_cases e_389 : w0 = 11
                        · show _
                          refine lv_tableIn (off := 260) (tgt := 261) hx hb dX11_answerOf_1 (by rw [e_389]; decide) (by rw [e_389]; decide) (by rw [e_389]; decide) (by decide) ?_
                          refine lv_aload_n hx hb dX11_answerOf_261 rfl (lv_at hl 0 rfl) ?_
                          refine lv_bipush (v := 11) hx hb dX11_answerOf_262 (by decide) ?_
                          refine lv_bipush (v := 14) hx hb dX11_answerOf_264 (by decide) ?_
                          refine lv_iload_n hx hb dX11_answerOf_266 rfl (lv_at hl 2 rfl) ?_
                          refine lv_iload_n hx hb dX11_answerOf_267 rfl (lv_at hl 3 rfl) ?_
                          refine lv_iload hx hb dX11_answerOf_268 (lv_at hl 4 rfl) ?_
                          refine cV_l (C := RX11) (n := 5) (rest := []) hx hb hml hown hg hT (c_X11_putIn l dC dI g ty s.heap.size pl ac ft md Z P 11 14 a0 b0 c0 wf (by decide)) (cv_of hg wM_X11_189 wN_X11_putIn wL_X11_X11_putIn wK_X11_putIn wI_X11 (by decide +kernel) ⟨Nat.le_of_ble_eq_true rfl, Nat.le_of_ble_eq_true rfl⟩) hK hP hD hS hA (va_recv hK hP (ci := 13) (q0 := 0) rfl rfl) rfl hl.1 rfl (Nat.le_of_ble_eq_true rfl) dX11_answerOf_270 ⟨by show 0 + 0 ≤ 18 * k0; omega, by show 0 + 0 ≤ 101 * k0; omega⟩ (fun r_391 u_392 H locs q_390 hP hD hS => ?_)
                          have hP : va_P (dC, dI) vwCl (cW g ty pl ac u_392.1 md Z u_392.2) H := hP
                          have hD : va_D A (cW g ty pl ac u_392.1 md Z u_392.2) := hD
                          have hq := q_390
                          refine W.widen (k := 18 * k0) (n := 101 * k0) (by show 0 + 0 ≤ 18 * k0; omega) (by show 0 + 0 ≤ 101 * k0; omega) ?_
                          refine cr_l (wo := fun u : (Nat → Option Nat) × Int32 × Int32 × cQ => cW g ty u.1 ac u.2.1 u.2.2.1 Z u.2.2.2) ((pl, u_392.1, md, u_392.2)) hx hb hr hlk hS hP hD ?_ dX11_answerOf_273
                          exact Or.inr (Or.inr (Or.inr (Or.inr (Or.inr (Or.inr (Or.inr (Or.inr (Or.inr (Or.inr (Or.inr (Or.inr (Or.inr (Or.inr (Or.inr (Or.inr (Or.inr (Or.inr (Or.inr (Or.inr (Or.inr (Or.inr (Or.inr (Or.inl ⟨r_391, u_392, rfl, rfl, (by assumption), (by exact hq)⟩)))))))))))))))))))))))
                        · show _
                          by_cases e_393 : w0 = 12
                          · show _
                            refine lv_tableIn (off := 273) (tgt := 274) hx hb dX11_answerOf_1 (by rw [e_393]; decide) (by rw [e_393]; decide) (by rw [e_393]; decide) (by decide) ?_
                            refine lv_aload_n hx hb dX11_answerOf_274 rfl (lv_at hl 0 rfl) ?_
                            refine lv_bipush (v := 9) hx hb dX11_answerOf_275 (by decide) ?_
                            refine lv_iload_n hx hb dX11_answerOf_277 rfl (lv_at hl 2 rfl) ?_
                            refine lv_iload_n hx hb dX11_answerOf_278 rfl (lv_at hl 3 rfl) ?_
                            refine lv_iload hx hb dX11_answerOf_279 (lv_at hl 4 rfl) ?_
                            refine cV_l (C := RX11) (n := 4) (rest := []) hx hb hml hown hg hT (c_X11_takeOut l dC dI g ty s.heap.size pl ac ft md Z P 9 a0 b0 c0 wf (by decide)) (cv_of hg wM_X11_186 wN_X11_takeOut wL_X11_X11_takeOut wK_X11_takeOut wI_X11 (by decide +kernel) ⟨Nat.le_of_ble_eq_true rfl, Nat.le_of_ble_eq_true rfl⟩) hK hP hD hS hA (va_recv hK hP (ci := 13) (q0 := 0) rfl rfl) rfl hl.1 rfl (Nat.le_of_ble_eq_true rfl) dX11_answerOf_281 ⟨by show 0 + 0 ≤ 18 * k0; omega, by show 0 + 0 ≤ 101 * k0; omega⟩ (fun r_395 u_396 H locs q_394 hP hD hS => ?_)
                            have hP : va_P (dC, dI) vwCl (cW g ty u_396.1 ac u_396.2 md Z P) H := hP
                            have hD : va_D A (cW g ty u_396.1 ac u_396.2 md Z P) := hD
                            have hq := q_394
                            refine W.widen (k := 18 * k0) (n := 101 * k0) (by show 0 + 0 ≤ 18 * k0; omega) (by show 0 + 0 ≤ 101 * k0; omega) ?_
                            refine cr_l (wo := fun u : (Nat → Option Nat) × Int32 × Int32 × cQ => cW g ty u.1 ac u.2.1 u.2.2.1 Z u.2.2.2) ((u_396.1, u_396.2, md, P)) hx hb hr hlk hS hP hD ?_ dX11_answerOf_284
                            exact Or.inr (Or.inr (Or.inr (Or.inr (Or.inr (Or.inr (Or.inr (Or.inr (Or.inr (Or.inr (Or.inr (Or.inr (Or.inr (Or.inr (Or.inr (Or.inr (Or.inr (Or.inr (Or.inr (Or.inr (Or.inr (Or.inr (Or.inr (Or.inr (Or.inl ⟨r_395, u_396, rfl, rfl, (by assumption), (by exact hq)⟩))))))))))))))))))))))))
                          · show _
                            by_cases e_397 : w0 = 13
                            · show _
                              refine lv_tableIn (off := 284) (tgt := 285) hx hb dX11_answerOf_1 (by rw [e_397]; decide) (by rw [e_397]; decide) (by rw [e_397]; decide) (by decide) ?_
                              refine lv_aload_n hx hb dX11_answerOf_285 rfl (lv_at hl 0 rfl) ?_
                              refine lv_iload_n hx hb dX11_answerOf_286 rfl (lv_at hl 2 rfl) ?_
                              refine lv_iload_n hx hb dX11_answerOf_287 rfl (lv_at hl 3 rfl) ?_
                              refine cV_l (C := RX11) (n := 2) (rest := []) hx hb hml hown hg hT (c_X11_makeBox l dC dI g ty s.heap.size pl ac ft md Z P k0 a0 b0 (by exact fun h1 h2 => pre0 ⟨h1, h2, Or.inr (Or.inr (Or.inr (Or.inl (by assumption))))⟩)) (cv_of hg wM_X11_196 wN_X11_makeBox wL_X11_X11_makeBox wK_X11_makeBox wI_X11 (by decide +kernel) ⟨Nat.le_of_ble_eq_true rfl, Nat.le_of_ble_eq_true rfl⟩) hK hP hD hS hA (va_recv hK hP (ci := 13) (q0 := 0) rfl rfl) rfl hl.1 rfl (Nat.le_of_ble_eq_true rfl) dX11_answerOf_288 ⟨by show 0 + 18 * k0 ≤ 18 * k0; omega, by show 0 + 101 * k0 ≤ 101 * k0; omega⟩ (fun r_399 u_400 H locs q_398 hP hD hS => ?_)
                              have hP : va_P (dC, dI) vwCl (cW g ty u_400.1 ac u_400.2.1 u_400.2.2.1 Z u_400.2.2.2) H := hP
                              have hD : va_D A (cW g ty u_400.1 ac u_400.2.1 u_400.2.2.1 Z u_400.2.2.2) := hD
                              have hq := q_398
                              refine W.widen (k := 18 * k0) (n := 101 * k0) (by show 0 + 18 * k0 ≤ 18 * k0; omega) (by show 0 + 101 * k0 ≤ 101 * k0; omega) ?_
                              refine cr_l (wo := fun u : (Nat → Option Nat) × Int32 × Int32 × cQ => cW g ty u.1 ac u.2.1 u.2.2.1 Z u.2.2.2) ((u_400.1, u_400.2.1, u_400.2.2.1, u_400.2.2.2)) hx hb hr hlk hS hP hD ?_ dX11_answerOf_291
                              exact Or.inr (Or.inr (Or.inr (Or.inr (Or.inr (Or.inr (Or.inr (Or.inr (Or.inr (Or.inr (Or.inr (Or.inr (Or.inr (Or.inr (Or.inr (Or.inr (Or.inr (Or.inr (Or.inr (Or.inr (Or.inr (Or.inr (Or.inr (Or.inr (Or.inr (Or.inl ⟨r_399, u_400, rfl, rfl, (by assumption), (by exact hq)⟩)))))))))))))))))))))))))
                            · show _
                              by_cases e_401 : w0 = 14
                              · show _
                                refine lv_tableIn (off := 291) (tgt := 292) hx hb dX11_answerOf_1 (by rw [e_401]; decide) (by rw [e_401]; decide) (by rw [e_401]; decide) (by decide) ?_
                                refine lv_aload_n hx hb dX11_answerOf_292 rfl (lv_at hl 0 rfl) ?_
                                refine lv_iload_n hx hb dX11_answerOf_293 rfl (lv_at hl 2 rfl) ?_
                                refine lv_iload_n hx hb dX11_answerOf_294 rfl (lv_at hl 3 rfl) ?_
                                refine cV_l (C := RX11) (n := 2) (rest := []) hx hb hml hown hg hT (c_X11_makeLetter l dC dI g ty s.heap.size pl ac ft md Z P k0 a0 b0 (by exact fun h1 h2 => pre0 ⟨h1, h2, Or.inr (Or.inr (Or.inr (Or.inr (by assumption))))⟩)) (cv_of hg wM_X11_199 wN_X11_makeLetter wL_X11_X11_makeLetter wK_X11_makeLetter wI_X11 (by decide +kernel) ⟨Nat.le_of_ble_eq_true rfl, Nat.le_of_ble_eq_true rfl⟩) hK hP hD hS hA (va_recv hK hP (ci := 13) (q0 := 0) rfl rfl) rfl hl.1 rfl (Nat.le_of_ble_eq_true rfl) dX11_answerOf_295 ⟨by show 0 + 18 * k0 ≤ 18 * k0; omega, by show 0 + 101 * k0 ≤ 101 * k0; omega⟩ (fun r_403 u_404 H locs q_402 hP hD hS => ?_)
                                have hP : va_P (dC, dI) vwCl (cW g ty u_404.1 ac u_404.2.1 u_404.2.2.1 Z u_404.2.2.2) H := hP
                                have hD : va_D A (cW g ty u_404.1 ac u_404.2.1 u_404.2.2.1 Z u_404.2.2.2) := hD
                                have hq := q_402
                                refine W.widen (k := 18 * k0) (n := 101 * k0) (by show 0 + 18 * k0 ≤ 18 * k0; omega) (by show 0 + 101 * k0 ≤ 101 * k0; omega) ?_
                                refine cr_l (wo := fun u : (Nat → Option Nat) × Int32 × Int32 × cQ => cW g ty u.1 ac u.2.1 u.2.2.1 Z u.2.2.2) ((u_404.1, u_404.2.1, u_404.2.2.1, u_404.2.2.2)) hx hb hr hlk hS hP hD ?_ dX11_answerOf_298
                                exact Or.inr (Or.inr (Or.inr (Or.inr (Or.inr (Or.inr (Or.inr (Or.inr (Or.inr (Or.inr (Or.inr (Or.inr (Or.inr (Or.inr (Or.inr (Or.inr (Or.inr (Or.inr (Or.inr (Or.inr (Or.inr (Or.inr (Or.inr (Or.inr (Or.inr (Or.inr (Or.inl ⟨r_403, u_404, rfl, rfl, (by assumption), (by exact hq)⟩))))))))))))))))))))))))))
                              · show _
                                by_cases e_405 : w0 = 15
                                · show _
                                  refine lv_tableIn (off := 298) (tgt := 299) hx hb dX11_answerOf_1 (by rw [e_405]; decide) (by rw [e_405]; decide) (by rw [e_405]; decide) (by decide) ?_
                                  refine lv_aload_n hx hb dX11_answerOf_299 rfl (lv_at hl 0 rfl) ?_
                                  refine lv_iload_n hx hb dX11_answerOf_300 rfl (lv_at hl 2 rfl) ?_
                                  refine cV_l (C := RX11) (n := 1) (rest := []) hx hb hml hown hg hT (c_X11_boxValue l dC dI g ty s.heap.size pl ac ft md Z P a0 wf ) (cv_of hg wM_X11_202 wN_X11_boxValue wL_X11_X11_boxValue wK_X11_boxValue wI_X11 (by decide +kernel) ⟨Nat.le_of_ble_eq_true rfl, Nat.le_of_ble_eq_true rfl⟩) hK hP hD hS hA (va_recv hK hP (ci := 13) (q0 := 0) rfl rfl) rfl hl.1 rfl (Nat.le_of_ble_eq_true rfl) dX11_answerOf_301 ⟨by show 0 + 0 ≤ 18 * k0; omega, by show 0 + 0 ≤ 101 * k0; omega⟩ (fun r_407 u_408 H locs q_406 hP hD hS => ?_)
                                  have hP : va_P (dC, dI) vwCl (cW g ty pl ac u_408 md Z P) H := hP
                                  have hD : va_D A (cW g ty pl ac u_408 md Z P) := hD
                                  have hq := q_406
                                  refine W.widen (k := 18 * k0) (n := 101 * k0) (by show 0 + 0 ≤ 18 * k0; omega) (by show 0 + 0 ≤ 101 * k0; omega) ?_
                                  refine cr_l (wo := fun u : (Nat → Option Nat) × Int32 × Int32 × cQ => cW g ty u.1 ac u.2.1 u.2.2.1 Z u.2.2.2) ((pl, u_408, md, P)) hx hb hr hlk hS hP hD ?_ dX11_answerOf_304
                                  exact Or.inr (Or.inr (Or.inr (Or.inr (Or.inr (Or.inr (Or.inr (Or.inr (Or.inr (Or.inr (Or.inr (Or.inr (Or.inr (Or.inr (Or.inr (Or.inr (Or.inr (Or.inr (Or.inr (Or.inr (Or.inr (Or.inr (Or.inr (Or.inr (Or.inr (Or.inr (Or.inr (Or.inl ⟨r_407, u_408, rfl, rfl, (by assumption), (by exact hq)⟩)))))))))))))))))))))))))))
                                · show _
                                  by_cases e_409 : w0 = 16
                                  · show _
                                    refine lv_tableIn (off := 304) (tgt := 305) hx hb dX11_answerOf_1 (by rw [e_409]; decide) (by rw [e_409]; decide) (by rw [e_409]; decide) (by decide) ?_
                                    refine lv_aload_n hx hb dX11_answerOf_305 rfl (lv_at hl 0 rfl) ?_
                                    refine lv_iload_n hx hb dX11_answerOf_306 rfl (lv_at hl 2 rfl) ?_
                                    refine cV_l (C := RX11) (n := 1) (rest := []) hx hb hml hown hg hT (c_X11_changeBox l dC dI g ty s.heap.size pl ac ft md Z P a0 wf ) (cv_of hg wM_X11_206 wN_X11_changeBox wL_X11_X11_changeBox wK_X11_changeBox wI_X11 (by decide +kernel) ⟨Nat.le_of_ble_eq_true rfl, Nat.le_of_ble_eq_true rfl⟩) hK hP hD hS hA (va_recv hK hP (ci := 13) (q0 := 0) rfl rfl) rfl hl.1 rfl (Nat.le_of_ble_eq_true rfl) dX11_answerOf_307 ⟨by show 0 + 0 ≤ 18 * k0; omega, by show 0 + 0 ≤ 101 * k0; omega⟩ (fun r_411 u_412 H locs q_410 hP hD hS => ?_)
                                    have hP : va_P (dC, dI) vwCl (cW g ty pl ac u_412.1 md Z u_412.2) H := hP
                                    have hD : va_D A (cW g ty pl ac u_412.1 md Z u_412.2) := hD
                                    have hq := q_410
                                    refine W.widen (k := 18 * k0) (n := 101 * k0) (by show 0 + 0 ≤ 18 * k0; omega) (by show 0 + 0 ≤ 101 * k0; omega) ?_
                                    refine cr_l (wo := fun u : (Nat → Option Nat) × Int32 × Int32 × cQ => cW g ty u.1 ac u.2.1 u.2.2.1 Z u.2.2.2) ((pl, u_412.1, md, u_412.2)) hx hb hr hlk hS hP hD ?_ dX11_answerOf_310
                                    exact Or.inr (Or.inr (Or.inr (Or.inr (Or.inr (Or.inr (Or.inr (Or.inr (Or.inr (Or.inr (Or.inr (Or.inr (Or.inr (Or.inr (Or.inr (Or.inr (Or.inr (Or.inr (Or.inr (Or.inr (Or.inr (Or.inr (Or.inr (Or.inr (Or.inr (Or.inr (Or.inr (Or.inr (Or.inl ⟨r_411, u_412, rfl, rfl, (by assumption), (by exact hq)⟩))))))))))))))))))))))))))))
                                  · show _
                                    by_cases e_413 : w0 = 17
                                    · show _
                                      refine lv_tableIn (off := 310) (tgt := 311) hx hb dX11_answerOf_1 (by rw [e_413]; decide) (by rw [e_413]; decide) (by rw [e_413]; decide) (by decide) ?_
                                      refine lv_aload_n hx hb dX11_answerOf_311 rfl (lv_at hl 0 rfl) ?_
                                      refine lv_iload_n hx hb dX11_answerOf_312 rfl (lv_at hl 2 rfl) ?_
                                      refine lv_iload_n hx hb dX11_answerOf_313 rfl (lv_at hl 3 rfl) ?_
                                      refine cV_l (C := RX11) (n := 2) (rest := []) hx hb hml hown hg hT (c_X11_linkBox l dC dI g ty s.heap.size pl ac ft md Z P a0 b0 wf ) (cv_of hg wM_X11_209 wN_X11_linkBox wL_X11_X11_linkBox wK_X11_linkBox wI_X11 (by decide +kernel) ⟨Nat.le_of_ble_eq_true rfl, Nat.le_of_ble_eq_true rfl⟩) hK hP hD hS hA (va_recv hK hP (ci := 13) (q0 := 0) rfl rfl) rfl hl.1 rfl (Nat.le_of_ble_eq_true rfl) dX11_answerOf_314 ⟨by show 0 + 0 ≤ 18 * k0; omega, by show 0 + 0 ≤ 101 * k0; omega⟩ (fun r_415 u_416 H locs q_414 hP hD hS => ?_)
                                      have hP : va_P (dC, dI) vwCl (cW g ty pl ac u_416.1 md Z u_416.2) H := hP
                                      have hD : va_D A (cW g ty pl ac u_416.1 md Z u_416.2) := hD
                                      have hq := q_414
                                      refine W.widen (k := 18 * k0) (n := 101 * k0) (by show 0 + 0 ≤ 18 * k0; omega) (by show 0 + 0 ≤ 101 * k0; omega) ?_
                                      refine cr_l (wo := fun u : (Nat → Option Nat) × Int32 × Int32 × cQ => cW g ty u.1 ac u.2.1 u.2.2.1 Z u.2.2.2) ((pl, u_416.1, md, u_416.2)) hx hb hr hlk hS hP hD ?_ dX11_answerOf_317
                                      exact Or.inr (Or.inr (Or.inr (Or.inr (Or.inr (Or.inr (Or.inr (Or.inr (Or.inr (Or.inr (Or.inr (Or.inr (Or.inr (Or.inr (Or.inr (Or.inr (Or.inr (Or.inr (Or.inr (Or.inr (Or.inr (Or.inr (Or.inr (Or.inr (Or.inr (Or.inr (Or.inr (Or.inr (Or.inr (Or.inl ⟨r_415, u_416, rfl, rfl, (by assumption), (by exact hq)⟩)))))))))))))))))))))))))))))
                                    · show _
                                      by_cases e_417 : w0 = 18
                                      · show _
                                        refine lv_tableIn (off := 317) (tgt := 318) hx hb dX11_answerOf_1 (by rw [e_417]; decide) (by rw [e_417]; decide) (by rw [e_417]; decide) (by decide) ?_
                                        refine lv_aload_n hx hb dX11_answerOf_318 rfl (lv_at hl 0 rfl) ?_
                                        refine lv_iload_n hx hb dX11_answerOf_319 rfl (lv_at hl 2 rfl) ?_
                                        refine lv_iload_n hx hb dX11_answerOf_320 rfl (lv_at hl 3 rfl) ?_
                                        refine cV_l (C := RX11) (n := 2) (rest := []) hx hb hml hown hg hT (c_X11_followBox l dC dI g ty s.heap.size pl ac ft md Z P a0 b0 wf ) (cv_of hg wM_X11_212 wN_X11_followBox wL_X11_X11_followBox wK_X11_followBox wI_X11 (by decide +kernel) ⟨Nat.le_of_ble_eq_true rfl, Nat.le_of_ble_eq_true rfl⟩) hK hP hD hS hA (va_recv hK hP (ci := 13) (q0 := 0) rfl rfl) rfl hl.1 rfl (Nat.le_of_ble_eq_true rfl) dX11_answerOf_321 ⟨by show 0 + 0 ≤ 18 * k0; omega, by show 0 + 0 ≤ 101 * k0; omega⟩ (fun r_419 u_420 H locs q_418 hP hD hS => ?_)
                                        have hP : va_P (dC, dI) vwCl (cW g ty u_420.1 ac u_420.2 md Z P) H := hP
                                        have hD : va_D A (cW g ty u_420.1 ac u_420.2 md Z P) := hD
                                        have hq := q_418
                                        refine W.widen (k := 18 * k0) (n := 101 * k0) (by show 0 + 0 ≤ 18 * k0; omega) (by show 0 + 0 ≤ 101 * k0; omega) ?_
                                        refine cr_l (wo := fun u : (Nat → Option Nat) × Int32 × Int32 × cQ => cW g ty u.1 ac u.2.1 u.2.2.1 Z u.2.2.2) ((u_420.1, u_420.2, md, P)) hx hb hr hlk hS hP hD ?_ dX11_answerOf_324
                                        exact Or.inr (Or.inr (Or.inr (Or.inr (Or.inr (Or.inr (Or.inr (Or.inr (Or.inr (Or.inr (Or.inr (Or.inr (Or.inr (Or.inr (Or.inr (Or.inr (Or.inr (Or.inr (Or.inr (Or.inr (Or.inr (Or.inr (Or.inr (Or.inr (Or.inr (Or.inr (Or.inr (Or.inr (Or.inr (Or.inr (Or.inl ⟨r_419, u_420, rfl, rfl, (by assumption), (by exact hq)⟩))))))))))))))))))))))))))))))
                                      · show _
                                        by_cases e_421 : w0 = 19
                                        · show _
                                          refine lv_tableIn (off := 324) (tgt := 325) hx hb dX11_answerOf_1 (by rw [e_421]; decide) (by rw [e_421]; decide) (by rw [e_421]; decide) (by decide) ?_
                                          refine lv_aload_n hx hb dX11_answerOf_325 rfl (lv_at hl 0 rfl) ?_
                                          refine lv_iload_n hx hb dX11_answerOf_326 rfl (lv_at hl 2 rfl) ?_
                                          refine lv_iload_n hx hb dX11_answerOf_327 rfl (lv_at hl 3 rfl) ?_
                                          refine cV_l (C := RX11) (n := 2) (rest := []) hx hb hml hown hg hT (c_X11_weigh l dC dI g ty s.heap.size pl ac ft md Z P a0 b0 wf ) (cv_of hg wM_X11_215 wN_X11_weigh wL_X11_X11_weigh wK_X11_weigh wI_X11 (by decide +kernel) ⟨Nat.le_of_ble_eq_true rfl, Nat.le_of_ble_eq_true rfl⟩) hK hP hD hS hA (va_recv hK hP (ci := 13) (q0 := 0) rfl rfl) rfl hl.1 rfl (Nat.le_of_ble_eq_true rfl) dX11_answerOf_328 ⟨by show 0 + 0 ≤ 18 * k0; omega, by show 0 + 0 ≤ 101 * k0; omega⟩ (fun r_423 u_424 H locs q_422 hP hD hS => ?_)
                                          have hP : va_P (dC, dI) vwCl (cW g ty pl ac u_424 md Z P) H := hP
                                          have hD : va_D A (cW g ty pl ac u_424 md Z P) := hD
                                          have hq := q_422
                                          refine W.widen (k := 18 * k0) (n := 101 * k0) (by show 0 + 0 ≤ 18 * k0; omega) (by show 0 + 0 ≤ 101 * k0; omega) ?_
                                          refine cr_l (wo := fun u : (Nat → Option Nat) × Int32 × Int32 × cQ => cW g ty u.1 ac u.2.1 u.2.2.1 Z u.2.2.2) ((pl, u_424, md, P)) hx hb hr hlk hS hP hD ?_ dX11_answerOf_331
                                          exact Or.inr (Or.inr (Or.inr (Or.inr (Or.inr (Or.inr (Or.inr (Or.inr (Or.inr (Or.inr (Or.inr (Or.inr (Or.inr (Or.inr (Or.inr (Or.inr (Or.inr (Or.inr (Or.inr (Or.inr (Or.inr (Or.inr (Or.inr (Or.inr (Or.inr (Or.inr (Or.inr (Or.inr (Or.inr (Or.inr (Or.inr (Or.inl ⟨r_423, u_424, rfl, rfl, (by assumption), (by exact hq)⟩)))))))))))))))))))))))))))))))
                                        · show _
                                          by_cases e_425 : w0 = 20
                                          · show _
                                            refine lv_tableIn (off := 331) (tgt := 332) hx hb dX11_answerOf_1 (by rw [e_425]; decide) (by rw [e_425]; decide) (by rw [e_425]; decide) (by decide) ?_
                                            refine lv_aload_n hx hb dX11_answerOf_332 rfl (lv_at hl 0 rfl) ?_
                                            refine lv_iload_n hx hb dX11_answerOf_333 rfl (lv_at hl 2 rfl) ?_
                                            refine lv_iload_n hx hb dX11_answerOf_334 rfl (lv_at hl 3 rfl) ?_
                                            refine cV_l (C := RX11) (n := 2) (rest := []) hx hb hml hown hg hT (c_X11_roll l dC dI g ty s.heap.size pl ac ft md Z P a0 b0 wf ) (cv_of hg wM_X11_218 wN_X11_roll wL_X11_X11_roll wK_X11_roll wI_X11 (by decide +kernel) ⟨Nat.le_of_ble_eq_true rfl, Nat.le_of_ble_eq_true rfl⟩) hK hP hD hS hA (va_recv hK hP (ci := 13) (q0 := 0) rfl rfl) rfl hl.1 rfl (Nat.le_of_ble_eq_true rfl) dX11_answerOf_335 ⟨by show 0 + 0 ≤ 18 * k0; omega, by show 0 + 0 ≤ 101 * k0; omega⟩ (fun r_427 u_428 H locs q_426 hP hD hS => ?_)
                                            have hP : va_P (dC, dI) vwCl (cW g ty pl ac u_428 md Z P) H := hP
                                            have hD : va_D A (cW g ty pl ac u_428 md Z P) := hD
                                            have hq := q_426
                                            refine W.widen (k := 18 * k0) (n := 101 * k0) (by show 0 + 0 ≤ 18 * k0; omega) (by show 0 + 0 ≤ 101 * k0; omega) ?_
                                            refine cr_l (wo := fun u : (Nat → Option Nat) × Int32 × Int32 × cQ => cW g ty u.1 ac u.2.1 u.2.2.1 Z u.2.2.2) ((pl, u_428, md, P)) hx hb hr hlk hS hP hD ?_ dX11_answerOf_338
                                            exact Or.inr (Or.inr (Or.inr (Or.inr (Or.inr (Or.inr (Or.inr (Or.inr (Or.inr (Or.inr (Or.inr (Or.inr (Or.inr (Or.inr (Or.inr (Or.inr (Or.inr (Or.inr (Or.inr (Or.inr (Or.inr (Or.inr (Or.inr (Or.inr (Or.inr (Or.inr (Or.inr (Or.inr (Or.inr (Or.inr (Or.inr (Or.inr (Or.inl ⟨r_427, u_428, rfl, rfl, (by assumption), (by exact hq)⟩))))))))))))))))))))))))))))))))
                                          · show _
                                            by_cases e_429 : w0 = 21
                                            · show _
                                              refine lv_tableIn (off := 338) (tgt := 339) hx hb dX11_answerOf_1 (by rw [e_429]; decide) (by rw [e_429]; decide) (by rw [e_429]; decide) (by decide) ?_
                                              refine lv_aload_n hx hb dX11_answerOf_339 rfl (lv_at hl 0 rfl) ?_
                                              refine lv_iload_n hx hb dX11_answerOf_340 rfl (lv_at hl 2 rfl) ?_
                                              refine cV_l (C := RX11) (n := 1) (rest := []) hx hb hml hown hg hT (c_X11_rim l dC dI g ty s.heap.size pl ac ft md Z P a0 wf ) (cv_of hg wM_X11_221 wN_X11_rim wL_X11_X11_rim wK_X11_rim wI_X11 (by decide +kernel) ⟨Nat.le_of_ble_eq_true rfl, Nat.le_of_ble_eq_true rfl⟩) hK hP hD hS hA (va_recv hK hP (ci := 13) (q0 := 0) rfl rfl) rfl hl.1 rfl (Nat.le_of_ble_eq_true rfl) dX11_answerOf_341 ⟨by show 0 + 0 ≤ 18 * k0; omega, by show 0 + 0 ≤ 101 * k0; omega⟩ (fun r_431 u_432 H locs q_430 hP hD hS => ?_)
                                              have hP : va_P (dC, dI) vwCl (cW g ty pl ac u_432 md Z P) H := hP
                                              have hD : va_D A (cW g ty pl ac u_432 md Z P) := hD
                                              have hq := q_430
                                              refine W.widen (k := 18 * k0) (n := 101 * k0) (by show 0 + 0 ≤ 18 * k0; omega) (by show 0 + 0 ≤ 101 * k0; omega) ?_
                                              refine cr_l (wo := fun u : (Nat → Option Nat) × Int32 × Int32 × cQ => cW g ty u.1 ac u.2.1 u.2.2.1 Z u.2.2.2) ((pl, u_432, md, P)) hx hb hr hlk hS hP hD ?_ dX11_answerOf_344
                                              exact Or.inr (Or.inr (Or.inr (Or.inr (Or.inr (Or.inr (Or.inr (Or.inr (Or.inr (Or.inr (Or.inr (Or.inr (Or.inr (Or.inr (Or.inr (Or.inr (Or.inr (Or.inr (Or.inr (Or.inr (Or.inr (Or.inr (Or.inr (Or.inr (Or.inr (Or.inr (Or.inr (Or.inr (Or.inr (Or.inr (Or.inr (Or.inr (Or.inr (Or.inl ⟨r_431, u_432, rfl, rfl, (by assumption), (by exact hq)⟩)))))))))))))))))))))))))))))))))
                                            · show _
                                              by_cases e_433 : w0 = 22
                                              · show _
                                                refine lv_tableIn (off := 344) (tgt := 345) hx hb dX11_answerOf_1 (by rw [e_433]; decide) (by rw [e_433]; decide) (by rw [e_433]; decide) (by decide) ?_
                                                refine lv_aload_n hx hb dX11_answerOf_345 rfl (lv_at hl 0 rfl) ?_
                                                refine lv_iload_n hx hb dX11_answerOf_346 rfl (lv_at hl 3 rfl) ?_
                                                refine cV_i (C := RX11) (n := 1) (rest := []) hx hb hml hown hg hT (c_X11_isDivisor l dC dI g ty s.heap.size pl ac ft md Z P b0 ) (cv_of hg wM_X11_224 wN_X11_isDivisor wL_X11_X11_isDivisor wK_X11_isDivisor wI_X11 (by decide +kernel) ⟨Nat.le_of_ble_eq_true rfl, Nat.le_of_ble_eq_true rfl⟩) hK hP hD hS hA (va_recv hK hP (ci := 13) (q0 := 0) rfl rfl) rfl hl.1 rfl (Nat.le_of_ble_eq_true rfl) dX11_answerOf_347 ⟨by show 0 + 0 ≤ 18 * k0; omega, by show 0 + 0 ≤ 101 * k0; omega⟩ (fun r_435 u_436 H locs q_434 hP hD hS => ?_)
                                                rcases q_434 with ⟨rfl, rfl, f_437⟩ | ⟨rfl, rfl, f_438⟩
                                                · show _
                                                  have hP : va_P (dC, dI) vwCl (cW g ty pl ac ft md Z P) H := hP
                                                  have hD : va_D A (cW g ty pl ac ft md Z P) := hD
                                                  refine lv_if_eq (tgt := 364) hx hb dX11_answerOf_350 (by decide) (fun c9 => absurd c9 (by decide)) (fun _ => ?_)
                                                  refine lv_aload_n hx hb dX11_answerOf_353 rfl (lv_at hl 0 rfl) ?_
                                                  refine va_get (D := (dC, dI)) (ci := 13) (v := .long ac) (C := RX11) (T := TX11) (N := 12) hx hb hg inG11 hown hK hP 0 rfl rfl 3 (by decide) (hg _ wF_X11_68) (fun _ h9 => h9) rfl dX11_answerOf_354 ?_
                                                  refine lv_l2i (v := (ac.toInt32)) hx hb dX11_answerOf_357 rfl ?_
                                                  refine lv_iload_n hx hb dX11_answerOf_358 rfl (lv_at hl 3 rfl) ?_
                                                  refine lv_idiv hx hb dX11_answerOf_359 (by first | assumption | rfl | exact i64_ne (by assumption)) ?_
                                                  refine lv_i2l (v := (((ac.toInt32) / b0).toInt64)) hx hb dX11_answerOf_360 rfl ?_
                                                  refine lv_goto (tgt := 365) hx hb dX11_answerOf_361 (by decide) ?_
                                                  refine W.widen (k := 18 * k0) (n := 101 * k0) (by show 0 + 0 ≤ 18 * k0; omega) (by show 0 + 0 ≤ 101 * k0; omega) ?_
                                                  refine cr_l (wo := fun u : (Nat → Option Nat) × Int32 × Int32 × cQ => cW g ty u.1 ac u.2.1 u.2.2.1 Z u.2.2.2) ((pl, ft, md, P)) hx hb hr hlk hS hP hD ?_ dX11_answerOf_365
                                                  exact Or.inr (Or.inr (Or.inr (Or.inr (Or.inr (Or.inr (Or.inr (Or.inr (Or.inr (Or.inr (Or.inr (Or.inr (Or.inr (Or.inr (Or.inr (Or.inr (Or.inr (Or.inr (Or.inr (Or.inr (Or.inr (Or.inr (Or.inr (Or.inr (Or.inr (Or.inr (Or.inr (Or.inr (Or.inr (Or.inr (Or.inr (Or.inr (Or.inr (Or.inr (Or.inr (Or.inl ⟨rfl, rfl, (by first | assumption | rfl | exact i64_ne (by assumption)), (by first | assumption | rfl | exact i64_ne (by assumption))⟩)))))))))))))))))))))))))))))))))))
                                                · show _
                                                  have hP : va_P (dC, dI) vwCl (cW g ty pl ac 0 md Z P) H := hP
                                                  have hD : va_D A (cW g ty pl ac 0 md Z P) := hD
                                                  refine lv_if_eq (tgt := 364) hx hb dX11_answerOf_350 (by decide) (fun _ => ?_) (fun c9 => absurd (by decide) c9) 
                                                  refine lv_lconst (v := 0) hx hb dX11_answerOf_364 (by decide) ?_
                                                  refine W.widen (k := 18 * k0) (n := 101 * k0) (by show 0 + 0 ≤ 18 * k0; omega) (by show 0 + 0 ≤ 101 * k0; omega) ?_
                                                  refine cr_l (wo := fun u : (Nat → Option Nat) × Int32 × Int32 × cQ => cW g ty u.1 ac u.2.1 u.2.2.1 Z u.2.2.2) ((pl, 0, md, P)) hx hb hr hlk hS hP hD ?_ dX11_answerOf_365
                                                  exact Or.inr (Or.inr (Or.inr (Or.inr (Or.inr (Or.inr (Or.inr (Or.inr (Or.inr (Or.inr (Or.inr (Or.inr (Or.inr (Or.inr (Or.inr (Or.inr (Or.inr (Or.inr (Or.inr (Or.inr (Or.inr (Or.inr (Or.inr (Or.inr (Or.inr (Or.inr (Or.inr (Or.inr (Or.inr (Or.inr (Or.inr (Or.inr (Or.inr (Or.inr (Or.inl ⟨rfl, rfl, (by first | assumption | rfl | exact i64_ne (by assumption)), (by first | assumption | rfl | exact i64_ne (by assumption))⟩))))))))))))))))))))))))))))))))))
                                              · show _
                                                by_cases e_439 : w0 = 23
                                                · show _
                                                  refine lv_tableIn (off := 365) (tgt := 366) hx hb dX11_answerOf_1 (by rw [e_439]; decide) (by rw [e_439]; decide) (by rw [e_439]; decide) (by decide) ?_
                                                  refine lv_aload_n hx hb dX11_answerOf_366 rfl (lv_at hl 0 rfl) ?_
                                                  refine lv_iload_n hx hb dX11_answerOf_367 rfl (lv_at hl 3 rfl) ?_
                                                  refine cV_i (C := RX11) (n := 1) (rest := []) hx hb hml hown hg hT (c_X11_isDivisor l dC dI g ty s.heap.size pl ac ft md Z P b0 ) (cv_of hg wM_X11_224 wN_X11_isDivisor wL_X11_X11_isDivisor wK_X11_isDivisor wI_X11 (by decide +kernel) ⟨Nat.le_of_ble_eq_true rfl, Nat.le_of_ble_eq_true rfl⟩) hK hP hD hS hA (va_recv hK hP (ci := 13) (q0 := 0) rfl rfl) rfl hl.1 rfl (Nat.le_of_ble_eq_true rfl) dX11_answerOf_368 ⟨by show 0 + 0 ≤ 18 * k0; omega, by show 0 + 0 ≤ 101 * k0; omega⟩ (fun r_441 u_442 H locs q_440 hP hD hS => ?_)
                                                  rcases q_440 with ⟨rfl, rfl, f_443⟩ | ⟨rfl, rfl, f_444⟩
                                                  · show _
                                                    have hP : va_P (dC, dI) vwCl (cW g ty pl ac ft md Z P) H := hP
                                                    have hD : va_D A (cW g ty pl ac ft md Z P) := hD
                                                    refine lv_if_eq (tgt := 385) hx hb dX11_answerOf_371 (by decide) (fun c9 => absurd c9 (by decide)) (fun _ => ?_)
                                                    refine lv_aload_n hx hb dX11_answerOf_374 rfl (lv_at hl 0 rfl) ?_
                                                    refine va_get (D := (dC, dI)) (ci := 13) (v := .long ac) (C := RX11) (T := TX11) (N := 12) hx hb hg inG11 hown hK hP 0 rfl rfl 3 (by decide) (hg _ wF_X11_68) (fun _ h9 => h9) rfl dX11_answerOf_375 ?_
                                                    refine lv_l2i (v := (ac.toInt32)) hx hb dX11_answerOf_378 rfl ?_
                                                    refine lv_iload_n hx hb dX11_answerOf_379 rfl (lv_at hl 3 rfl) ?_
                                                    refine lv_irem hx hb dX11_answerOf_380 (by first | assumption | rfl | exact i64_ne (by assumption)) ?_
                                                    refine lv_i2l (v := (((ac.toInt32) - (ac.toInt32) / b0 * b0).toInt64)) hx hb dX11_answerOf_381 rfl ?_
                                                    refine lv_goto (tgt := 386) hx hb dX11_answerOf_382 (by decide) ?_
                                                    refine W.widen (k := 18 * k0) (n := 101 * k0) (by show 0 + 0 ≤ 18 * k0; omega) (by show 0 + 0 ≤ 101 * k0; omega) ?_
                                                    refine cr_l (wo := fun u : (Nat → Option Nat) × Int32 × Int32 × cQ => cW g ty u.1 ac u.2.1 u.2.2.1 Z u.2.2.2) ((pl, ft, md, P)) hx hb hr hlk hS hP hD ?_ dX11_answerOf_386
                                                    exact Or.inr (Or.inr (Or.inr (Or.inr (Or.inr (Or.inr (Or.inr (Or.inr (Or.inr (Or.inr (Or.inr (Or.inr (Or.inr (Or.inr (Or.inr (Or.inr (Or.inr (Or.inr (Or.inr (Or.inr (Or.inr (Or.inr (Or.inr (Or.inr (Or.inr (Or.inr (Or.inr (Or.inr (Or.inr (Or.inr (Or.inr (Or.inr (Or.inr (Or.inr (Or.inr (Or.inr (Or.inr (Or.inl ⟨rfl, rfl, (by first | assumption | rfl | exact i64_ne (by assumption)), (by first | assumption | rfl | exact i64_ne (by assumption))⟩)))))))))))))))))))))))))))))))))))))
                                                  · show _
                                                    have hP : va_P (dC, dI) vwCl (cW g ty pl ac 0 md Z P) H := hP
                                                    have hD : va_D A (cW g ty pl ac 0 md Z P) := hD
                                                    refine lv_if_eq (tgt := 385) hx hb dX11_answerOf_371 (by decide) (fun _ => ?_) (fun c9 => absurd (by decide) c9) 
                                                    refine lv_lconst (v := 0) hx hb dX11_answerOf_385 (by decide) ?_
                                                    refine W.widen (k := 18 * k0) (n := 101 * k0) (by show 0 + 0 ≤ 18 * k0; omega) (by show 0 + 0 ≤ 101 * k0; omega) ?_
                                                    refine cr_l (wo := fun u : (Nat → Option Nat) × Int32 × Int32 × cQ => cW g ty u.1 ac u.2.1 u.2.2.1 Z u.2.2.2) ((pl, 0, md, P)) hx hb hr hlk hS hP hD ?_ dX11_answerOf_386
                                                    exact Or.inr (Or.inr (Or.inr (Or.inr (Or.inr (Or.inr (Or.inr (Or.inr (Or.inr (Or.inr (Or.inr (Or.inr (Or.inr (Or.inr (Or.inr (Or.inr (Or.inr (Or.inr (Or.inr (Or.inr (Or.inr (Or.inr (Or.inr (Or.inr (Or.inr (Or.inr (Or.inr (Or.inr (Or.inr (Or.inr (Or.inr (Or.inr (Or.inr (Or.inr (Or.inr (Or.inr (Or.inl ⟨rfl, rfl, (by first | assumption | rfl | exact i64_ne (by assumption)), (by first | assumption | rfl | exact i64_ne (by assumption))⟩))))))))))))))))))))))))))))))))))))
                                                · show _
                                                  by_cases e_445 : w0 = 24
                                                  · show _
                                                    refine lv_tableIn (off := 386) (tgt := 387) hx hb dX11_answerOf_1 (by rw [e_445]; decide) (by rw [e_445]; decide) (by rw [e_445]; decide) (by decide) ?_
                                                    refine lv_aload_n hx hb dX11_answerOf_387 rfl (lv_at hl 0 rfl) ?_
                                                    refine lv_iload_n hx hb dX11_answerOf_388 rfl (lv_at hl 3 rfl) ?_
                                                    refine cV_i (C := RX11) (n := 1) (rest := []) hx hb hml hown hg hT (c_X11_isDivisor l dC dI g ty s.heap.size pl ac ft md Z P b0 ) (cv_of hg wM_X11_224 wN_X11_isDivisor wL_X11_X11_isDivisor wK_X11_isDivisor wI_X11 (by decide +kernel) ⟨Nat.le_of_ble_eq_true rfl, Nat.le_of_ble_eq_true rfl⟩) hK hP hD hS hA (va_recv hK hP (ci := 13) (q0 := 0) rfl rfl) rfl hl.1 rfl (Nat.le_of_ble_eq_true rfl) dX11_answerOf_389 ⟨by show 0 + 0 ≤ 18 * k0; omega, by show 0 + 0 ≤ 101 * k0; omega⟩ (fun r_447 u_448 H locs q_446 hP hD hS => ?_)
                                                    rcases q_446 with ⟨rfl, rfl, f_449⟩ | ⟨rfl, rfl, f_450⟩
                                                    · show _
                                                      have hP : va_P (dC, dI) vwCl (cW g ty pl ac ft md Z P) H := hP
                                                      have hD : va_D A (cW g ty pl ac ft md Z P) := hD
                                                      refine lv_if_eq (tgt := 405) hx hb dX11_answerOf_392 (by decide) (fun c9 => absurd c9 (by decide)) (fun _ => ?_)
                                                      refine lv_aload_n hx hb dX11_answerOf_395 rfl (lv_at hl 0 rfl) ?_
                                                      refine va_get (D := (dC, dI)) (ci := 13) (v := .long ac) (C := RX11) (T := TX11) (N := 12) hx hb hg inG11 hown hK hP 0 rfl rfl 3 (by decide) (hg _ wF_X11_68) (fun _ h9 => h9) rfl dX11_answerOf_396 ?_
                                                      refine lv_iload_n hx hb dX11_answerOf_399 rfl (lv_at hl 3 rfl) ?_
                                                      refine lv_i2l (v := (b0.toInt64)) hx hb dX11_answerOf_400 rfl ?_
                                                      refine lv_ldiv hx hb dX11_answerOf_401 (by first | assumption | rfl | exact i64_ne (by assumption)) ?_
                                                      refine lv_goto (tgt := 406) hx hb dX11_answerOf_402 (by decide) ?_
                                                      refine W.widen (k := 18 * k0) (n := 101 * k0) (by show 0 + 0 ≤ 18 * k0; omega) (by show 0 + 0 ≤ 101 * k0; omega) ?_
                                                      refine cr_l (wo := fun u : (Nat → Option Nat) × Int32 × Int32 × cQ => cW g ty u.1 ac u.2.1 u.2.2.1 Z u.2.2.2) ((pl, ft, md, P)) hx hb hr hlk hS hP hD ?_ dX11_answerOf_406
                                                      exact Or.inr (Or.inr (Or.inr (Or.inr (Or.inr (Or.inr (Or.inr (Or.inr (Or.inr (Or.inr (Or.inr (Or.inr (Or.inr (Or.inr (Or.inr (Or.inr (Or.inr (Or.inr (Or.inr (Or.inr (Or.inr (Or.inr (Or.inr (Or.inr (Or.inr (Or.inr (Or.inr (Or.inr (Or.inr (Or.inr (Or.inr (Or.inr (Or.inr (Or.inr (Or.inr (Or.inr (Or.inr (Or.inr (Or.inr (Or.inl ⟨rfl, rfl, (by first | assumption | rfl | exact i64_ne (by assumption)), (by first | assumption | rfl | exact i64_ne (by assumption))⟩)))))))))))))))))))))))))))))))))))))))
                                                    · show _
                                                      have hP : va_P (dC, dI) vwCl (cW g ty pl ac 0 md Z P) H := hP
                                                      have hD : va_D A (cW g ty pl ac 0 md Z P) := hD
                                                      refine lv_if_eq (tgt := 405) hx hb dX11_answerOf_392 (by decide) (fun _ => ?_) (fun c9 => absurd (by decide) c9) 
                                                      refine lv_lconst (v := 0) hx hb dX11_answerOf_405 (by decide) ?_
                                                      refine W.widen (k := 18 * k0) (n := 101 * k0) (by show 0 + 0 ≤ 18 * k0; omega) (by show 0 + 0 ≤ 101 * k0; omega) ?_
                                                      refine cr_l (wo := fun u : (Nat → Option Nat) × Int32 × Int32 × cQ => cW g ty u.1 ac u.2.1 u.2.2.1 Z u.2.2.2) ((pl, 0, md, P)) hx hb hr hlk hS hP hD ?_ dX11_answerOf_406
                                                      exact Or.inr (Or.inr (Or.inr (Or.inr (Or.inr (Or.inr (Or.inr (Or.inr (Or.inr (Or.inr (Or.inr (Or.inr (Or.inr (Or.inr (Or.inr (Or.inr (Or.inr (Or.inr (Or.inr (Or.inr (Or.inr (Or.inr (Or.inr (Or.inr (Or.inr (Or.inr (Or.inr (Or.inr (Or.inr (Or.inr (Or.inr (Or.inr (Or.inr (Or.inr (Or.inr (Or.inr (Or.inr (Or.inr (Or.inl ⟨rfl, rfl, (by first | assumption | rfl | exact i64_ne (by assumption)), (by first | assumption | rfl | exact i64_ne (by assumption))⟩))))))))))))))))))))))))))))))))))))))
                                                  · show _
                                                    by_cases e_451 : w0 = 25
                                                    · show _
                                                      refine lv_tableIn (off := 406) (tgt := 407) hx hb dX11_answerOf_1 (by rw [e_451]; decide) (by rw [e_451]; decide) (by rw [e_451]; decide) (by decide) ?_
                                                      refine lv_aload_n hx hb dX11_answerOf_407 rfl (lv_at hl 0 rfl) ?_
                                                      refine lv_iload_n hx hb dX11_answerOf_408 rfl (lv_at hl 3 rfl) ?_
                                                      refine cV_i (C := RX11) (n := 1) (rest := []) hx hb hml hown hg hT (c_X11_isDivisor l dC dI g ty s.heap.size pl ac ft md Z P b0 ) (cv_of hg wM_X11_224 wN_X11_isDivisor wL_X11_X11_isDivisor wK_X11_isDivisor wI_X11 (by decide +kernel) ⟨Nat.le_of_ble_eq_true rfl, Nat.le_of_ble_eq_true rfl⟩) hK hP hD hS hA (va_recv hK hP (ci := 13) (q0 := 0) rfl rfl) rfl hl.1 rfl (Nat.le_of_ble_eq_true rfl) dX11_answerOf_409 ⟨by show 0 + 0 ≤ 18 * k0; omega, by show 0 + 0 ≤ 101 * k0; omega⟩ (fun r_453 u_454 H locs q_452 hP hD hS => ?_)
                                                      rcases q_452 with ⟨rfl, rfl, f_455⟩ | ⟨rfl, rfl, f_456⟩
                                                      · show _
                                                        have hP : va_P (dC, dI) vwCl (cW g ty pl ac ft md Z P) H := hP
                                                        have hD : va_D A (cW g ty pl ac ft md Z P) := hD
                                                        refine lv_if_eq (tgt := 425) hx hb dX11_answerOf_412 (by decide) (fun c9 => absurd c9 (by decide)) (fun _ => ?_)
                                                        refine lv_aload_n hx hb dX11_answerOf_415 rfl (lv_at hl 0 rfl) ?_
                                                        refine va_get (D := (dC, dI)) (ci := 13) (v := .long ac) (C := RX11) (T := TX11) (N := 12) hx hb hg inG11 hown hK hP 0 rfl rfl 3 (by decide) (hg _ wF_X11_68) (fun _ h9 => h9) rfl dX11_answerOf_416 ?_
                                                        refine lv_iload_n hx hb dX11_answerOf_419 rfl (lv_at hl 3 rfl) ?_
                                                        refine lv_i2l (v := (b0.toInt64)) hx hb dX11_answerOf_420 rfl ?_
                                                        refine lv_lrem hx hb dX11_answerOf_421 (by first | assumption | rfl | exact i64_ne (by assumption)) ?_
                                                        refine lv_goto (tgt := 426) hx hb dX11_answerOf_422 (by decide) ?_
                                                        refine W.widen (k := 18 * k0) (n := 101 * k0) (by show 0 + 0 ≤ 18 * k0; omega) (by show 0 + 0 ≤ 101 * k0; omega) ?_
                                                        refine cr_l (wo := fun u : (Nat → Option Nat) × Int32 × Int32 × cQ => cW g ty u.1 ac u.2.1 u.2.2.1 Z u.2.2.2) ((pl, ft, md, P)) hx hb hr hlk hS hP hD ?_ dX11_answerOf_426
                                                        exact Or.inr (Or.inr (Or.inr (Or.inr (Or.inr (Or.inr (Or.inr (Or.inr (Or.inr (Or.inr (Or.inr (Or.inr (Or.inr (Or.inr (Or.inr (Or.inr (Or.inr (Or.inr (Or.inr (Or.inr (Or.inr (Or.inr (Or.inr (Or.inr (Or.inr (Or.inr (Or.inr (Or.inr (Or.inr (Or.inr (Or.inr (Or.inr (Or.inr (Or.inr (Or.inr (Or.inr (Or.inr (Or.inr (Or.inr (Or.inr (Or.inr (Or.inl ⟨rfl, rfl, (by first | assumption | rfl | exact i64_ne (by assumption)), (by first | assumption | rfl | exact i64_ne (by assumption))⟩)))))))))))))))))))))))))))))))))))))))))
                                                      · show _
                                                        have hP : va_P (dC, dI) vwCl (cW g ty pl ac 0 md Z P) H := hP
                                                        have hD : va_D A (cW g ty pl ac 0 md Z P) := hD
                                                        refine lv_if_eq (tgt := 425) hx hb dX11_answerOf_412 (by decide) (fun _ => ?_) (fun c9 => absurd (by decide) c9) 
                                                        refine lv_lconst (v := 0) hx hb dX11_answerOf_425 (by decide) ?_
                                                        refine W.widen (k := 18 * k0) (n := 101 * k0) (by show 0 + 0 ≤ 18 * k0; omega) (by show 0 + 0 ≤ 101 * k0; omega) ?_
                                                        refine cr_l (wo := fun u : (Nat → Option Nat) × Int32 × Int32 × cQ => cW g ty u.1 ac u.2.1 u.2.2.1 Z u.2.2.2) ((pl, 0, md, P)) hx hb hr hlk hS hP hD ?_ dX11_answerOf_426
                                                        exact Or.inr (Or.inr (Or.inr (Or.inr (Or.inr (Or.inr (Or.inr (Or.inr (Or.inr (Or.inr (Or.inr (Or.inr (Or.inr (Or.inr (Or.inr (Or.inr (Or.inr (Or.inr (Or.inr (Or.inr (Or.inr (Or.inr (Or.inr (Or.inr (Or.inr (Or.inr (Or.inr (Or.inr (Or.inr (Or.inr (Or.inr (Or.inr (Or.inr (Or.inr (Or.inr (Or.inr (Or.inr (Or.inr (Or.inr (Or.inr (Or.inl ⟨rfl, rfl, (by first | assumption | rfl | exact i64_ne (by assumption)), (by first | assumption | rfl | exact i64_ne (by assumption))⟩))))))))))))))))))))))))))))))))))))))))
                                                    · show _
                                                      by_cases e_457 : w0 = 26
                                                      · show _
                                                        refine lv_tableIn (off := 426) (tgt := 427) hx hb dX11_answerOf_1 (by rw [e_457]; decide) (by rw [e_457]; decide) (by rw [e_457]; decide) (by decide) ?_
                                                        refine lv_aload_n hx hb dX11_answerOf_427 rfl (lv_at hl 0 rfl) ?_
                                                        refine lv_iload_n hx hb dX11_answerOf_428 rfl (lv_at hl 2 rfl) ?_
                                                        refine cV_l (C := RX11) (n := 1) (rest := []) hx hb hml hown hg hT (c_X11_raise l dC dI g ty s.heap.size pl ac ft md Z P a0 wf ) (cv_of hg wM_X11_227 wN_X11_raise wL_X11_X11_raise wK_X11_raise wI_X11 (by decide +kernel) ⟨Nat.le_of_ble_eq_true rfl, Nat.le_of_ble_eq_true rfl⟩) hK hP hD hS hA (va_recv hK hP (ci := 13) (q0 := 0) rfl rfl) rfl hl.1 rfl (Nat.le_of_ble_eq_true rfl) dX11_answerOf_429 ⟨by show 0 + 0 ≤ 18 * k0; omega, by show 0 + 0 ≤ 101 * k0; omega⟩ (fun r_459 u_460 H locs q_458 hP hD hS => ?_)
                                                        have hP : va_P (dC, dI) vwCl (cW g ty pl ac u_460 md Z P) H := hP
                                                        have hD : va_D A (cW g ty pl ac u_460 md Z P) := hD
                                                        have hq := q_458
                                                        refine W.widen (k := 18 * k0) (n := 101 * k0) (by show 0 + 0 ≤ 18 * k0; omega) (by show 0 + 0 ≤ 101 * k0; omega) ?_
                                                        refine cr_l (wo := fun u : (Nat → Option Nat) × Int32 × Int32 × cQ => cW g ty u.1 ac u.2.1 u.2.2.1 Z u.2.2.2) ((pl, u_460, md, P)) hx hb hr hlk hS hP hD ?_ dX11_answerOf_432
                                                        exact Or.inr (Or.inr (Or.inr (Or.inr (Or.inr (Or.inr (Or.inr (Or.inr (Or.inr (Or.inr (Or.inr (Or.inr (Or.inr (Or.inr (Or.inr (Or.inr (Or.inr (Or.inr (Or.inr (Or.inr (Or.inr (Or.inr (Or.inr (Or.inr (Or.inr (Or.inr (Or.inr (Or.inr (Or.inr (Or.inr (Or.inr (Or.inr (Or.inr (Or.inr (Or.inr (Or.inr (Or.inr (Or.inr (Or.inr (Or.inr (Or.inr (Or.inr (Or.inl ⟨r_459, u_460, rfl, rfl, (by assumption), (by exact hq)⟩))))))))))))))))))))))))))))))))))))))))))
                                                      · show _
                                                        by_cases e_461 : w0 = 27
                                                        · show _
                                                          refine lv_tableIn (off := 432) (tgt := 433) hx hb dX11_answerOf_1 (by rw [e_461]; decide) (by rw [e_461]; decide) (by rw [e_461]; decide) (by decide) ?_
                                                          refine lv_aload_n hx hb dX11_answerOf_433 rfl (lv_at hl 0 rfl) ?_
                                                          refine lv_iload_n hx hb dX11_answerOf_434 rfl (lv_at hl 2 rfl) ?_
                                                          refine lv_iload_n hx hb dX11_answerOf_435 rfl (lv_at hl 3 rfl) ?_
                                                          refine cV_l (C := RX11) (n := 2) (rest := []) hx hb hml hown hg hT (c_X11_holdsSort l dC dI g ty s.heap.size pl ac ft md Z P a0 b0 wf ) (cv_of hg wM_X11_230 wN_X11_holdsSort wL_X11_X11_holdsSort wK_X11_holdsSort wI_X11 (by decide +kernel) ⟨Nat.le_of_ble_eq_true rfl, Nat.le_of_ble_eq_true rfl⟩) hK hP hD hS hA (va_recv hK hP (ci := 13) (q0 := 0) rfl rfl) rfl hl.1 rfl (Nat.le_of_ble_eq_true rfl) dX11_answerOf_436 ⟨by show 0 + 0 ≤ 18 * k0; omega, by show 0 + 0 ≤ 101 * k0; omega⟩ (fun r_463 u_464 H locs q_462 hP hD hS => ?_)
                                                          have hP : va_P (dC, dI) vwCl (cW g ty pl ac u_464 md Z P) H := hP
                                                          have hD : va_D A (cW g ty pl ac u_464 md Z P) := hD
                                                          have hq := q_462
                                                          refine W.widen (k := 18 * k0) (n := 101 * k0) (by show 0 + 0 ≤ 18 * k0; omega) (by show 0 + 0 ≤ 101 * k0; omega) ?_
                                                          refine cr_l (wo := fun u : (Nat → Option Nat) × Int32 × Int32 × cQ => cW g ty u.1 ac u.2.1 u.2.2.1 Z u.2.2.2) ((pl, u_464, md, P)) hx hb hr hlk hS hP hD ?_ dX11_answerOf_439
                                                          exact Or.inr (Or.inr (Or.inr (Or.inr (Or.inr (Or.inr (Or.inr (Or.inr (Or.inr (Or.inr (Or.inr (Or.inr (Or.inr (Or.inr (Or.inr (Or.inr (Or.inr (Or.inr (Or.inr (Or.inr (Or.inr (Or.inr (Or.inr (Or.inr (Or.inr (Or.inr (Or.inr (Or.inr (Or.inr (Or.inr (Or.inr (Or.inr (Or.inr (Or.inr (Or.inr (Or.inr (Or.inr (Or.inr (Or.inr (Or.inr (Or.inr (Or.inr (Or.inr (Or.inl ⟨r_463, u_464, rfl, rfl, (by assumption), (by exact hq)⟩)))))))))))))))))))))))))))))))))))))))))))
                                                        · show _
                                                          by_cases e_465 : w0 = 28
                                                          · show _
                                                            refine lv_tableIn (off := 439) (tgt := 440) hx hb dX11_answerOf_1 (by rw [e_465]; decide) (by rw [e_465]; decide) (by rw [e_465]; decide) (by decide) ?_
                                                            refine lv_aload_n hx hb dX11_answerOf_440 rfl (lv_at hl 0 rfl) ?_
                                                            refine lv_iload_n hx hb dX11_answerOf_441 rfl (lv_at hl 2 rfl) ?_
                                                            refine cV_l (C := RX11) (n := 1) (rest := []) hx hb hml hown hg hT (c_X11_clear l dC dI g ty s.heap.size pl ac ft md Z P a0 ) (cv_of hg wM_X11_233 wN_X11_clear wL_X11_X11_clear wK_X11_clear wI_X11 (by decide +kernel) ⟨Nat.le_of_ble_eq_true rfl, Nat.le_of_ble_eq_true rfl⟩) hK hP hD hS hA (va_recv hK hP (ci := 13) (q0 := 0) rfl rfl) rfl hl.1 rfl (Nat.le_of_ble_eq_true rfl) dX11_answerOf_442 ⟨by show 0 + 0 ≤ 18 * k0; omega, by show 0 + 0 ≤ 101 * k0; omega⟩ (fun r_467 u_468 H locs q_466 hP hD hS => ?_)
                                                            have hP : va_P (dC, dI) vwCl (cW g ty u_468.1 ac u_468.2 md Z P) H := hP
                                                            have hD : va_D A (cW g ty u_468.1 ac u_468.2 md Z P) := hD
                                                            have hq := q_466
                                                            refine W.widen (k := 18 * k0) (n := 101 * k0) (by show 0 + 0 ≤ 18 * k0; omega) (by show 0 + 0 ≤ 101 * k0; omega) ?_
                                                            refine cr_l (wo := fun u : (Nat → Option Nat) × Int32 × Int32 × cQ => cW g ty u.1 ac u.2.1 u.2.2.1 Z u.2.2.2) ((u_468.1, u_468.2, md, P)) hx hb hr hlk hS hP hD ?_ dX11_answerOf_445
                                                            exact Or.inr (Or.inr (Or.inr (Or.inr (Or.inr (Or.inr (Or.inr (Or.inr (Or.inr (Or.inr (Or.inr (Or.inr (Or.inr (Or.inr (Or.inr (Or.inr (Or.inr (Or.inr (Or.inr (Or.inr (Or.inr (Or.inr (Or.inr (Or.inr (Or.inr (Or.inr (Or.inr (Or.inr (Or.inr (Or.inr (Or.inr (Or.inr (Or.inr (Or.inr (Or.inr (Or.inr (Or.inr (Or.inr (Or.inr (Or.inr (Or.inr (Or.inr (Or.inr (Or.inr (Or.inl ⟨r_467, u_468, rfl, rfl, (by assumption), (by exact hq)⟩))))))))))))))))))))))))))))))))))))))))))))
                                                          · show _
                                                            by_cases e_469 : w0 = 29
                                                            · show _
                                                              refine lv_tableIn (off := 445) (tgt := 446) hx hb dX11_answerOf_1 (by rw [e_469]; decide) (by rw [e_469]; decide) (by rw [e_469]; decide) (by decide) ?_
                                                              refine lv_aload_n hx hb dX11_answerOf_446 rfl (lv_at hl 0 rfl) ?_
                                                              refine lv_iload_n hx hb dX11_answerOf_447 rfl (lv_at hl 2 rfl) ?_
                                                              refine lv_iload_n hx hb dX11_answerOf_448 rfl (lv_at hl 3 rfl) ?_
                                                              refine cV_l (C := RX11) (n := 2) (rest := []) hx hb hml hown hg hT (c_X11_move l dC dI g ty s.heap.size pl ac ft md Z P a0 b0 wf ) (cv_of hg wM_X11_236 wN_X11_move wL_X11_X11_move wK_X11_move wI_X11 (by decide +kernel) ⟨Nat.le_of_ble_eq_true rfl, Nat.le_of_ble_eq_true rfl⟩) hK hP hD hS hA (va_recv hK hP (ci := 13) (q0 := 0) rfl rfl) rfl hl.1 rfl (Nat.le_of_ble_eq_true rfl) dX11_answerOf_449 ⟨by show 0 + 0 ≤ 18 * k0; omega, by show 0 + 0 ≤ 101 * k0; omega⟩ (fun r_471 u_472 H locs q_470 hP hD hS => ?_)
                                                              have hP : va_P (dC, dI) vwCl (cW g ty u_472.1 ac u_472.2 md Z P) H := hP
                                                              have hD : va_D A (cW g ty u_472.1 ac u_472.2 md Z P) := hD
                                                              have hq := q_470
                                                              refine W.widen (k := 18 * k0) (n := 101 * k0) (by show 0 + 0 ≤ 18 * k0; omega) (by show 0 + 0 ≤ 101 * k0; omega) ?_
                                                              refine cr_l (wo := fun u : (Nat → Option Nat) × Int32 × Int32 × cQ => cW g ty u.1 ac u.2.1 u.2.2.1 Z u.2.2.2) ((u_472.1, u_472.2, md, P)) hx hb hr hlk hS hP hD ?_ dX11_answerOf_452
                                                              exact Or.inr (Or.inr (Or.inr (Or.inr (Or.inr (Or.inr (Or.inr (Or.inr (Or.inr (Or.inr (Or.inr (Or.inr (Or.inr (Or.inr (Or.inr (Or.inr (Or.inr (Or.inr (Or.inr (Or.inr (Or.inr (Or.inr (Or.inr (Or.inr (Or.inr (Or.inr (Or.inr (Or.inr (Or.inr (Or.inr (Or.inr (Or.inr (Or.inr (Or.inr (Or.inr (Or.inr (Or.inr (Or.inr (Or.inr (Or.inr (Or.inr (Or.inr (Or.inr (Or.inr (Or.inr (Or.inl ⟨r_471, u_472, rfl, rfl, (by assumption), (by exact hq)⟩)))))))))))))))))))))))))))))))))))))))))))))
                                                            · show _
                                                              by_cases e_473 : w0 = 30
                                                              · show _
                                                                refine lv_tableIn (off := 452) (tgt := 453) hx hb dX11_answerOf_1 (by rw [e_473]; decide) (by rw [e_473]; decide) (by rw [e_473]; decide) (by decide) ?_
                                                                refine lv_aload_n hx hb dX11_answerOf_453 rfl (lv_at hl 0 rfl) ?_
                                                                refine lv_iload_n hx hb dX11_answerOf_454 rfl (lv_at hl 2 rfl) ?_
                                                                refine lv_iload_n hx hb dX11_answerOf_455 rfl (lv_at hl 3 rfl) ?_
                                                                refine cV_l (C := RX11) (n := 2) (rest := []) hx hb hml hown hg hT (c_X11_holdSame l dC dI g ty s.heap.size pl ac ft md Z P a0 b0 wf ) (cv_of hg wM_X11_239 wN_X11_holdSame wL_X11_X11_holdSame wK_X11_holdSame wI_X11 (by decide +kernel) ⟨Nat.le_of_ble_eq_true rfl, Nat.le_of_ble_eq_true rfl⟩) hK hP hD hS hA (va_recv hK hP (ci := 13) (q0 := 0) rfl rfl) rfl hl.1 rfl (Nat.le_of_ble_eq_true rfl) dX11_answerOf_456 ⟨by show 0 + 0 ≤ 18 * k0; omega, by show 0 + 0 ≤ 101 * k0; omega⟩ (fun r_475 u_476 H locs q_474 hP hD hS => ?_)
                                                                have hP : va_P (dC, dI) vwCl (cW g ty pl ac u_476 md Z P) H := hP
                                                                have hD : va_D A (cW g ty pl ac u_476 md Z P) := hD
                                                                have hq := q_474
                                                                refine W.widen (k := 18 * k0) (n := 101 * k0) (by show 0 + 0 ≤ 18 * k0; omega) (by show 0 + 0 ≤ 101 * k0; omega) ?_
                                                                refine cr_l (wo := fun u : (Nat → Option Nat) × Int32 × Int32 × cQ => cW g ty u.1 ac u.2.1 u.2.2.1 Z u.2.2.2) ((pl, u_476, md, P)) hx hb hr hlk hS hP hD ?_ dX11_answerOf_459
                                                                exact Or.inr (Or.inr (Or.inr (Or.inr (Or.inr (Or.inr (Or.inr (Or.inr (Or.inr (Or.inr (Or.inr (Or.inr (Or.inr (Or.inr (Or.inr (Or.inr (Or.inr (Or.inr (Or.inr (Or.inr (Or.inr (Or.inr (Or.inr (Or.inr (Or.inr (Or.inr (Or.inr (Or.inr (Or.inr (Or.inr (Or.inr (Or.inr (Or.inr (Or.inr (Or.inr (Or.inr (Or.inr (Or.inr (Or.inr (Or.inr (Or.inr (Or.inr (Or.inr (Or.inr (Or.inr (Or.inr (Or.inl ⟨r_475, u_476, rfl, rfl, (by assumption), (by exact hq)⟩))))))))))))))))))))))))))))))))))))))))))))))
                                                              · show _
                                                                by_cases e_477 : w0 = 31
                                                                · show _
                                                                  refine lv_tableIn (off := 459) (tgt := 460) hx hb dX11_answerOf_1 (by rw [e_477]; decide) (by rw [e_477]; decide) (by rw [e_477]; decide) (by decide) ?_
                                                                  refine lv_aload_n hx hb dX11_answerOf_460 rfl (lv_at hl 0 rfl) ?_
                                                                  refine lv_iload_n hx hb dX11_answerOf_461 rfl (lv_at hl 2 rfl) ?_
                                                                  refine lv_iload_n hx hb dX11_answerOf_462 rfl (lv_at hl 3 rfl) ?_
                                                                  refine lv_iload hx hb dX11_answerOf_463 (lv_at hl 4 rfl) ?_
                                                                  refine cV_l (C := RX11) (n := 3) (rest := []) hx hb hml hown hg hT (c_X11_copy l dC dI g ty s.heap.size pl ac ft md Z P a0 b0 c0 wf ) (cv_of hg wM_X11_242 wN_X11_copy wL_X11_X11_copy wK_X11_copy wI_X11 (by decide +kernel) ⟨Nat.le_of_ble_eq_true rfl, Nat.le_of_ble_eq_true rfl⟩) hK hP hD hS hA (va_recv hK hP (ci := 13) (q0 := 0) rfl rfl) rfl hl.1 rfl (Nat.le_of_ble_eq_true rfl) dX11_answerOf_465 ⟨by show 0 + 0 ≤ 18 * k0; omega, by show 0 + 0 ≤ 101 * k0; omega⟩ (fun r_479 u_480 H locs q_478 hP hD hS => ?_)
                                                                  have hP : va_P (dC, dI) vwCl (cW g ty pl ac u_480.1 md Z u_480.2) H := hP
                                                                  have hD : va_D A (cW g ty pl ac u_480.1 md Z u_480.2) := hD
                                                                  have hq := q_478
                                                                  refine W.widen (k := 18 * k0) (n := 101 * k0) (by show 0 + 0 ≤ 18 * k0; omega) (by show 0 + 0 ≤ 101 * k0; omega) ?_
                                                                  refine cr_l (wo := fun u : (Nat → Option Nat) × Int32 × Int32 × cQ => cW g ty u.1 ac u.2.1 u.2.2.1 Z u.2.2.2) ((pl, u_480.1, md, u_480.2)) hx hb hr hlk hS hP hD ?_ dX11_answerOf_468
                                                                  exact Or.inr (Or.inr (Or.inr (Or.inr (Or.inr (Or.inr (Or.inr (Or.inr (Or.inr (Or.inr (Or.inr (Or.inr (Or.inr (Or.inr (Or.inr (Or.inr (Or.inr (Or.inr (Or.inr (Or.inr (Or.inr (Or.inr (Or.inr (Or.inr (Or.inr (Or.inr (Or.inr (Or.inr (Or.inr (Or.inr (Or.inr (Or.inr (Or.inr (Or.inr (Or.inr (Or.inr (Or.inr (Or.inr (Or.inr (Or.inr (Or.inr (Or.inr (Or.inr (Or.inr (Or.inr (Or.inr (Or.inr (Or.inl ⟨r_479, u_480, rfl, rfl, (by assumption), (by exact hq)⟩)))))))))))))))))))))))))))))))))))))))))))))))
                                                                · show _
                                                                  refine lv_tableOut (tgt := 469) hx hb dX11_answerOf_1 (by have q0 := lv_neT e_1 (a := 0) rfl; have q1 := lv_neT e_5 (a := 1) rfl; have q2 := lv_neT e_9 (a := 2) rfl; have q3 := lv_neT e_13 (a := 3) rfl; have q4 := lv_neT e_17 (a := 4) rfl; have q5 := lv_neT e_21 (a := 5) rfl; have q6 := lv_neT e_197 (a := 6) rfl; have q7 := lv_neT e_373 (a := 7) rfl; have q8 := lv_neT e_377 (a := 8) rfl; have q9 := lv_neT e_381 (a := 9) rfl; have q10 := lv_neT e_385 (a := 10) rfl; have q11 := lv_neT e_389 (a := 11) rfl; have q12 := lv_neT e_393 (a := 12) rfl; have q13 := lv_neT e_397 (a := 13) rfl; have q14 := lv_neT e_401 (a := 14) rfl; have q15 := lv_neT e_405 (a := 15) rfl; have q16 := lv_neT e_409 (a := 16) rfl; have q17 := lv_neT e_413 (a := 17) rfl; have q18 := lv_neT e_417 (a := 18) rfl; have q19 := lv_neT e_421 (a := 19) rfl; have q20 := lv_neT e_425 (a := 20) rfl; have q21 := lv_neT e_429 (a := 21) rfl; have q22 := lv_neT e_433 (a := 22) rfl; have q23 := lv_neT e_439 (a := 23) rfl; have q24 := lv_neT e_445 (a := 24) rfl; have q25 := lv_neT e_451 (a := 25) rfl; have q26 := lv_neT e_457 (a := 26) rfl; have q27 := lv_neT e_461 (a := 27) rfl; have q28 := lv_neT e_465 (a := 28) rfl; have q29 := lv_neT e_469 (a := 29) rfl; have q30 := lv_neT e_473 (a := 30) rfl; have q31 := lv_neT e_477 (a := 31) rfl; omega) (by decide) ?_
                                                                  refine lv_ldc2 (v := (-1)) hx hb hown (hg _ wQ_X11_156) dX11_answerOf_469 ?_
                                                                  refine W.widen (k := 18 * k0) (n := 101 * k0) (by show 0 ≤ 18 * k0; omega) (by show 0 ≤ 101 * k0; omega) ?_
                                                                  refine cr_l (wo := fun u : (Nat → Option Nat) × Int32 × Int32 × cQ => cW g ty u.1 ac u.2.1 u.2.2.1 Z u.2.2.2) ((pl, ft, md, P)) hx hb hr hlk hS hP hD ?_ dX11_answerOf_472
                                                                  exact Or.inr (Or.inr (Or.inr (Or.inr (Or.inr (Or.inr (Or.inr (Or.inr (Or.inr (Or.inr (Or.inr (Or.inr (Or.inr (Or.inr (Or.inr (Or.inr (Or.inr (Or.inr (Or.inr (Or.inr (Or.inr (Or.inr (Or.inr (Or.inr (Or.inr (Or.inr (Or.inr (Or.inr (Or.inr (Or.inr (Or.inr (Or.inr (Or.inr (Or.inr (Or.inr (Or.inr (Or.inr (Or.inr (Or.inr (Or.inr (Or.inr (Or.inr (Or.inr (Or.inr (Or.inr (Or.inr (Or.inr (Or.inr ⟨rfl, rfl, (by first | assumption | rfl | exact i64_ne (by assumption)), (by first | assumption | rfl | exact i64_ne (by assumption)), (by first | assumption | rfl | exact i64_ne (by assumption)), (by first | assumption | rfl | exact i64_ne (by assumption)), (by first | assumption | rfl | exact i64_ne (by assumption)), (by first | assumption | rfl | exact i64_ne (by assumption)), (by first | assumption | rfl | exact i64_ne (by assumption)), (by first | assumption | rfl | exact i64_ne (by assumption)), (by first | assumption | rfl | exact i64_ne (by assumption)), (by first | assumption | rfl | exact i64_ne (by assumption)), (by first | assumption | rfl | exact i64_ne (by assumption)), (by first | assumption | rfl | exact i64_ne (by assumption)), (by first | assumption | rfl | exact i64_ne (by assumption)), (by first | assumption | rfl | exact i64_ne (by assumption)), (by first | assumption | rfl | exact i64_ne (by assumption)), (by first | assumption | rfl | exact i64_ne (by assumption)), (by first | assumption | rfl | exact i64_ne (by assumption)), (by first | assumption | rfl | exact i64_ne (by assumption)), (by first | assumption | rfl | exact i64_ne (by assumption)), (by first | assumption | rfl | exact i64_ne (by assumption)), (by first | assumption | rfl | exact i64_ne (by assumption)), (by first | assumption | rfl | exact i64_ne (by assumption)), (by first | assumption | rfl | exact i64_ne (by assumption)), (by first | assumption | rfl | exact i64_ne (by assumption)), (by first | assumption | rfl | exact i64_ne (by assumption)), (by first | assumption | rfl | exact i64_ne (by assumption)), (by first | assumption | rfl | exact i64_ne (by assumption)), (by first | assumption | rfl | exact i64_ne (by assumption)), (by first | assumption | rfl | exact i64_ne (by assumption)), (by first | assumption | rfl | exact i64_ne (by assumption)), (by first | assumption | rfl | exact i64_ne (by assumption)), (by first | assumption | rfl | exact i64_ne (by assumption))⟩)))))))))))))))))))))))))))))))))))))))))))))))

/-! ===== answerOf: what it keeps ===== -/
/-- the fault that stands is the old one, or a told one -/
def fo (ft f : Int32) : Prop := f = ft ∨ ∃ k : Nat, k < 7 ∧ f = nI k
theorem fo_let {pl : Nat → Option Nat} {P : cQ} {t x : Nat} {ft : Int32} (wf : cWF pl P) (h : pl x = some t) (hk : kOf (P.2.1 t) (P.2.2.1 t) 15 = true) : fo ft (P.2.2.1 t) := by
  obtain ⟨m1, m2⟩ := wf.1 _ _ h
  obtain ⟨k, h1, h2⟩ := wf.2.2.2.2.2.2.2.1 t m1 (cIs_5 (ki_15 wf m1 m2 hk))
  exact Or.inr ⟨k, h1, h2⟩
theorem fo_makeRow {a0 : Int32} {b0 : Int32} {c0 : Int32} {pl : Nat → Option Nat} {ac : Int64} {ft : Int32} {md : Int32} {Z : cZ} {P : cQ} {rz : Int64} {u : (Nat → Option Nat) × Int32 × Int32 × cQ} (h : q_X11_makeRow a0 b0 c0 pl ac ft md Z P rz u) : fo ft u.2.1 := by
  rcases h with ⟨_, rfl, g2⟩ | ⟨_, rfl, g2, g3⟩ | ⟨_, rfl, g2, g3, g4⟩ | ⟨x_q, x_y, _, rfl, g2, g3, g4, g5, g6, g7⟩
  · exact Or.inr ⟨6, by decide, rfl⟩
  · exact Or.inr ⟨2, by decide, rfl⟩
  · exact Or.inr ⟨4, by decide, rfl⟩
  · exact Or.inl rfl
theorem fo_rowCell {a0 : Int32} {b0 : Int32} {c0 : Int32} {pl : Nat → Option Nat} {ac : Int64} {ft : Int32} {md : Int32} {Z : cZ} {P : cQ} {rz : Int64} {u : Int32} (h : q_X11_rowCell a0 b0 c0 pl ac ft md Z P rz u) : fo ft u := by
  rcases h with ⟨_, rfl, g2⟩ | ⟨x_t, _, rfl, g2, g3, g4⟩ | ⟨_, rfl, g2, g3⟩ | ⟨x_t, x_r, _, rfl, g2, g3, g4, g5, g6⟩ | ⟨x_t, x_r, _, rfl, g2, g3, g4, g5, g6⟩
  · exact Or.inr ⟨2, by decide, rfl⟩
  · exact Or.inr ⟨3, by decide, rfl⟩
  · exact Or.inr ⟨1, by decide, rfl⟩
  · exact Or.inr ⟨2, by decide, rfl⟩
  · exact Or.inl rfl
theorem fo_setRowCell {a0 : Int32} {b0 : Int32} {c0 : Int32} {pl : Nat → Option Nat} {ac : Int64} {ft : Int32} {md : Int32} {Z : cZ} {P : cQ} {rz : Int64} {u : Int32 × cQ} (h : q_X11_setRowCell a0 b0 c0 pl ac ft md Z P rz u) : fo ft u.1 := by
  rcases h with ⟨_, rfl, g2⟩ | ⟨x_t, _, rfl, g2, g3, g4⟩ | ⟨_, rfl, g2, g3⟩ | ⟨x_t, x_r, _, rfl, g2, g3, g4, g5, g6⟩ | ⟨x_t, x_r, _, rfl, g2, g3, g4, g5, g6⟩
  · exact Or.inr ⟨2, by decide, rfl⟩
  · exact Or.inr ⟨3, by decide, rfl⟩
  · exact Or.inr ⟨1, by decide, rfl⟩
  · exact Or.inr ⟨2, by decide, rfl⟩
  · exact Or.inl rfl
theorem fo_rowLength {a0 : Int32} {b0 : Int32} {pl : Nat → Option Nat} {ac : Int64} {ft : Int32} {md : Int32} {Z : cZ} {P : cQ} {rz : Int64} {u : Int32} (h : q_X11_rowLength a0 b0 pl ac ft md Z P rz u) : fo ft u := by
  rcases h with ⟨_, rfl, g2⟩ | ⟨x_t, _, rfl, g2, g3, g4⟩ | ⟨_, rfl, g2, g3⟩ | ⟨x_t, x_r, _, rfl, g2, g3, g4, g5⟩
  · exact Or.inr ⟨2, by decide, rfl⟩
  · exact Or.inr ⟨3, by decide, rfl⟩
  · exact Or.inr ⟨1, by decide, rfl⟩
  · exact Or.inl rfl
theorem fo_makeSheet {a0 : Int32} {b0 : Int32} {c0 : Int32} {pl : Nat → Option Nat} {ac : Int64} {ft : Int32} {md : Int32} {Z : cZ} {P : cQ} {rz : Int64} {u : (Nat → Option Nat) × Int32 × Int32 × cQ} (h : q_X11_makeSheet a0 b0 c0 pl ac ft md Z P rz u) : fo ft u.2.1 := by
  rcases h with ⟨_, rfl, g2⟩ | ⟨_, rfl, g2, g3⟩ | ⟨_, rfl, g2, g3, g4⟩ | ⟨_, rfl, g2, g3, g4, g5⟩ | ⟨x_q, x_y, x_P9, _, rfl, g2, g3, g4, g5, g6, g7, g8, g9⟩
  · exact Or.inr ⟨6, by decide, rfl⟩
  · exact Or.inr ⟨2, by decide, rfl⟩
  · exact Or.inr ⟨4, by decide, rfl⟩
  · exact Or.inr ⟨4, by decide, rfl⟩
  · exact Or.inl rfl
theorem fo_takeOut {s1 : Int32} {a0 : Int32} {b0 : Int32} {c0 : Int32} {pl : Nat → Option Nat} {ac : Int64} {ft : Int32} {md : Int32} {Z : cZ} {P : cQ} {rz : Int64} {u : (Nat → Option Nat) × Int32} (h : q_X11_takeOut s1 a0 b0 c0 pl ac ft md Z P rz u) : fo ft u.2 := by
  rcases h with ⟨_, rfl, g2⟩ | ⟨_, rfl, g2, g3⟩ | ⟨x_t, _, rfl, g2, g3, g4, g5⟩ | ⟨_, rfl, g2, g3, g4⟩ | ⟨x_t, x_y, _, rfl, g2, g3, g4, g5, g6, g7⟩ | ⟨x_t, x_y, x_o, _, rfl, g2, g3, g4, g5, g6, g7, g8⟩
  · exact Or.inr ⟨2, by decide, rfl⟩
  · exact Or.inr ⟨2, by decide, rfl⟩
  · exact Or.inr ⟨3, by decide, rfl⟩
  · exact Or.inr ⟨1, by decide, rfl⟩
  · exact Or.inr ⟨2, by decide, rfl⟩
  · exact Or.inl rfl
theorem fo_putIn {s1 : Int32} {s2 : Int32} {a0 : Int32} {b0 : Int32} {c0 : Int32} {pl : Nat → Option Nat} {ac : Int64} {ft : Int32} {md : Int32} {Z : cZ} {P : cQ} {rz : Int64} {u : Int32 × cQ} (h : q_X11_putIn s1 s2 a0 b0 c0 pl ac ft md Z P rz u) : fo ft u.1 := by
  rcases h with ⟨_, rfl, g2⟩ | ⟨x_t, _, rfl, g2, g3, g4⟩ | ⟨_, rfl, g2, g3, g4⟩ | ⟨x_t, _, rfl, g2, g3, g4, g5, g6⟩ | ⟨_, rfl, g2, g3, g4, g5⟩ | ⟨x_t, x_y, _, rfl, g2, g3, g4, g5, g6, g7, g8⟩ | ⟨x_t, x_y, x_q, _, rfl, g2, g3, g4, g5, g6, g7, g8, g9, g10⟩ | ⟨x_t, x_y, x_o, _, rfl, g2, g3, g4, g5, g6, g7, g8, g9⟩
  · exact Or.inr ⟨2, by decide, rfl⟩
  · exact Or.inr ⟨3, by decide, rfl⟩
  · exact Or.inr ⟨2, by decide, rfl⟩
  · exact Or.inr ⟨3, by decide, rfl⟩
  · exact Or.inr ⟨1, by decide, rfl⟩
  · exact Or.inr ⟨2, by decide, rfl⟩
  · exact Or.inr ⟨5, by decide, rfl⟩
  · exact Or.inl rfl
theorem fo_makeCase {a0 : Int32} {b0 : Int32} {c0 : Int32} {pl : Nat → Option Nat} {ac : Int64} {ft : Int32} {md : Int32} {Z : cZ} {P : cQ} {rz : Int64} {u : (Nat → Option Nat) × Int32 × Int32 × cQ} (h : q_X11_makeCase a0 b0 c0 pl ac ft md Z P rz u) : fo ft u.2.1 := by
  rcases h with ⟨_, rfl, g2⟩ | ⟨_, rfl, g2, g3⟩ | ⟨_, rfl, g2, g3, g4⟩ | ⟨x_q, x_y, _, rfl, g2, g3, g4, g5, g6, g7, g8⟩ | ⟨x_q, x_y, _, rfl, g2, g3, g4, g5, g6, g7, g8⟩ | ⟨x_q, x_y, _, rfl, g2, g3, g4, g5, g6, g7, g8, g9⟩
  · exact Or.inr ⟨6, by decide, rfl⟩
  · exact Or.inr ⟨2, by decide, rfl⟩
  · exact Or.inr ⟨4, by decide, rfl⟩
  · exact Or.inl rfl
  · exact Or.inl rfl
  · exact Or.inl rfl
theorem fo_makeBox {a0 : Int32} {b0 : Int32} {pl : Nat → Option Nat} {ac : Int64} {ft : Int32} {md : Int32} {Z : cZ} {P : cQ} {rz : Int64} {u : (Nat → Option Nat) × Int32 × Int32 × cQ} (h : q_X11_makeBox a0 b0 pl ac ft md Z P rz u) : fo ft u.2.1 := by
  rcases h with ⟨_, rfl, g2⟩ | ⟨_, rfl, g2, g3⟩ | ⟨x_q, _, rfl, g2, g3, g4, g5⟩ | ⟨x_q, _, rfl, g2, g3, g4, g5⟩ | ⟨x_q, _, rfl, g2, g3, g4, g5⟩ | ⟨x_q, _, rfl, g2, g3, g4, g5, g6, g7⟩
  · exact Or.inr ⟨6, by decide, rfl⟩
  · exact Or.inr ⟨2, by decide, rfl⟩
  · exact Or.inl rfl
  · exact Or.inl rfl
  · exact Or.inl rfl
  · exact Or.inl rfl
theorem fo_makeLetter {a0 : Int32} {b0 : Int32} {pl : Nat → Option Nat} {ac : Int64} {ft : Int32} {md : Int32} {Z : cZ} {P : cQ} {rz : Int64} {u : (Nat → Option Nat) × Int32 × Int32 × cQ} (h : q_X11_makeLetter a0 b0 pl ac ft md Z P rz u) : fo ft u.2.1 := by
  rcases h with ⟨_, rfl, g2⟩ | ⟨_, rfl, g2, g3⟩ | ⟨x_q, x_z, _, rfl, g2, g3, g4, g5⟩
  · exact Or.inr ⟨6, by decide, rfl⟩
  · exact Or.inr ⟨2, by decide, rfl⟩
  · exact Or.inl rfl
theorem fo_boxValue {a0 : Int32} {pl : Nat → Option Nat} {ac : Int64} {ft : Int32} {md : Int32} {Z : cZ} {P : cQ} {rz : Int64} {u : Int32} (h : q_X11_boxValue a0 pl ac ft md Z P rz u) : fo ft u := by
  rcases h with ⟨_, rfl, g2⟩ | ⟨x_t, _, rfl, g2, g3, g4⟩ | ⟨_, rfl, g2, g3⟩ | ⟨x_t, _, rfl, g2, g3, g4⟩
  · exact Or.inr ⟨2, by decide, rfl⟩
  · exact Or.inr ⟨3, by decide, rfl⟩
  · exact Or.inr ⟨1, by decide, rfl⟩
  · exact Or.inl rfl
theorem fo_changeBox {a0 : Int32} {pl : Nat → Option Nat} {ac : Int64} {ft : Int32} {md : Int32} {Z : cZ} {P : cQ} {rz : Int64} {u : Int32 × cQ} (h : q_X11_changeBox a0 pl ac ft md Z P rz u) : fo ft u.1 := by
  rcases h with ⟨_, rfl, g2⟩ | ⟨x_t, _, rfl, g2, g3, g4⟩ | ⟨_, rfl, g2, g3⟩ | ⟨x_t, _, rfl, g2, g3, g4⟩
  · exact Or.inr ⟨2, by decide, rfl⟩
  · exact Or.inr ⟨3, by decide, rfl⟩
  · exact Or.inr ⟨1, by decide, rfl⟩
  · exact Or.inl rfl
theorem fo_linkBox {a0 : Int32} {b0 : Int32} {pl : Nat → Option Nat} {ac : Int64} {ft : Int32} {md : Int32} {Z : cZ} {P : cQ} {rz : Int64} {u : Int32 × cQ} (h : q_X11_linkBox a0 b0 pl ac ft md Z P rz u) : fo ft u.1 := by
  rcases h with ⟨_, rfl, g2⟩ | ⟨x_t, _, rfl, g2, g3, g4⟩ | ⟨_, rfl, g2, g3, g4⟩ | ⟨x_t, _, rfl, g2, g3, g4, g5, g6⟩ | ⟨_, rfl, g2, g3, g4, g5⟩ | ⟨x_t, x_o, _, rfl, g2, g3, g4, g5, g6, g7⟩
  · exact Or.inr ⟨2, by decide, rfl⟩
  · exact Or.inr ⟨3, by decide, rfl⟩
  · exact Or.inr ⟨2, by decide, rfl⟩
  · exact Or.inr ⟨3, by decide, rfl⟩
  · exact Or.inr ⟨1, by decide, rfl⟩
  · exact Or.inl rfl
theorem fo_followBox {a0 : Int32} {b0 : Int32} {pl : Nat → Option Nat} {ac : Int64} {ft : Int32} {md : Int32} {Z : cZ} {P : cQ} {rz : Int64} {u : (Nat → Option Nat) × Int32} (h : q_X11_followBox a0 b0 pl ac ft md Z P rz u) : fo ft u.2 := by
  rcases h with ⟨_, rfl, g2⟩ | ⟨_, rfl, g2, g3⟩ | ⟨x_t, _, rfl, g2, g3, g4, g5⟩ | ⟨_, rfl, g2, g3, g4⟩ | ⟨x_t, x_o, _, rfl, g2, g3, g4, g5, g6⟩
  · exact Or.inr ⟨2, by decide, rfl⟩
  · exact Or.inr ⟨2, by decide, rfl⟩
  · exact Or.inr ⟨3, by decide, rfl⟩
  · exact Or.inr ⟨1, by decide, rfl⟩
  · exact Or.inl rfl
theorem fo_weigh {a0 : Int32} {b0 : Int32} {pl : Nat → Option Nat} {ac : Int64} {ft : Int32} {md : Int32} {Z : cZ} {P : cQ} {rz : Int64} {u : Int32} (h : q_X11_weigh a0 b0 pl ac ft md Z P rz u) : fo ft u := by
  rcases h with ⟨_, rfl, g2⟩ | ⟨x_t, _, rfl, g2, g3, g4⟩ | ⟨_, rfl, g2, g3⟩ | ⟨x_t, _, rfl, g2, g3, g4⟩
  · exact Or.inr ⟨2, by decide, rfl⟩
  · exact Or.inr ⟨3, by decide, rfl⟩
  · exact Or.inr ⟨1, by decide, rfl⟩
  · exact Or.inl rfl
theorem fo_roll {a0 : Int32} {b0 : Int32} {pl : Nat → Option Nat} {ac : Int64} {ft : Int32} {md : Int32} {Z : cZ} {P : cQ} {rz : Int64} {u : Int32} (h : q_X11_roll a0 b0 pl ac ft md Z P rz u) : fo ft u := by
  rcases h with ⟨_, rfl, g2⟩ | ⟨x_t, _, rfl, g2, g3, g4⟩ | ⟨_, rfl, g2, g3⟩ | ⟨x_t, _, rfl, g2, g3, g4⟩
  · exact Or.inr ⟨2, by decide, rfl⟩
  · exact Or.inr ⟨3, by decide, rfl⟩
  · exact Or.inr ⟨1, by decide, rfl⟩
  · exact Or.inl rfl
theorem fo_rim {a0 : Int32} {pl : Nat → Option Nat} {ac : Int64} {ft : Int32} {md : Int32} {Z : cZ} {P : cQ} {rz : Int64} {u : Int32} (h : q_X11_rim a0 pl ac ft md Z P rz u) : fo ft u := by
  rcases h with ⟨_, rfl, g2⟩ | ⟨x_t, _, rfl, g2, g3, g4⟩ | ⟨_, rfl, g2, g3⟩ | ⟨x_t, _, rfl, g2, g3, g4⟩
  · exact Or.inr ⟨2, by decide, rfl⟩
  · exact Or.inr ⟨3, by decide, rfl⟩
  · exact Or.inr ⟨1, by decide, rfl⟩
  · exact Or.inl rfl
theorem fo_raise {a0 : Int32} {pl : Nat → Option Nat} {ac : Int64} {ft : Int32} {md : Int32} {Z : cZ} {P : cQ} {rz : Int64} {u : Int32} (wf : cWF pl P) (h : q_X11_raise a0 pl ac ft md Z P rz u) : fo ft u := by
  rcases h with ⟨_, rfl, g2⟩ | ⟨x_t, _, rfl, g2, g3, g4⟩ | ⟨_, rfl, g2, g3⟩ | ⟨x_t, _, rfl, g2, g3, g4⟩
  · exact Or.inr ⟨2, by decide, rfl⟩
  · exact Or.inr ⟨3, by decide, rfl⟩
  · exact Or.inr ⟨1, by decide, rfl⟩
  · exact fo_let wf (by assumption) (by assumption)
theorem fo_holdsSort {x0 : Int32} {s0 : Int32} {pl : Nat → Option Nat} {ac : Int64} {ft : Int32} {md : Int32} {Z : cZ} {P : cQ} {rz : Int64} {u : Int32} (h : q_X11_holdsSort x0 s0 pl ac ft md Z P rz u) : fo ft u := by
  rcases h with ⟨_, rfl, g2⟩ | ⟨_, rfl, g2, g3⟩ | ⟨x_t, _, rfl, g2, g3, g4⟩ | ⟨x_t, _, rfl, g2, g3, g4⟩
  · exact Or.inr ⟨2, by decide, rfl⟩
  · exact Or.inl rfl
  · exact Or.inl rfl
  · exact Or.inl rfl
theorem fo_clear {x0 : Int32} {pl : Nat → Option Nat} {ac : Int64} {ft : Int32} {md : Int32} {Z : cZ} {P : cQ} {rz : Int64} {u : (Nat → Option Nat) × Int32} (h : q_X11_clear x0 pl ac ft md Z P rz u) : fo ft u.2 := by
  rcases h with ⟨_, rfl, g2⟩ | ⟨_, rfl, g2⟩
  · exact Or.inr ⟨2, by decide, rfl⟩
  · exact Or.inl rfl
theorem fo_move {x0 : Int32} {y0 : Int32} {pl : Nat → Option Nat} {ac : Int64} {ft : Int32} {md : Int32} {Z : cZ} {P : cQ} {rz : Int64} {u : (Nat → Option Nat) × Int32} (h : q_X11_move x0 y0 pl ac ft md Z P rz u) : fo ft u.2 := by
  rcases h with ⟨_, rfl, g2⟩ | ⟨_, rfl, g2, g3⟩ | ⟨_, rfl, g2, g3⟩
  · exact Or.inr ⟨2, by decide, rfl⟩
  · exact Or.inr ⟨2, by decide, rfl⟩
  · exact Or.inl rfl
theorem fo_holdSame {x0 : Int32} {y0 : Int32} {pl : Nat → Option Nat} {ac : Int64} {ft : Int32} {md : Int32} {Z : cZ} {P : cQ} {rz : Int64} {u : Int32} (h : q_X11_holdSame x0 y0 pl ac ft md Z P rz u) : fo ft u := by
  rcases h with ⟨_, rfl, g2⟩ | ⟨_, rfl, g2, g3⟩ | ⟨_, rfl, g2, g3, g4⟩ | ⟨_, rfl, g2, g3, g4⟩
  · exact Or.inr ⟨2, by decide, rfl⟩
  · exact Or.inr ⟨2, by decide, rfl⟩
  · exact Or.inl rfl
  · exact Or.inl rfl
theorem fo_copyCells {x1 : Nat} {i0 : Int32} {x2 : Nat} {j0 : Int32} {n0 : Int32} {pl : Nat → Option Nat} {ac : Int64} {ft : Int32} {md : Int32} {Z : cZ} {P : cQ} {u : Int32 × cQ} (h : q_X11_copyCells x1 i0 x2 j0 n0 pl ac ft md Z P u) : fo ft u.1 := by
  rcases h with ⟨x_y1, rfl, g1, g2⟩ | ⟨x_y1, x_y2, rfl, g1, g2, g3, g4⟩ | ⟨x_y1, x_y2, rfl, g1, g2, g3, g4⟩
  · exact Or.inr ⟨2, by decide, rfl⟩
  · exact Or.inr ⟨2, by decide, rfl⟩
  · exact Or.inl rfl
theorem fo_copyThings {x1 : Nat} {i0 : Int32} {x2 : Nat} {j0 : Int32} {n0 : Int32} {pl : Nat → Option Nat} {ac : Int64} {ft : Int32} {md : Int32} {Z : cZ} {P : cQ} {u : Int32 × cQ} (h : q_X11_copyThings x1 i0 x2 j0 n0 pl ac ft md Z P u) : fo ft u.1 := by
  rcases h with ⟨x_y1, rfl, g1, g2⟩ | ⟨x_y1, x_y2, rfl, g1, g2, g3, g4⟩ | ⟨x_y1, x_y2, rfl, g1, g2, g3, g4, g5⟩ | ⟨x_y1, x_y2, x_d, rfl, g1, g2, g3, g4, g5, g6⟩ | ⟨x_y1, x_y2, x_d, rfl, g1, g2, g3, g4, g5, g6⟩
  · exact Or.inr ⟨2, by decide, rfl⟩
  · exact Or.inr ⟨2, by decide, rfl⟩
  · exact Or.inl rfl
  · exact Or.inl rfl
  · exact Or.inr ⟨5, by decide, rfl⟩
theorem fo_copy {a0 : Int32} {b0 : Int32} {c0 : Int32} {pl : Nat → Option Nat} {ac : Int64} {ft : Int32} {md : Int32} {Z : cZ} {P : cQ} {rz : Int64} {u : Int32 × cQ} (h : q_X11_copy a0 b0 c0 pl ac ft md Z P rz u) : fo ft u.1 := by
  rcases h with ⟨_, rfl, g2⟩ | ⟨_, rfl, g2, g3⟩ | ⟨_, rfl, g2, g3, g4⟩ | ⟨x_t1, _, rfl, g2, g3, g4, g5⟩ | ⟨x_t1, x_t2, x_u9, _, rfl, g2, g3, g4, g5, g6, g7, g8, g9⟩ | ⟨x_t1, x_t2, x_u9, _, rfl, g2, g3, g4, g5, g6, g7, g8⟩ | ⟨x_t1, x_t2, _, rfl, g2, g3, g4, g5, g6, g7⟩
  · exact Or.inr ⟨2, by decide, rfl⟩
  · exact Or.inr ⟨2, by decide, rfl⟩
  · exact Or.inr ⟨1, by decide, rfl⟩
  · exact Or.inr ⟨1, by decide, rfl⟩
  · exact fo_copyCells (by assumption)
  · exact fo_copyThings (by assumption)
  · exact Or.inr ⟨5, by decide, rfl⟩
theorem mk_makeRow {a0 : Int32} {b0 : Int32} {c0 : Int32} {pl : Nat → Option Nat} {ac : Int64} {ft : Int32} {md : Int32} {Z : cZ} {P : cQ} {rz : Int64} {u : (Nat → Option Nat) × Int32 × Int32 × cQ} (h : q_X11_makeRow a0 b0 c0 pl ac ft md Z P rz u) : (kMk 0 a0 b0 c0 md → u.2.2.1 = md + 1) ∧ (¬ kMk 0 a0 b0 c0 md → u.2.2.1 = md) := by
  rcases h with ⟨_, rfl, g2⟩ | ⟨_, rfl, g2, g3⟩ | ⟨_, rfl, g2, g3, g4⟩ | ⟨x_q, x_y, _, rfl, g2, g3, g4, g5, g6, g7⟩
  · exact ⟨fun k => absurd k (by unfold kMk; first | (intro k9; exact absurd k9.1 (by assumption)) | (intro k9; exact absurd k9.2.1 (by assumption)) | (rintro ⟨_, _, k9 | k9 | k9 | k9 | k9⟩ <;> first | exact absurd k9.1 (by decide) | exact absurd k9 (by decide) | exact absurd k9.2 (by assumption) | exact absurd k9.2.1 (by assumption) | exact absurd k9.2.2 (by assumption))), fun _ => rfl⟩
  · exact ⟨fun k => absurd k (by unfold kMk; first | (intro k9; exact absurd k9.1 (by assumption)) | (intro k9; exact absurd k9.2.1 (by assumption)) | (rintro ⟨_, _, k9 | k9 | k9 | k9 | k9⟩ <;> first | exact absurd k9.1 (by decide) | exact absurd k9 (by decide) | exact absurd k9.2 (by assumption) | exact absurd k9.2.1 (by assumption) | exact absurd k9.2.2 (by assumption))), fun _ => rfl⟩
  · exact ⟨fun k => absurd k (by unfold kMk; first | (intro k9; exact absurd k9.1 (by assumption)) | (intro k9; exact absurd k9.2.1 (by assumption)) | (rintro ⟨_, _, k9 | k9 | k9 | k9 | k9⟩ <;> first | exact absurd k9.1 (by decide) | exact absurd k9 (by decide) | exact absurd k9.2 (by assumption) | exact absurd k9.2.1 (by assumption) | exact absurd k9.2.2 (by assumption))), fun _ => rfl⟩
  · exact ⟨fun _ => rfl, fun k => absurd ⟨by assumption, by assumption, Or.inl ⟨rfl, by assumption⟩⟩ k⟩
theorem mk_makeSheet {a0 : Int32} {b0 : Int32} {c0 : Int32} {pl : Nat → Option Nat} {ac : Int64} {ft : Int32} {md : Int32} {Z : cZ} {P : cQ} {rz : Int64} {u : (Nat → Option Nat) × Int32 × Int32 × cQ} (h : q_X11_makeSheet a0 b0 c0 pl ac ft md Z P rz u) : (kMk 4 a0 b0 c0 md → u.2.2.1 = md + 1) ∧ (¬ kMk 4 a0 b0 c0 md → u.2.2.1 = md) := by
  rcases h with ⟨_, rfl, g2⟩ | ⟨_, rfl, g2, g3⟩ | ⟨_, rfl, g2, g3, g4⟩ | ⟨_, rfl, g2, g3, g4, g5⟩ | ⟨x_q, x_y, x_P9, _, rfl, g2, g3, g4, g5, g6, g7, g8, g9⟩
  · exact ⟨fun k => absurd k (by unfold kMk; first | (intro k9; exact absurd k9.1 (by assumption)) | (intro k9; exact absurd k9.2.1 (by assumption)) | (rintro ⟨_, _, k9 | k9 | k9 | k9 | k9⟩ <;> first | exact absurd k9.1 (by decide) | exact absurd k9 (by decide) | exact absurd k9.2 (by assumption) | exact absurd k9.2.1 (by assumption) | exact absurd k9.2.2 (by assumption))), fun _ => rfl⟩
  · exact ⟨fun k => absurd k (by unfold kMk; first | (intro k9; exact absurd k9.1 (by assumption)) | (intro k9; exact absurd k9.2.1 (by assumption)) | (rintro ⟨_, _, k9 | k9 | k9 | k9 | k9⟩ <;> first | exact absurd k9.1 (by decide) | exact absurd k9 (by decide) | exact absurd k9.2 (by assumption) | exact absurd k9.2.1 (by assumption) | exact absurd k9.2.2 (by assumption))), fun _ => rfl⟩
  · exact ⟨fun k => absurd k (by unfold kMk; first | (intro k9; exact absurd k9.1 (by assumption)) | (intro k9; exact absurd k9.2.1 (by assumption)) | (rintro ⟨_, _, k9 | k9 | k9 | k9 | k9⟩ <;> first | exact absurd k9.1 (by decide) | exact absurd k9 (by decide) | exact absurd k9.2 (by assumption) | exact absurd k9.2.1 (by assumption) | exact absurd k9.2.2 (by assumption))), fun _ => rfl⟩
  · exact ⟨fun k => absurd k (by unfold kMk; first | (intro k9; exact absurd k9.1 (by assumption)) | (intro k9; exact absurd k9.2.1 (by assumption)) | (rintro ⟨_, _, k9 | k9 | k9 | k9 | k9⟩ <;> first | exact absurd k9.1 (by decide) | exact absurd k9 (by decide) | exact absurd k9.2 (by assumption) | exact absurd k9.2.1 (by assumption) | exact absurd k9.2.2 (by assumption))), fun _ => rfl⟩
  · exact ⟨fun _ => rfl, fun k => absurd ⟨by assumption, by assumption, Or.inr (Or.inl ⟨rfl, by assumption, by assumption⟩)⟩ k⟩
theorem mk_makeCase {a0 : Int32} {b0 : Int32} {c0 : Int32} {pl : Nat → Option Nat} {ac : Int64} {ft : Int32} {md : Int32} {Z : cZ} {P : cQ} {rz : Int64} {u : (Nat → Option Nat) × Int32 × Int32 × cQ} (h : q_X11_makeCase a0 b0 c0 pl ac ft md Z P rz u) : (kMk 9 a0 b0 c0 md → u.2.2.1 = md + 1) ∧ (¬ kMk 9 a0 b0 c0 md → u.2.2.1 = md) := by
  rcases h with ⟨_, rfl, g2⟩ | ⟨_, rfl, g2, g3⟩ | ⟨_, rfl, g2, g3, g4⟩ | ⟨x_q, x_y, _, rfl, g2, g3, g4, g5, g6, g7, g8⟩ | ⟨x_q, x_y, _, rfl, g2, g3, g4, g5, g6, g7, g8⟩ | ⟨x_q, x_y, _, rfl, g2, g3, g4, g5, g6, g7, g8, g9⟩
  · exact ⟨fun k => absurd k (by unfold kMk; first | (intro k9; exact absurd k9.1 (by assumption)) | (intro k9; exact absurd k9.2.1 (by assumption)) | (rintro ⟨_, _, k9 | k9 | k9 | k9 | k9⟩ <;> first | exact absurd k9.1 (by decide) | exact absurd k9 (by decide) | exact absurd k9.2 (by assumption) | exact absurd k9.2.1 (by assumption) | exact absurd k9.2.2 (by assumption))), fun _ => rfl⟩
  · exact ⟨fun k => absurd k (by unfold kMk; first | (intro k9; exact absurd k9.1 (by assumption)) | (intro k9; exact absurd k9.2.1 (by assumption)) | (rintro ⟨_, _, k9 | k9 | k9 | k9 | k9⟩ <;> first | exact absurd k9.1 (by decide) | exact absurd k9 (by decide) | exact absurd k9.2 (by assumption) | exact absurd k9.2.1 (by assumption) | exact absurd k9.2.2 (by assumption))), fun _ => rfl⟩
  · exact ⟨fun k => absurd k (by unfold kMk; first | (intro k9; exact absurd k9.1 (by assumption)) | (intro k9; exact absurd k9.2.1 (by assumption)) | (rintro ⟨_, _, k9 | k9 | k9 | k9 | k9⟩ <;> first | exact absurd k9.1 (by decide) | exact absurd k9 (by decide) | exact absurd k9.2 (by assumption) | exact absurd k9.2.1 (by assumption) | exact absurd k9.2.2 (by assumption))), fun _ => rfl⟩
  · exact ⟨fun _ => rfl, fun k => absurd ⟨by assumption, by assumption, Or.inr (Or.inr (Or.inl ⟨rfl, by assumption⟩))⟩ k⟩
  · exact ⟨fun _ => rfl, fun k => absurd ⟨by assumption, by assumption, Or.inr (Or.inr (Or.inl ⟨rfl, by assumption⟩))⟩ k⟩
  · exact ⟨fun _ => rfl, fun k => absurd ⟨by assumption, by assumption, Or.inr (Or.inr (Or.inl ⟨rfl, by assumption⟩))⟩ k⟩
theorem mk_makeBox {a0 : Int32} {b0 : Int32} {pl : Nat → Option Nat} {ac : Int64} {ft : Int32} {md : Int32} {Z : cZ} {P : cQ} {rz : Int64} {u : (Nat → Option Nat) × Int32 × Int32 × cQ} {c0 : Int32} (h : q_X11_makeBox a0 b0 pl ac ft md Z P rz u) : (kMk 13 a0 b0 c0 md → u.2.2.1 = md + 1) ∧ (¬ kMk 13 a0 b0 c0 md → u.2.2.1 = md) := by
  rcases h with ⟨_, rfl, g2⟩ | ⟨_, rfl, g2, g3⟩ | ⟨x_q, _, rfl, g2, g3, g4, g5⟩ | ⟨x_q, _, rfl, g2, g3, g4, g5⟩ | ⟨x_q, _, rfl, g2, g3, g4, g5⟩ | ⟨x_q, _, rfl, g2, g3, g4, g5, g6, g7⟩
  · exact ⟨fun k => absurd k (by unfold kMk; first | (intro k9; exact absurd k9.1 (by assumption)) | (intro k9; exact absurd k9.2.1 (by assumption)) | (rintro ⟨_, _, k9 | k9 | k9 | k9 | k9⟩ <;> first | exact absurd k9.1 (by decide) | exact absurd k9 (by decide) | exact absurd k9.2 (by assumption) | exact absurd k9.2.1 (by assumption) | exact absurd k9.2.2 (by assumption))), fun _ => rfl⟩
  · exact ⟨fun k => absurd k (by unfold kMk; first | (intro k9; exact absurd k9.1 (by assumption)) | (intro k9; exact absurd k9.2.1 (by assumption)) | (rintro ⟨_, _, k9 | k9 | k9 | k9 | k9⟩ <;> first | exact absurd k9.1 (by decide) | exact absurd k9 (by decide) | exact absurd k9.2 (by assumption) | exact absurd k9.2.1 (by assumption) | exact absurd k9.2.2 (by assumption))), fun _ => rfl⟩
  · exact ⟨fun _ => rfl, fun k => absurd ⟨by assumption, by assumption, Or.inr (Or.inr (Or.inr (Or.inl rfl)))⟩ k⟩
  · exact ⟨fun _ => rfl, fun k => absurd ⟨by assumption, by assumption, Or.inr (Or.inr (Or.inr (Or.inl rfl)))⟩ k⟩
  · exact ⟨fun _ => rfl, fun k => absurd ⟨by assumption, by assumption, Or.inr (Or.inr (Or.inr (Or.inl rfl)))⟩ k⟩
  · exact ⟨fun _ => rfl, fun k => absurd ⟨by assumption, by assumption, Or.inr (Or.inr (Or.inr (Or.inl rfl)))⟩ k⟩
theorem mk_makeLetter {a0 : Int32} {b0 : Int32} {pl : Nat → Option Nat} {ac : Int64} {ft : Int32} {md : Int32} {Z : cZ} {P : cQ} {rz : Int64} {u : (Nat → Option Nat) × Int32 × Int32 × cQ} {c0 : Int32} (h : q_X11_makeLetter a0 b0 pl ac ft md Z P rz u) : (kMk 14 a0 b0 c0 md → u.2.2.1 = md + 1) ∧ (¬ kMk 14 a0 b0 c0 md → u.2.2.1 = md) := by
  rcases h with ⟨_, rfl, g2⟩ | ⟨_, rfl, g2, g3⟩ | ⟨x_q, x_z, _, rfl, g2, g3, g4, g5⟩
  · exact ⟨fun k => absurd k (by unfold kMk; first | (intro k9; exact absurd k9.1 (by assumption)) | (intro k9; exact absurd k9.2.1 (by assumption)) | (rintro ⟨_, _, k9 | k9 | k9 | k9 | k9⟩ <;> first | exact absurd k9.1 (by decide) | exact absurd k9 (by decide) | exact absurd k9.2 (by assumption) | exact absurd k9.2.1 (by assumption) | exact absurd k9.2.2 (by assumption))), fun _ => rfl⟩
  · exact ⟨fun k => absurd k (by unfold kMk; first | (intro k9; exact absurd k9.1 (by assumption)) | (intro k9; exact absurd k9.2.1 (by assumption)) | (rintro ⟨_, _, k9 | k9 | k9 | k9 | k9⟩ <;> first | exact absurd k9.1 (by decide) | exact absurd k9 (by decide) | exact absurd k9.2 (by assumption) | exact absurd k9.2.1 (by assumption) | exact absurd k9.2.2 (by assumption))), fun _ => rfl⟩
  · exact ⟨fun _ => rfl, fun k => absurd ⟨by assumption, by assumption, Or.inr (Or.inr (Or.inr (Or.inr rfl)))⟩ k⟩
theorem km_no {w a b c md : Int32} (h : w ≠ 0 ∧ w ≠ 4 ∧ w ≠ 9 ∧ w ≠ 13 ∧ w ≠ 14) : ¬ kMk w a b c md := by
  rintro ⟨_, _, k9 | k9 | k9 | k9 | k9⟩
  · exact h.1 k9.1
  · exact h.2.1 k9.1
  · exact h.2.2.1 k9.1
  · exact h.2.2.2.1 k9
  · exact h.2.2.2.2 k9
set_option maxHeartbeats 800000 in
theorem wq_answerOf {w0 : Int32} {a0 : Int32} {b0 : Int32} {c0 : Int32} {pl : Nat → Option Nat} {ac : Int64} {ft : Int32} {md : Int32} {Z : cZ} {P : cQ} {rz : Int64} {u : (Nat → Option Nat) × Int32 × Int32 × cQ} (wf : cWF pl P) (h : q_X11_answerOf w0 a0 b0 c0 pl ac ft md Z P rz u) : cWF u.1 u.2.2.2 ∧ fo ft u.2.1 ∧ (kMk w0 a0 b0 c0 md → u.2.2.1 = md + 1) ∧ (¬ kMk w0 a0 b0 c0 md → u.2.2.1 = md) := by
  rcases h with ⟨x_r9, x_u9, _, rfl, g2, g3⟩ | ⟨x_r9, x_u9, _, rfl, g2, g3⟩ | ⟨x_r9, x_u9, _, rfl, g2, g3⟩ | ⟨x_r9, x_u9, _, rfl, g2, g3⟩ | ⟨x_r9, x_u9, _, rfl, g2, g3⟩ | ⟨_, rfl, g2, g3⟩ | ⟨x_t, _, rfl, g2, g3, g4, g5⟩ | ⟨_, rfl, g2, g3, g4⟩ | ⟨x_t, x_y, _, rfl, g2, g3, g4, g5, g6, g7⟩ | ⟨x_t, x_y, _, rfl, g2, g3, g4, g5, g6, g7, g8⟩ | ⟨x_t, x_y, x_q, x_z, _, rfl, g2, g3, g4, g5, g6, g7, g8, g9, g10⟩ | ⟨x_t, x_y, x_q, x_z, _, rfl, g2, g3, g4, g5, g6, g7, g8, g9, g10, g11, g12⟩ | ⟨_, rfl, g2, g3⟩ | ⟨x_t, _, rfl, g2, g3, g4, g5⟩ | ⟨_, rfl, g2, g3, g4⟩ | ⟨x_t, x_y, _, rfl, g2, g3, g4, g5, g6, g7⟩ | ⟨x_t, x_y, _, rfl, g2, g3, g4, g5, g6, g7, g8⟩ | ⟨x_t, x_y, x_q, x_z, _, rfl, g2, g3, g4, g5, g6, g7, g8, g9, g10⟩ | ⟨x_t, x_y, x_q, x_z, _, rfl, g2, g3, g4, g5, g6, g7, g8, g9, g10, g11, g12⟩ | ⟨x_r9, x_u9, _, rfl, g2, g3⟩ | ⟨x_r9, x_u9, _, rfl, g2, g3⟩ | ⟨x_r9, x_u9, _, rfl, g2, g3⟩ | ⟨x_r9, x_u9, _, rfl, g2, g3⟩ | ⟨x_r9, x_u9, _, rfl, g2, g3⟩ | ⟨x_r9, x_u9, _, rfl, g2, g3⟩ | ⟨x_r9, x_u9, _, rfl, g2, g3⟩ | ⟨x_r9, x_u9, _, rfl, g2, g3⟩ | ⟨x_r9, x_u9, _, rfl, g2, g3⟩ | ⟨x_r9, x_u9, _, rfl, g2, g3⟩ | ⟨x_r9, x_u9, _, rfl, g2, g3⟩ | ⟨x_r9, x_u9, _, rfl, g2, g3⟩ | ⟨x_r9, x_u9, _, rfl, g2, g3⟩ | ⟨x_r9, x_u9, _, rfl, g2, g3⟩ | ⟨x_r9, x_u9, _, rfl, g2, g3⟩ | ⟨_, rfl, g2, g3⟩ | ⟨_, rfl, g2, g3⟩ | ⟨_, rfl, g2, g3⟩ | ⟨_, rfl, g2, g3⟩ | ⟨_, rfl, g2, g3⟩ | ⟨_, rfl, g2, g3⟩ | ⟨_, rfl, g2, g3⟩ | ⟨_, rfl, g2, g3⟩ | ⟨x_r9, x_u9, _, rfl, g2, g3⟩ | ⟨x_r9, x_u9, _, rfl, g2, g3⟩ | ⟨x_r9, x_u9, _, rfl, g2, g3⟩ | ⟨x_r9, x_u9, _, rfl, g2, g3⟩ | ⟨x_r9, x_u9, _, rfl, g2, g3⟩ | ⟨x_r9, x_u9, _, rfl, g2, g3⟩ | ⟨_, rfl, g2, g3, g4, g5, g6, g7, g8, g9, g10, g11, g12, g13, g14, g15, g16, g17, g18, g19, g20, g21, g22, g23, g24, g25, g26, g27, g28, g29, g30, g31, g32, g33⟩
  · subst g2; have w9 := wq_makeRow wf g3; exact ⟨w9, fo_makeRow g3, mk_makeRow g3⟩
  · subst g2; have w9 := wf; have w8 := fo_rowCell g3; exact ⟨w9, w8, fun k => absurd k (km_no (by decide)), fun _ => rfl⟩
  · subst g2; have w9 := wq_setRowCell wf g3; have w8 := fo_setRowCell g3; exact ⟨w9, w8, fun k => absurd k (km_no (by decide)), fun _ => rfl⟩
  · subst g2; have w9 := wf; have w8 := fo_rowLength g3; exact ⟨w9, w8, fun k => absurd k (km_no (by decide)), fun _ => rfl⟩
  · subst g2; have w9 := wq_makeSheet wf g3; exact ⟨w9, fo_makeSheet g3, mk_makeSheet g3⟩
  · subst g2; exact ⟨wf, Or.inr ⟨2, by decide, rfl⟩, fun k => absurd k (km_no (by decide)), fun _ => rfl⟩
  · subst g2; exact ⟨wf, Or.inr ⟨3, by decide, rfl⟩, fun k => absurd k (km_no (by decide)), fun _ => rfl⟩
  · subst g2; exact ⟨wf, Or.inr ⟨1, by decide, rfl⟩, fun k => absurd k (km_no (by decide)), fun _ => rfl⟩
  · subst g2; exact ⟨wf, Or.inr ⟨2, by decide, rfl⟩, fun k => absurd k (km_no (by decide)), fun _ => rfl⟩
  · subst g2; exact ⟨wf, Or.inr ⟨1, by decide, rfl⟩, fun k => absurd k (km_no (by decide)), fun _ => rfl⟩
  · subst g2; exact ⟨wf, Or.inr ⟨2, by decide, rfl⟩, fun k => absurd k (km_no (by decide)), fun _ => rfl⟩
  · subst g2; exact ⟨wf, Or.inl rfl, fun k => absurd k (km_no (by decide)), fun _ => rfl⟩
  · subst g2; exact ⟨wf, Or.inr ⟨2, by decide, rfl⟩, fun k => absurd k (km_no (by decide)), fun _ => rfl⟩
  · subst g2; exact ⟨wf, Or.inr ⟨3, by decide, rfl⟩, fun k => absurd k (km_no (by decide)), fun _ => rfl⟩
  · subst g2; exact ⟨wf, Or.inr ⟨1, by decide, rfl⟩, fun k => absurd k (km_no (by decide)), fun _ => rfl⟩
  · subst g2; exact ⟨wf, Or.inr ⟨2, by decide, rfl⟩, fun k => absurd k (km_no (by decide)), fun _ => rfl⟩
  · subst g2; exact ⟨wf, Or.inr ⟨1, by decide, rfl⟩, fun k => absurd k (km_no (by decide)), fun _ => rfl⟩
  · subst g2; exact ⟨wf, Or.inr ⟨2, by decide, rfl⟩, fun k => absurd k (km_no (by decide)), fun _ => rfl⟩
  · subst g2; exact ⟨wf_lc wf _ _, Or.inl rfl, fun k => absurd k (km_no (by decide)), fun _ => rfl⟩
  · subst g2; have w9 := wq_takeOut (by decide) wf g3; have w8 := fo_takeOut g3; exact ⟨w9, w8, fun k => absurd k (km_no (by decide)), fun _ => rfl⟩
  · subst g2; have w9 := wq_putIn (by decide) wf g3; have w8 := fo_putIn g3; exact ⟨w9, w8, fun k => absurd k (km_no (by decide)), fun _ => rfl⟩
  · subst g2; have w9 := wq_makeCase wf g3; exact ⟨w9, fo_makeCase g3, mk_makeCase g3⟩
  · subst g2; have w9 := wq_putIn (by decide) wf g3; have w8 := fo_putIn g3; exact ⟨w9, w8, fun k => absurd k (km_no (by decide)), fun _ => rfl⟩
  · subst g2; have w9 := wq_putIn (by decide) wf g3; have w8 := fo_putIn g3; exact ⟨w9, w8, fun k => absurd k (km_no (by decide)), fun _ => rfl⟩
  · subst g2; have w9 := wq_takeOut (by decide) wf g3; have w8 := fo_takeOut g3; exact ⟨w9, w8, fun k => absurd k (km_no (by decide)), fun _ => rfl⟩
  · subst g2; have w9 := wq_makeBox wf g3; exact ⟨w9, fo_makeBox g3, mk_makeBox g3⟩
  · subst g2; have w9 := wq_makeLetter wf g3; exact ⟨w9, fo_makeLetter g3, mk_makeLetter g3⟩
  · subst g2; have w9 := wf; have w8 := fo_boxValue g3; exact ⟨w9, w8, fun k => absurd k (km_no (by decide)), fun _ => rfl⟩
  · subst g2; have w9 := wq_changeBox wf g3; have w8 := fo_changeBox g3; exact ⟨w9, w8, fun k => absurd k (km_no (by decide)), fun _ => rfl⟩
  · subst g2; have w9 := wq_linkBox wf g3; have w8 := fo_linkBox g3; exact ⟨w9, w8, fun k => absurd k (km_no (by decide)), fun _ => rfl⟩
  · subst g2; have w9 := wq_followBox wf g3; have w8 := fo_followBox g3; exact ⟨w9, w8, fun k => absurd k (km_no (by decide)), fun _ => rfl⟩
  · subst g2; have w9 := wf; have w8 := fo_weigh g3; exact ⟨w9, w8, fun k => absurd k (km_no (by decide)), fun _ => rfl⟩
  · subst g2; have w9 := wf; have w8 := fo_roll g3; exact ⟨w9, w8, fun k => absurd k (km_no (by decide)), fun _ => rfl⟩
  · subst g2; have w9 := wf; have w8 := fo_rim g3; exact ⟨w9, w8, fun k => absurd k (km_no (by decide)), fun _ => rfl⟩
  · subst g2; exact ⟨wf, Or.inr ⟨0, by decide, rfl⟩, fun k => absurd k (km_no (by decide)), fun _ => rfl⟩
  · subst g2; exact ⟨wf, Or.inl rfl, fun k => absurd k (km_no (by decide)), fun _ => rfl⟩
  · subst g2; exact ⟨wf, Or.inr ⟨0, by decide, rfl⟩, fun k => absurd k (km_no (by decide)), fun _ => rfl⟩
  · subst g2; exact ⟨wf, Or.inl rfl, fun k => absurd k (km_no (by decide)), fun _ => rfl⟩
  · subst g2; exact ⟨wf, Or.inr ⟨0, by decide, rfl⟩, fun k => absurd k (km_no (by decide)), fun _ => rfl⟩
  · subst g2; exact ⟨wf, Or.inl rfl, fun k => absurd k (km_no (by decide)), fun _ => rfl⟩
  · subst g2; exact ⟨wf, Or.inr ⟨0, by decide, rfl⟩, fun k => absurd k (km_no (by decide)), fun _ => rfl⟩
  · subst g2; exact ⟨wf, Or.inl rfl, fun k => absurd k (km_no (by decide)), fun _ => rfl⟩
  · subst g2; have w9 := wf; have w8 := fo_raise wf g3; exact ⟨w9, w8, fun k => absurd k (km_no (by decide)), fun _ => rfl⟩
  · subst g2; have w9 := wf; have w8 := fo_holdsSort g3; exact ⟨w9, w8, fun k => absurd k (km_no (by decide)), fun _ => rfl⟩
  · subst g2; have w9 := wq_clear wf g3; have w8 := fo_clear g3; exact ⟨w9, w8, fun k => absurd k (km_no (by decide)), fun _ => rfl⟩
  · subst g2; have w9 := wq_move wf g3; have w8 := fo_move g3; exact ⟨w9, w8, fun k => absurd k (km_no (by decide)), fun _ => rfl⟩
  · subst g2; have w9 := wf; have w8 := fo_holdSame g3; exact ⟨w9, w8, fun k => absurd k (km_no (by decide)), fun _ => rfl⟩
  · subst g2; have w9 := wq_copy wf g3; have w8 := fo_copy g3; exact ⟨w9, w8, fun k => absurd k (km_no (by decide)), fun _ => rfl⟩
  · exact ⟨wf, Or.inl rfl, fun k => absurd k (km_no ⟨g2, g6, g11, g15, g16⟩), fun _ => rfl⟩
